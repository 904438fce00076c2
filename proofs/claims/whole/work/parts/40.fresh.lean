/-- the best new pair so far: its fields, its sum -/
abbrev XBp : Type := Option (Nat × Nat × Nat)
def bpS (P : XP) (G : Nat → Nat → Nat) (a b : Nat) (st : XBp) : XBp := if pBw P a b = true then st else match st with
  | none => some (a, b, G a b)
  | some (x, y, l) => if G a b < l then some (a, b, G a b) else some (x, y, l)
def bpR (P : XP) (G : Nat → Nat → Nat) (a : Nat) (st : XBp) : XBp := itr (fun i st => bpS P G a (a + 1 + i) st) (pF P - (a + 1)) st
def bpA (P : XP) (G : Nat → Nat → Nat) : XBp := itr (fun a st => bpR P G a st) (pF P) none
def bp1 : XBp → Int32
  | none => -4
  | some (x, y, _) => nI (10 * x + y)
def bp2 : XBp → Nat
  | none => 0
  | some (_, _, l) => l
def bpK (F : Nat) (G : Nat → Nat → Nat) (st : XBp) : Prop := ∀ x y l, st = some (x, y, l) → x < F ∧ y < F ∧ l = G x y
theorem bpS_K {P : XP} {F : Nat} {G : Nat → Nat → Nat} {a b : Nat} {st : XBp} (ha : a < F) (hb : b < F) (h : bpK F G st) : bpK F G (bpS P G a b st) := by
  intro x y l e
  unfold bpS at e
  split at e
  · exact h x y l e
  · split at e
    · cases e; exact ⟨ha, hb, rfl⟩
    · split at e
      · cases e; exact ⟨ha, hb, rfl⟩
      · exact h x y l e
theorem bp1_ne {F : Nat} {G : Nat → Nat → Nat} (hF : F ≤ 8) {x y l : Nat} (h : bpK F G (some (x, y, l))) : (nI (10 * x + y) = -4) = False := by
  obtain ⟨h1, h2, -⟩ := h x y l rfl
  have key : ∀ x : Nat, x < 8 → ∀ y : Nat, y < 8 → ¬ nI (10 * x + y) = -4 := by decide +kernel
  exact eq_false (key x (by omega) y (by omega))
section FR
variable {h : XH} {Y : XSy} {c : Nat} {M : XMx}
theorem bnp1_d (H : DAt h Y) (K : YOK c Y) (HM : MAt h 97 (pF (yP Y)) M) (B : MB M) {a : Nat} (ha : a < pF (yP Y)) {st : XBp} (hst : bpK (pF (yP Y)) (fun a b => alS (wiM M a b) (pF (yP Y))) st) (u : Option Value) : ∃ u', s_loop 1000 lc_X9_bestNewPair_1 la_X9_bestNewPair_1 lu_X9_bestNewPair_1 [some (.ref 0), some (.int (bp1 st)), some (.int (nI (bp2 st))), some (.int (nI a)), some (.int (nI (a + 1))), u] h = some (none, [some (.ref 0), some (.int (bp1 (bpR (yP Y) (fun a b => alS (wiM M a b) (pF (yP Y))) a st))), some (.int (nI (bp2 (bpR (yP Y) (fun a b => alS (wiM M a b) (pF (yP Y))) a st)))), some (.int (nI a)), some (.int (nI (pF (yP Y)))), u'], h) ∧ bpK (pF (yP Y)) (fun a b => alS (wiM M a b) (pF (yP Y))) (bpR (yP Y) (fun a b => alS (wiM M a b) (pF (yP Y))) a st) := by
  obtain ⟨g0, g1, g2, g3, g4, g5, g6, g7, g8⟩ := id H
  have O := K.2.1
  have hF := O.2.1
  have p0 := g2.1
  have hG : ∀ a b, alS (wiM M a b) (pF (yP Y)) < 2 ^ 20 := fun a b => by
    have h1 := alS_le (wiM_B B a b) (pF (yP Y))
    have h2 : pF (yP Y) * (pF (yP Y) * 20) ≤ 8 * (8 * 20) := Nat.mul_le_mul hF (Nat.mul_le_mul_right 20 hF)
    omega
  have hsw := fun (b : Nat) (hb : b < pF (yP Y)) => sumWith_x HM B hF ha hb
  generalize hGe : (fun a b => alS (wiM M a b) (pF (yP Y))) = G at hst ⊢
  have hGe' : ∀ a b, alS (wiM M a b) (pF (yP Y)) = G a b := fun a b => by rw [← hGe]
  obtain ⟨env9, h9, l9', ⟨⟨u', rfl⟩, hk9⟩, l10'⟩ := s_loop_J (c := lc_X9_bestNewPair_1) (a := la_X9_bestNewPair_1) (u := lu_X9_bestNewPair_1) (env := [some (.ref 0), some (.int (bp1 st)), some (.int (nI (bp2 st))), some (.int (nI a)), some (.int (nI (a + 1))), u]) (h := h) (fun j env g => ((∃ u, env = [some (.ref 0), some (.int (bp1 (itr (fun i st => bpS (yP Y) G a (a + 1 + i) st) j st))), some (.int (nI (bp2 (itr (fun i st => bpS (yP Y) G a (a + 1 + i) st) j st)))), some (.int (nI a)), some (.int (nI (a + 1 + j))), u]) ∧ bpK (pF (yP Y)) G (itr (fun i st => bpS (yP Y) G a (a + 1 + i) st) j st)) ∧ g = h) (pF (yP Y) - (a + 1)) 1000 (by omega) ⟨⟨⟨u, rfl⟩, hst⟩, rfl⟩
    (fun j env g hj hJ => by
      obtain ⟨⟨⟨u, rfl⟩, hk⟩, rfl⟩ := hJ
      have hlt : a + 1 + j < pF (yP Y) := by omega
      show ∃ env' k', s_step lc_X9_bestNewPair_1 la_X9_bestNewPair_1 lu_X9_bestNewPair_1 [some (.ref 0), some (.int (bp1 (itr (fun i st => bpS (yP Y) G a (a + 1 + i) st) j st))), some (.int (nI (bp2 (itr (fun i st => bpS (yP Y) G a (a + 1 + i) st) j st)))), some (.int (nI a)), some (.int (nI (a + 1 + j))), u] g = some (.inr (env', k')) ∧ ((∃ u, env' = [some (.ref 0), some (.int (bp1 (bpS (yP Y) G a (a + 1 + j) (itr (fun i st => bpS (yP Y) G a (a + 1 + i) st) j st)))), some (.int (nI (bp2 (bpS (yP Y) G a (a + 1 + j) (itr (fun i st => bpS (yP Y) G a (a + 1 + i) st) j st))))), some (.int (nI a)), some (.int (nI (a + 1 + (j + 1)))), u]) ∧ bpK (pF (yP Y)) G (bpS (yP Y) G a (a + 1 + j) (itr (fun i st => bpS (yP Y) G a (a + 1 + i) st) j st))) ∧ k' = g
      generalize itr (fun i st => bpS (yP Y) G a (a + 1 + i) st) j st = s0 at hk ⊢
      have hk' := bpS_K (P := yP Y) ha hlt hk
      have b1 := hasStileBetween_x g2 O (a := a) (b := a + 1 + j) (by omega) (by omega)
      have b2 := hsw (a + 1 + j) hlt
      rw [hGe'] at b2
      have hg1 := hG a (a + 1 + j)
      rw [hGe'] at hg1
      have c1 : (10 : Int32) * nI a = nI (10 * a) := nI_m 10 a
      have en : ∀ w : Option Value, ([some (.ref 0), some (.int (nI (10 * a + (a + 1 + j)))), some (.int (nI (G a (a + 1 + j)))), some (.int (nI a)), some (.int (nI (a + 1 + j + 1))), w] : XE) = [some (.ref 0), some (.int (bp1 (some (a, a + 1 + j, G a (a + 1 + j))))), some (.int (nI (bp2 (some (a, a + 1 + j, G a (a + 1 + j)))))), some (.int (nI a)), some (.int (nI (a + 1 + (j + 1)))), w] := fun w => rfl
      cases q1 : pBw (yP Y) a (a + 1 + j) with
      | true =>
        rw [q1] at b1
        have e1 : bpS (yP Y) G a (a + 1 + j) s0 = s0 := by unfold bpS; rw [if_pos q1]
        rw [e1]
        refine ⟨_, g, ?_, ⟨⟨u, rfl⟩, hk⟩, rfl⟩
        simp (disch := omega) only [lc_X9_bestNewPair_1, la_X9_bestNewPair_1, lu_X9_bestNewPair_1, s_step, x_out, s_seq, s_ite, s_ret, s_retZ, s_retV, s_iasg, s_aasg, s_lasg, s_inc, s_put, s_putop, s_ast, s_astop, s_exp, s_call, s_skip, s_brk, s_cont, s_oinit, e_lit, e_long, e_il, e_al, e_ll, e_bin, e_un, e_fld, e_ald, e_tern, e_call, e_alen, b_cmp, b_cmp0, b_lcmp, b_and, b_or, b_not, o_add, o_sub, o_mul, o_and, o_or, o_xor, o_shl, o_shr, o_neg, o_i2l, o_l2i, o_i2c, r_eq, r_ne, r_lt, r_ge, r_gt, r_le, r_eq0, r_ne0, r_lt0, r_ge0, r_gt0, r_le0, x_fld, x_int, x_ref, x_long, x_args, x_nar, xKd, xst1, xst2, xlg, Option.bind_some, Option.bind_none, Option.map_some, Option.map_none, List.getElem?_cons_zero, List.getElem?_cons_succ, List.set_cons_zero, List.set_cons_succ, List.length_cons, List.length_nil, List.length_map, List.length_range, List.length_set, decide_eq_true_eq, if_true, if_false, reduceIte, reduceCtorEq, Bool.not_true, Bool.not_false, Bool.false_eq_true, x_ix_nI, ax_get, ax_set, e_aald, s_aast, true_and, and_true, ite_true, ite_false, ↓bI_01, bI_eq0, bI_eq1, bool_or, tern_pure, and_pure, or_pure, bI_def, bne_t, ndf, decide_not, Bool.decide_eq_true, Bool.decide_and, Bool.decide_or, Nat.reduceEqDiff, Nat.reduceAdd, Nat.reduceMul, Nat.reduceSub, Nat.reduceLT, Nat.reduceLeDiff, or_false, false_or, or_true, true_or, and_false, false_and, Bool.or_eq_true, Bool.and_eq_true, Bool.or_false, Bool.or_true, Bool.true_or, Bool.false_or, Bool.and_true, Bool.and_false, Bool.true_and, Bool.false_and, decide_true, decide_false, not_true_eq_false, not_false_eq_true, nI_ltI, nI_1, g0, p0, hlt, b1, ← Nat.add_assoc]
      | false =>
        rw [q1] at b1
        cases s0 with
        | none =>
          have e1 : bpS (yP Y) G a (a + 1 + j) none = some (a, a + 1 + j, G a (a + 1 + j)) := by unfold bpS; rw [if_neg (by simp [q1])]
          rw [e1] at hk' ⊢
          refine ⟨_, g, ?_, ⟨⟨some (.int (nI (G a (a + 1 + j)))), rfl⟩, hk'⟩, rfl⟩
          have e2 : bp1 none = -4 := rfl
          rw [← en]
          simp (disch := omega) only [lc_X9_bestNewPair_1, la_X9_bestNewPair_1, lu_X9_bestNewPair_1, s_step, x_out, s_seq, s_ite, s_ret, s_retZ, s_retV, s_iasg, s_aasg, s_lasg, s_inc, s_put, s_putop, s_ast, s_astop, s_exp, s_call, s_skip, s_brk, s_cont, s_oinit, e_lit, e_long, e_il, e_al, e_ll, e_bin, e_un, e_fld, e_ald, e_tern, e_call, e_alen, b_cmp, b_cmp0, b_lcmp, b_and, b_or, b_not, o_add, o_sub, o_mul, o_and, o_or, o_xor, o_shl, o_shr, o_neg, o_i2l, o_l2i, o_i2c, r_eq, r_ne, r_lt, r_ge, r_gt, r_le, r_eq0, r_ne0, r_lt0, r_ge0, r_gt0, r_le0, x_fld, x_int, x_ref, x_long, x_args, x_nar, xKd, xst1, xst2, xlg, Option.bind_some, Option.bind_none, Option.map_some, Option.map_none, List.getElem?_cons_zero, List.getElem?_cons_succ, List.set_cons_zero, List.set_cons_succ, List.length_cons, List.length_nil, List.length_map, List.length_range, List.length_set, decide_eq_true_eq, if_true, if_false, reduceIte, reduceCtorEq, Bool.not_true, Bool.not_false, Bool.false_eq_true, x_ix_nI, ax_get, ax_set, e_aald, s_aast, true_and, and_true, ite_true, ite_false, ↓bI_01, bI_eq0, bI_eq1, bool_or, tern_pure, and_pure, or_pure, bI_def, bne_t, ndf, decide_not, Bool.decide_eq_true, Bool.decide_and, Bool.decide_or, Nat.reduceEqDiff, Nat.reduceAdd, Nat.reduceMul, Nat.reduceSub, Nat.reduceLT, Nat.reduceLeDiff, or_false, false_or, or_true, true_or, and_false, false_and, Bool.or_eq_true, Bool.and_eq_true, Bool.or_false, Bool.or_true, Bool.true_or, Bool.false_or, Bool.and_true, Bool.and_false, Bool.true_and, Bool.false_and, decide_true, decide_false, not_true_eq_false, not_false_eq_true, nI_ltI, nI_1, nI_add, g0, p0, hlt, b1, b2, e2, c1]
        | some t =>
          obtain ⟨x, y, l⟩ := t
          have e2 := bp1_ne hF hk
          have hl : l < 2 ^ 20 := by
            have := (hk x y l rfl).2.2
            rw [this, ← hGe']
            exact hG x y
          have e3 : bp1 (some (x, y, l)) = nI (10 * x + y) := rfl
          have e4 : bp2 (some (x, y, l)) = l := rfl
          by_cases q2 : G a (a + 1 + j) < l
          · have e1 : bpS (yP Y) G a (a + 1 + j) (some (x, y, l)) = some (a, a + 1 + j, G a (a + 1 + j)) := by unfold bpS; rw [if_neg (by simp [q1])]; exact if_pos q2
            rw [e1] at hk' ⊢
            refine ⟨_, g, ?_, ⟨⟨some (.int (nI (G a (a + 1 + j)))), rfl⟩, hk'⟩, rfl⟩
            rw [← en]
            simp (disch := omega) only [lc_X9_bestNewPair_1, la_X9_bestNewPair_1, lu_X9_bestNewPair_1, s_step, x_out, s_seq, s_ite, s_ret, s_retZ, s_retV, s_iasg, s_aasg, s_lasg, s_inc, s_put, s_putop, s_ast, s_astop, s_exp, s_call, s_skip, s_brk, s_cont, s_oinit, e_lit, e_long, e_il, e_al, e_ll, e_bin, e_un, e_fld, e_ald, e_tern, e_call, e_alen, b_cmp, b_cmp0, b_lcmp, b_and, b_or, b_not, o_add, o_sub, o_mul, o_and, o_or, o_xor, o_shl, o_shr, o_neg, o_i2l, o_l2i, o_i2c, r_eq, r_ne, r_lt, r_ge, r_gt, r_le, r_eq0, r_ne0, r_lt0, r_ge0, r_gt0, r_le0, x_fld, x_int, x_ref, x_long, x_args, x_nar, xKd, xst1, xst2, xlg, Option.bind_some, Option.bind_none, Option.map_some, Option.map_none, List.getElem?_cons_zero, List.getElem?_cons_succ, List.set_cons_zero, List.set_cons_succ, List.length_cons, List.length_nil, List.length_map, List.length_range, List.length_set, decide_eq_true_eq, if_true, if_false, reduceIte, reduceCtorEq, Bool.not_true, Bool.not_false, Bool.false_eq_true, x_ix_nI, ax_get, ax_set, e_aald, s_aast, true_and, and_true, ite_true, ite_false, ↓bI_01, bI_eq0, bI_eq1, bool_or, tern_pure, and_pure, or_pure, bI_def, bne_t, ndf, decide_not, Bool.decide_eq_true, Bool.decide_and, Bool.decide_or, Nat.reduceEqDiff, Nat.reduceAdd, Nat.reduceMul, Nat.reduceSub, Nat.reduceLT, Nat.reduceLeDiff, or_false, false_or, or_true, true_or, and_false, false_and, Bool.or_eq_true, Bool.and_eq_true, Bool.or_false, Bool.or_true, Bool.true_or, Bool.false_or, Bool.and_true, Bool.and_false, Bool.true_and, Bool.false_and, decide_true, decide_false, not_true_eq_false, not_false_eq_true, nI_ltI, nI_1, nI_add, g0, p0, hlt, b1, b2, e2, e3, e4, q2, c1]
          · have e1 : bpS (yP Y) G a (a + 1 + j) (some (x, y, l)) = some (x, y, l) := by unfold bpS; rw [if_neg (by simp [q1])]; exact if_neg q2
            rw [e1]
            refine ⟨_, g, ?_, ⟨⟨some (.int (nI (G a (a + 1 + j)))), rfl⟩, hk⟩, rfl⟩
            simp (disch := omega) only [lc_X9_bestNewPair_1, la_X9_bestNewPair_1, lu_X9_bestNewPair_1, s_step, x_out, s_seq, s_ite, s_ret, s_retZ, s_retV, s_iasg, s_aasg, s_lasg, s_inc, s_put, s_putop, s_ast, s_astop, s_exp, s_call, s_skip, s_brk, s_cont, s_oinit, e_lit, e_long, e_il, e_al, e_ll, e_bin, e_un, e_fld, e_ald, e_tern, e_call, e_alen, b_cmp, b_cmp0, b_lcmp, b_and, b_or, b_not, o_add, o_sub, o_mul, o_and, o_or, o_xor, o_shl, o_shr, o_neg, o_i2l, o_l2i, o_i2c, r_eq, r_ne, r_lt, r_ge, r_gt, r_le, r_eq0, r_ne0, r_lt0, r_ge0, r_gt0, r_le0, x_fld, x_int, x_ref, x_long, x_args, x_nar, xKd, xst1, xst2, xlg, Option.bind_some, Option.bind_none, Option.map_some, Option.map_none, List.getElem?_cons_zero, List.getElem?_cons_succ, List.set_cons_zero, List.set_cons_succ, List.length_cons, List.length_nil, List.length_map, List.length_range, List.length_set, decide_eq_true_eq, if_true, if_false, reduceIte, reduceCtorEq, Bool.not_true, Bool.not_false, Bool.false_eq_true, x_ix_nI, ax_get, ax_set, e_aald, s_aast, true_and, and_true, ite_true, ite_false, ↓bI_01, bI_eq0, bI_eq1, bool_or, tern_pure, and_pure, or_pure, bI_def, bne_t, ndf, decide_not, Bool.decide_eq_true, Bool.decide_and, Bool.decide_or, Nat.reduceEqDiff, Nat.reduceAdd, Nat.reduceMul, Nat.reduceSub, Nat.reduceLT, Nat.reduceLeDiff, or_false, false_or, or_true, true_or, and_false, false_and, Bool.or_eq_true, Bool.and_eq_true, Bool.or_false, Bool.or_true, Bool.true_or, Bool.false_or, Bool.and_true, Bool.and_false, Bool.true_and, Bool.false_and, decide_true, decide_false, not_true_eq_false, not_false_eq_true, nI_ltI, nI_1, nI_add, g0, p0, hlt, b1, b2, e2, e3, e4, q2, ← Nat.add_assoc])
    (fun env g hJ => by
      obtain ⟨⟨⟨u, rfl⟩, hk⟩, rfl⟩ := hJ
      have e9 : a + 1 + (pF (yP Y) - (a + 1)) = pF (yP Y) := by omega
      simp (disch := omega) only [e9, lc_X9_bestNewPair_1, la_X9_bestNewPair_1, lu_X9_bestNewPair_1, s_step, x_out, s_seq, s_ite, s_ret, s_retZ, s_retV, s_iasg, s_aasg, s_lasg, s_inc, s_put, s_putop, s_ast, s_astop, s_exp, s_call, s_skip, s_brk, s_cont, s_oinit, e_lit, e_long, e_il, e_al, e_ll, e_bin, e_un, e_fld, e_ald, e_tern, e_call, e_alen, b_cmp, b_cmp0, b_lcmp, b_and, b_or, b_not, o_add, o_sub, o_mul, o_and, o_or, o_xor, o_shl, o_shr, o_neg, o_i2l, o_l2i, o_i2c, r_eq, r_ne, r_lt, r_ge, r_gt, r_le, r_eq0, r_ne0, r_lt0, r_ge0, r_gt0, r_le0, x_fld, x_int, x_ref, x_long, x_args, x_nar, xKd, xst1, xst2, xlg, Option.bind_some, Option.bind_none, Option.map_some, Option.map_none, List.getElem?_cons_zero, List.getElem?_cons_succ, List.set_cons_zero, List.set_cons_succ, List.length_cons, List.length_nil, List.length_map, List.length_range, List.length_set, decide_eq_true_eq, if_true, if_false, reduceIte, reduceCtorEq, Bool.not_true, Bool.not_false, Bool.false_eq_true, x_ix_nI, ax_get, ax_set, e_aald, s_aast, true_and, and_true, ite_true, ite_false, ↓bI_01, bI_eq0, bI_eq1, bool_or, tern_pure, and_pure, or_pure, bI_def, bne_t, ndf, decide_not, Bool.decide_eq_true, Bool.decide_and, Bool.decide_or, Nat.reduceEqDiff, Nat.reduceAdd, Nat.reduceMul, Nat.reduceSub, Nat.reduceLT, Nat.reduceLeDiff, or_false, false_or, or_true, true_or, and_false, false_and, Bool.or_eq_true, Bool.and_eq_true, Bool.or_false, Bool.or_true, Bool.true_or, Bool.false_or, Bool.and_true, Bool.and_false, Bool.true_and, Bool.false_and, decide_true, decide_false, not_true_eq_false, not_false_eq_true, nI_ltI, g0, p0, Nat.lt_irrefl])
  subst l10'
  have e9 : a + 1 + (pF (yP Y) - (a + 1)) = pF (yP Y) := by omega
  rw [e9] at l9'
  exact ⟨u', l9', hk9⟩
end FR
