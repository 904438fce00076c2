section FS
variable {h : XH} {Y : XSy} {c : Nat} {M : XMx}
def bpG (F : Nat) (M : XMx) : Nat → Nat → Nat := fun a b => alS (wiM M a b) F
theorem bpR_K {P : XP} {G : Nat → Nat → Nat} {a : Nat} {st : XBp} (ha : a < pF P) (h : bpK (pF P) G st) : bpK (pF P) G (bpR P G a st) := by
  have key : ∀ n, n ≤ pF P - (a + 1) → bpK (pF P) G (itr (fun i st => bpS P G a (a + 1 + i) st) n st) := by
    intro n
    induction n with
    | zero => intro _; exact h
    | succ n ih => intro hn; exact bpS_K ha (by omega) (ih (by omega))
  exact key _ (Nat.le_refl _)
theorem bpA_K {P : XP} {G : Nat → Nat → Nat} : bpK (pF P) G (bpA P G) := by
  have key : ∀ n, n ≤ pF P → bpK (pF P) G (itr (fun a st => bpR P G a st) n none) := by
    intro n
    induction n with
    | zero => intro _ x y l e; cases e
    | succ n ih => intro hn; exact bpR_K (by omega) (ih (by omega))
  exact key _ (Nat.le_refl _)
theorem bnp_d (H : DAt h Y) (K : YOK c Y) (HM : MAt h 97 (pF (yP Y)) M) (B : MB M) : m_X9_bestNewPair [.ref 0] h = some (some (.int (bp1 (bpA (yP Y) (bpG (pF (yP Y)) M)))), h) := by
  obtain ⟨g0, g1, g2, g3, g4, g5, g6, g7, g8⟩ := id H
  have O := K.2.1
  have hF := O.2.1
  have p0 := g2.1
  obtain ⟨env9, h9, e1, ⟨⟨u, v, rfl⟩, hk9⟩, rfl⟩ := s_loop_J (c := lc_X9_bestNewPair_2) (a := la_X9_bestNewPair_2) (u := lu_X9_bestNewPair_2) (env := [some (.ref 0), some (.int (bp1 none)), some (.int (nI (bp2 none))), some (.int (nI 0)), none, none]) (h := h) (fun i env g => ((∃ u v, env = [some (.ref 0), some (.int (bp1 (itr (fun a st => bpR (yP Y) (bpG (pF (yP Y)) M) a st) i none))), some (.int (nI (bp2 (itr (fun a st => bpR (yP Y) (bpG (pF (yP Y)) M) a st) i none)))), some (.int (nI i)), u, v]) ∧ bpK (pF (yP Y)) (bpG (pF (yP Y)) M) (itr (fun a st => bpR (yP Y) (bpG (pF (yP Y)) M) a st) i none)) ∧ g = h) (pF (yP Y)) 1000 (by omega) ⟨⟨⟨none, none, rfl⟩, fun x y l e => by cases e⟩, rfl⟩
    (fun i env g hi hJ => by
      obtain ⟨⟨⟨u, v, rfl⟩, hk⟩, rfl⟩ := hJ
      obtain ⟨u', f1, f2⟩ := bnp1_d H K HM B hi hk v
      refine ⟨_, g, ?_, ⟨⟨some (.int (nI (pF (yP Y)))), u', rfl⟩, f2⟩, rfl⟩
      simp (disch := omega) only [lc_X9_bestNewPair_2, la_X9_bestNewPair_2, lu_X9_bestNewPair_2, s_step, x_out, s_seq, s_ite, s_ret, s_retZ, s_retV, s_iasg, s_aasg, s_lasg, s_inc, s_put, s_putop, s_ast, s_astop, s_exp, s_call, s_skip, s_brk, s_cont, s_oinit, e_lit, e_long, e_il, e_al, e_ll, e_bin, e_un, e_fld, e_ald, e_tern, e_call, e_alen, b_cmp, b_cmp0, b_lcmp, b_and, b_or, b_not, o_add, o_sub, o_mul, o_and, o_or, o_xor, o_shl, o_shr, o_neg, o_i2l, o_l2i, o_i2c, r_eq, r_ne, r_lt, r_ge, r_gt, r_le, r_eq0, r_ne0, r_lt0, r_ge0, r_gt0, r_le0, x_fld, x_int, x_ref, x_long, x_args, x_nar, xKd, xst1, xst2, xlg, Option.bind_some, Option.bind_none, Option.map_some, Option.map_none, List.getElem?_cons_zero, List.getElem?_cons_succ, List.set_cons_zero, List.set_cons_succ, List.length_cons, List.length_nil, List.length_map, List.length_range, List.length_set, decide_eq_true_eq, if_true, if_false, reduceIte, reduceCtorEq, Bool.not_true, Bool.not_false, Bool.false_eq_true, x_ix_nI, ax_get, ax_set, e_aald, s_aast, true_and, and_true, ite_true, ite_false, ↓bI_01, bI_eq0, bI_eq1, bool_or, tern_pure, and_pure, or_pure, bI_def, bne_t, ndf, decide_not, Bool.decide_eq_true, Bool.decide_and, Bool.decide_or, Nat.reduceEqDiff, Nat.reduceAdd, Nat.reduceMul, Nat.reduceSub, Nat.reduceLT, Nat.reduceLeDiff, or_false, false_or, or_true, true_or, and_false, false_and, Bool.or_eq_true, Bool.and_eq_true, Bool.or_false, Bool.or_true, Bool.true_or, Bool.false_or, Bool.and_true, Bool.and_false, Bool.true_and, Bool.false_and, decide_true, decide_false, not_true_eq_false, not_false_eq_true, nI_ltI, nI_1, g0, p0, hi, f1]
      rfl)
    (fun env g hJ => by
      obtain ⟨⟨⟨u, v, rfl⟩, hk⟩, rfl⟩ := hJ
      simp (disch := omega) only [lc_X9_bestNewPair_2, la_X9_bestNewPair_2, lu_X9_bestNewPair_2, s_step, x_out, s_seq, s_ite, s_ret, s_retZ, s_retV, s_iasg, s_aasg, s_lasg, s_inc, s_put, s_putop, s_ast, s_astop, s_exp, s_call, s_skip, s_brk, s_cont, s_oinit, e_lit, e_long, e_il, e_al, e_ll, e_bin, e_un, e_fld, e_ald, e_tern, e_call, e_alen, b_cmp, b_cmp0, b_lcmp, b_and, b_or, b_not, o_add, o_sub, o_mul, o_and, o_or, o_xor, o_shl, o_shr, o_neg, o_i2l, o_l2i, o_i2c, r_eq, r_ne, r_lt, r_ge, r_gt, r_le, r_eq0, r_ne0, r_lt0, r_ge0, r_gt0, r_le0, x_fld, x_int, x_ref, x_long, x_args, x_nar, xKd, xst1, xst2, xlg, Option.bind_some, Option.bind_none, Option.map_some, Option.map_none, List.getElem?_cons_zero, List.getElem?_cons_succ, List.set_cons_zero, List.set_cons_succ, List.length_cons, List.length_nil, List.length_map, List.length_range, List.length_set, decide_eq_true_eq, if_true, if_false, reduceIte, reduceCtorEq, Bool.not_true, Bool.not_false, Bool.false_eq_true, x_ix_nI, ax_get, ax_set, e_aald, s_aast, true_and, and_true, ite_true, ite_false, ↓bI_01, bI_eq0, bI_eq1, bool_or, tern_pure, and_pure, or_pure, bI_def, bne_t, ndf, decide_not, Bool.decide_eq_true, Bool.decide_and, Bool.decide_or, Nat.reduceEqDiff, Nat.reduceAdd, Nat.reduceMul, Nat.reduceSub, Nat.reduceLT, Nat.reduceLeDiff, or_false, false_or, or_true, true_or, and_false, false_and, Bool.or_eq_true, Bool.and_eq_true, Bool.or_false, Bool.or_true, Bool.true_or, Bool.false_or, Bool.and_true, Bool.and_false, Bool.true_and, Bool.false_and, decide_true, decide_false, not_true_eq_false, not_false_eq_true, nI_ltI, g0, p0, Nat.lt_irrefl])
  have z1 : bp1 none = -4 := rfl
  have z2 : nI (bp2 none) = 0 := nI_0
  rw [z1, z2, nI_0] at e1
  refine xM_run (env := [some (.ref 0), none, none, none, none, none]) g0 rfl rfl (Nat.le_of_ble_eq_true rfl) rfl ?_ rfl
  simp (disch := omega) only [bd_X9_bestNewPair, x_out, s_seq, s_ite, s_ret, s_retZ, s_retV, s_iasg, s_aasg, s_lasg, s_inc, s_put, s_putop, s_ast, s_astop, s_exp, s_call, s_skip, s_brk, s_cont, s_oinit, e_lit, e_long, e_il, e_al, e_ll, e_bin, e_un, e_fld, e_ald, e_tern, e_call, e_alen, b_cmp, b_cmp0, b_lcmp, b_and, b_or, b_not, o_add, o_sub, o_mul, o_and, o_or, o_xor, o_shl, o_shr, o_neg, o_i2l, o_l2i, o_i2c, r_eq, r_ne, r_lt, r_ge, r_gt, r_le, r_eq0, r_ne0, r_lt0, r_ge0, r_gt0, r_le0, x_fld, x_int, x_ref, x_long, x_args, x_nar, xKd, xst1, xst2, xlg, Option.bind_some, Option.bind_none, Option.map_some, Option.map_none, List.getElem?_cons_zero, List.getElem?_cons_succ, List.set_cons_zero, List.set_cons_succ, List.length_cons, List.length_nil, List.length_map, List.length_range, List.length_set, decide_eq_true_eq, if_true, if_false, reduceIte, reduceCtorEq, Bool.not_true, Bool.not_false, Bool.false_eq_true, x_ix_nI, ax_get, ax_set, e_aald, s_aast, true_and, and_true, ite_true, ite_false, ↓bI_01, bI_eq0, bI_eq1, bool_or, tern_pure, and_pure, or_pure, bI_def, bne_t, ndf, decide_not, Bool.decide_eq_true, Bool.decide_and, Bool.decide_or, Nat.reduceEqDiff, Nat.reduceAdd, Nat.reduceMul, Nat.reduceSub, Nat.reduceLT, Nat.reduceLeDiff, or_false, false_or, or_true, true_or, and_false, false_and, Bool.or_eq_true, Bool.and_eq_true, Bool.or_false, Bool.or_true, Bool.true_or, Bool.false_or, Bool.and_true, Bool.and_false, Bool.true_and, Bool.false_and, decide_true, decide_false, not_true_eq_false, not_false_eq_true, e1]
  rfl
def aFresh (Y : XSy) (v : Int32) : Int32 := if inR v 2 = false then -1 else match bpA (yP Y) (bpG (pF (yP Y)) (dsM (yP Y) (yS Y))) with
  | none => -4
  | some (x, y, l) => if iN v = 0 then nI (10 * x + y) else nI (alS (dsM (yP Y) (yS Y)) (pF (yP Y))) - nI l
theorem ten_dr : ∀ x : Nat, x < 8 → ∀ y : Nat, y < 8 → nI (10 * x + y) / 10 = nI x ∧ nI (10 * x + y) - nI x * 10 = nI y := by decide +kernel
theorem fresh_d (H : DAt h Y) (K : YOK c Y) (v : Int32) : ∃ h', m_X9_fresh [.ref 0, .int v] h = some (some (.int (aFresh Y v)), h') ∧ DAt h' Y ∧ xFr dC h h' := by
  obtain ⟨g0, g1, g2, g3, g4, g5, g6, g7, g8⟩ := id H
  have O := K.2.1
  have hF := O.2.1
  have bg := inR_gt v (n := 1) (by omega)
  unfold aFresh
  rcases inR_cases v (n := 2) (by omega) with q3 | ⟨u, hu, rfl, q3⟩
  · refine ⟨h, ?_, H, xFr.rf _ _⟩
    refine xM_run (env := [some (.ref 0), some (.int v), none]) g0 rfl rfl (Nat.le_of_ble_eq_true rfl) rfl ?_ rfl
    rw [q3] at bg
    by_cases b1 : v < 0
    · simp (disch := omega) only [bd_X9_fresh, x_out, s_seq, s_ite, s_ret, s_retZ, s_retV, s_iasg, s_aasg, s_lasg, s_inc, s_put, s_putop, s_ast, s_astop, s_exp, s_call, s_skip, s_brk, s_cont, s_oinit, e_lit, e_long, e_il, e_al, e_ll, e_bin, e_un, e_fld, e_ald, e_tern, e_call, e_alen, b_cmp, b_cmp0, b_lcmp, b_and, b_or, b_not, o_add, o_sub, o_mul, o_and, o_or, o_xor, o_shl, o_shr, o_neg, o_i2l, o_l2i, o_i2c, r_eq, r_ne, r_lt, r_ge, r_gt, r_le, r_eq0, r_ne0, r_lt0, r_ge0, r_gt0, r_le0, x_fld, x_int, x_ref, x_long, x_args, x_nar, xKd, xst1, xst2, xlg, Option.bind_some, Option.bind_none, Option.map_some, Option.map_none, List.getElem?_cons_zero, List.getElem?_cons_succ, List.set_cons_zero, List.set_cons_succ, List.length_cons, List.length_nil, List.length_map, List.length_range, List.length_set, decide_eq_true_eq, if_true, if_false, reduceIte, reduceCtorEq, Bool.not_true, Bool.not_false, Bool.false_eq_true, x_ix_nI, ax_get, ax_set, e_aald, s_aast, true_and, and_true, ite_true, ite_false, ↓bI_01, bI_eq0, bI_eq1, bool_or, tern_pure, and_pure, or_pure, bI_def, bne_t, ndf, decide_not, Bool.decide_eq_true, Bool.decide_and, Bool.decide_or, Nat.reduceEqDiff, Nat.reduceAdd, Nat.reduceMul, Nat.reduceSub, Nat.reduceLT, Nat.reduceLeDiff, or_false, false_or, or_true, true_or, and_false, false_and, Bool.or_eq_true, Bool.and_eq_true, Bool.or_false, Bool.or_true, Bool.true_or, Bool.false_or, Bool.and_true, Bool.and_false, Bool.true_and, Bool.false_and, decide_true, decide_false, not_true_eq_false, not_false_eq_true, g0, q3, b1, if_true]
    · have b2 : nI 1 < v := by simpa [b1] using bg
      simp (disch := omega) only [bd_X9_fresh, x_out, s_seq, s_ite, s_ret, s_retZ, s_retV, s_iasg, s_aasg, s_lasg, s_inc, s_put, s_putop, s_ast, s_astop, s_exp, s_call, s_skip, s_brk, s_cont, s_oinit, e_lit, e_long, e_il, e_al, e_ll, e_bin, e_un, e_fld, e_ald, e_tern, e_call, e_alen, b_cmp, b_cmp0, b_lcmp, b_and, b_or, b_not, o_add, o_sub, o_mul, o_and, o_or, o_xor, o_shl, o_shr, o_neg, o_i2l, o_l2i, o_i2c, r_eq, r_ne, r_lt, r_ge, r_gt, r_le, r_eq0, r_ne0, r_lt0, r_ge0, r_gt0, r_le0, x_fld, x_int, x_ref, x_long, x_args, x_nar, xKd, xst1, xst2, xlg, Option.bind_some, Option.bind_none, Option.map_some, Option.map_none, List.getElem?_cons_zero, List.getElem?_cons_succ, List.set_cons_zero, List.set_cons_succ, List.length_cons, List.length_nil, List.length_map, List.length_range, List.length_set, decide_eq_true_eq, if_true, if_false, reduceIte, reduceCtorEq, Bool.not_true, Bool.not_false, Bool.false_eq_true, x_ix_nI, ax_get, ax_set, e_aald, s_aast, true_and, and_true, ite_true, ite_false, ↓bI_01, bI_eq0, bI_eq1, bool_or, tern_pure, and_pure, or_pure, bI_def, bne_t, ndf, decide_not, Bool.decide_eq_true, Bool.decide_and, Bool.decide_or, Nat.reduceEqDiff, Nat.reduceAdd, Nat.reduceMul, Nat.reduceSub, Nat.reduceLT, Nat.reduceLeDiff, or_false, false_or, or_true, true_or, and_false, false_and, Bool.or_eq_true, Bool.and_eq_true, Bool.or_false, Bool.or_true, Bool.true_or, Bool.false_or, Bool.and_true, Bool.and_false, Bool.true_and, Bool.false_and, decide_true, decide_false, not_true_eq_false, not_false_eq_true, l1, g0, q3, b1, b2, if_true]
  · have b1 : ¬ nI u < 0 := nI_pos (by omega)
    have b2 : ¬ nI 1 < nI u := by rw [nI_ltI (by omega) (by omega)]; omega
    obtain ⟨h', t1, D', M', Fr⟩ := take_d H K
    have g0' := D'.1
    have e3 := bnp_d D' K M' dsM_B
    have e4 := sum_x M' hF
    have hk := bpA_K (P := yP Y) (G := bpG (pF (yP Y)) (dsM (yP Y) (yS Y)))
    refine ⟨h', ?_, D', Fr⟩
    refine xM_run (env := [some (.ref 0), some (.int (nI u)), none]) g0 rfl rfl (Nat.le_of_ble_eq_true rfl) rfl ?_ rfl
    rw [iN_nI (by omega)]
    cases hb : bpA (yP Y) (bpG (pF (yP Y)) (dsM (yP Y) (yS Y))) with
    | none =>
      rw [hb] at e3
      have z1 : bp1 none = -4 := rfl
      rw [z1] at e3
      simp (disch := omega) only [bd_X9_fresh, x_out, s_seq, s_ite, s_ret, s_retZ, s_retV, s_iasg, s_aasg, s_lasg, s_inc, s_put, s_putop, s_ast, s_astop, s_exp, s_call, s_skip, s_brk, s_cont, s_oinit, e_lit, e_long, e_il, e_al, e_ll, e_bin, e_un, e_fld, e_ald, e_tern, e_call, e_alen, b_cmp, b_cmp0, b_lcmp, b_and, b_or, b_not, o_add, o_sub, o_mul, o_and, o_or, o_xor, o_shl, o_shr, o_neg, o_i2l, o_l2i, o_i2c, r_eq, r_ne, r_lt, r_ge, r_gt, r_le, r_eq0, r_ne0, r_lt0, r_ge0, r_gt0, r_le0, x_fld, x_int, x_ref, x_long, x_args, x_nar, xKd, xst1, xst2, xlg, Option.bind_some, Option.bind_none, Option.map_some, Option.map_none, List.getElem?_cons_zero, List.getElem?_cons_succ, List.set_cons_zero, List.set_cons_succ, List.length_cons, List.length_nil, List.length_map, List.length_range, List.length_set, decide_eq_true_eq, if_true, if_false, reduceIte, reduceCtorEq, Bool.not_true, Bool.not_false, Bool.false_eq_true, x_ix_nI, ax_get, ax_set, e_aald, s_aast, true_and, and_true, ite_true, ite_false, ↓bI_01, bI_eq0, bI_eq1, bool_or, tern_pure, and_pure, or_pure, bI_def, bne_t, ndf, decide_not, Bool.decide_eq_true, Bool.decide_and, Bool.decide_or, Nat.reduceEqDiff, Nat.reduceAdd, Nat.reduceMul, Nat.reduceSub, Nat.reduceLT, Nat.reduceLeDiff, or_false, false_or, or_true, true_or, and_false, false_and, Bool.or_eq_true, Bool.and_eq_true, Bool.or_false, Bool.or_true, Bool.true_or, Bool.false_or, Bool.and_true, Bool.and_false, Bool.true_and, Bool.false_and, decide_true, decide_false, not_true_eq_false, not_false_eq_true, l1, g0, g0', q3, b1, b2, t1, e3]
    | some t =>
      obtain ⟨x, y, l⟩ := t
      rw [hb] at e3 hk
      have z1 : bp1 (some (x, y, l)) = nI (10 * x + y) := rfl
      rw [z1] at e3
      have e5 := bp1_ne hF hk
      obtain ⟨x1, y1, hl⟩ := hk x y l rfl
      obtain ⟨d1, d2⟩ := ten_dr x (by omega) y (by omega)
      have e6 := sumWith_x M' dsM_B hF x1 y1
      have e7 : alS (wiM (dsM (yP Y) (yS Y)) x y) (pF (yP Y)) = l := hl.symm
      rw [e7] at e6
      have hu2 : u = 0 ∨ u = 1 := by omega
      rcases hu2 with rfl | rfl
      · simp (disch := omega) only [bd_X9_fresh, x_out, s_seq, s_ite, s_ret, s_retZ, s_retV, s_iasg, s_aasg, s_lasg, s_inc, s_put, s_putop, s_ast, s_astop, s_exp, s_call, s_skip, s_brk, s_cont, s_oinit, e_lit, e_long, e_il, e_al, e_ll, e_bin, e_un, e_fld, e_ald, e_tern, e_call, e_alen, b_cmp, b_cmp0, b_lcmp, b_and, b_or, b_not, o_add, o_sub, o_mul, o_and, o_or, o_xor, o_shl, o_shr, o_neg, o_i2l, o_l2i, o_i2c, r_eq, r_ne, r_lt, r_ge, r_gt, r_le, r_eq0, r_ne0, r_lt0, r_ge0, r_gt0, r_le0, x_fld, x_int, x_ref, x_long, x_args, x_nar, xKd, xst1, xst2, xlg, Option.bind_some, Option.bind_none, Option.map_some, Option.map_none, List.getElem?_cons_zero, List.getElem?_cons_succ, List.set_cons_zero, List.set_cons_succ, List.length_cons, List.length_nil, List.length_map, List.length_range, List.length_set, decide_eq_true_eq, if_true, if_false, reduceIte, reduceCtorEq, Bool.not_true, Bool.not_false, Bool.false_eq_true, x_ix_nI, ax_get, ax_set, e_aald, s_aast, true_and, and_true, ite_true, ite_false, ↓bI_01, bI_eq0, bI_eq1, bool_or, tern_pure, and_pure, or_pure, bI_def, bne_t, ndf, decide_not, Bool.decide_eq_true, Bool.decide_and, Bool.decide_or, Nat.reduceEqDiff, Nat.reduceAdd, Nat.reduceMul, Nat.reduceSub, Nat.reduceLT, Nat.reduceLeDiff, or_false, false_or, or_true, true_or, and_false, false_and, Bool.or_eq_true, Bool.and_eq_true, Bool.or_false, Bool.or_true, Bool.true_or, Bool.false_or, Bool.and_true, Bool.and_false, Bool.true_and, Bool.false_and, decide_true, decide_false, not_true_eq_false, not_false_eq_true, l1, nI_small, g0, g0', q3, b1, b2, t1, e3, e5]
      · have d3 : nI (10 * x + y) - nI (10 * x + y) / 10 * 10 = nI y := by rw [d1]; exact d2
        have t10 : ((10 : Int32) = 0) = False := by decide
        simp (disch := omega) only [bd_X9_fresh, x_out, s_seq, s_ite, s_ret, s_retZ, s_retV, s_iasg, s_aasg, s_lasg, s_inc, s_put, s_putop, s_ast, s_astop, s_exp, s_call, s_skip, s_brk, s_cont, s_oinit, e_lit, e_long, e_il, e_al, e_ll, e_bin, e_un, e_fld, e_ald, e_tern, e_call, e_alen, b_cmp, b_cmp0, b_lcmp, b_and, b_or, b_not, o_add, o_sub, o_mul, o_and, o_or, o_xor, o_shl, o_shr, o_neg, o_i2l, o_l2i, o_i2c, r_eq, r_ne, r_lt, r_ge, r_gt, r_le, r_eq0, r_ne0, r_lt0, r_ge0, r_gt0, r_le0, x_fld, x_int, x_ref, x_long, x_args, x_nar, xKd, xst1, xst2, xlg, Option.bind_some, Option.bind_none, Option.map_some, Option.map_none, List.getElem?_cons_zero, List.getElem?_cons_succ, List.set_cons_zero, List.set_cons_succ, List.length_cons, List.length_nil, List.length_map, List.length_range, List.length_set, decide_eq_true_eq, if_true, if_false, reduceIte, reduceCtorEq, Bool.not_true, Bool.not_false, Bool.false_eq_true, x_ix_nI, ax_get, ax_set, e_aald, s_aast, true_and, and_true, ite_true, ite_false, ↓bI_01, bI_eq0, bI_eq1, bool_or, tern_pure, and_pure, or_pure, bI_def, bne_t, ndf, decide_not, Bool.decide_eq_true, Bool.decide_and, Bool.decide_or, Nat.reduceEqDiff, Nat.reduceAdd, Nat.reduceMul, Nat.reduceSub, Nat.reduceLT, Nat.reduceLeDiff, or_false, false_or, or_true, true_or, and_false, false_and, Bool.or_eq_true, Bool.and_eq_true, Bool.or_false, Bool.or_true, Bool.true_or, Bool.false_or, Bool.and_true, Bool.and_false, Bool.true_and, Bool.false_and, decide_true, decide_false, not_true_eq_false, not_false_eq_true, o_div, o_rem, l1, nI_small, g0, g0', q3, b1, b2, t1, e3, e4, e5, d1, d2, d3, e6, t10, Nat.one_ne_zero]
end FS
