section DM
variable {h : XH} {z F : Nat} {M : XMx} {P : XP} {S : XT} {a c : Nat}
theorem shortenBy_x (H : MAt h z F M) (B : MB M) (hF : F ≤ 8) {o : Nat} (ho : o < F) : ∃ h', m_X0_shortenBy [.ref z, .int (nI o)] h = some (none, h') ∧ MAt h' z F (shM F o M) ∧ xFr (fun b => b = z + 1) h h' := by
  obtain ⟨env', h', e1, ⟨x, y, rfl⟩, e3, e4⟩ := s_loop_J (c := lc_X0_shortenBy_2) (a := la_X0_shortenBy_2) (u := lu_X0_shortenBy_2) (env := [some (.ref z), some (.int (nI o)), some (.int (nI 0)), none, none]) (fun i env k => (∃ x y, env = [some (.ref z), some (.int (nI o)), some (.int (nI i)), x, y]) ∧ MAt k z F (itr (fun a M => rowM F o a M) i M) ∧ xFr (fun b => b = z + 1) h k) F 1000 (by omega) ⟨⟨none, none, rfl⟩, H, xFr.rf _ _⟩
    (fun i env k hi hJ => by
      obtain ⟨⟨x, y, rfl⟩, K, Fr⟩ := hJ
      have B' : MB (itr (fun a M => rowM F o a M) i M) := itr_keep (fun _ _ h => rowM_B h) i M B
      show ∃ env' k', s_step lc_X0_shortenBy_2 la_X0_shortenBy_2 lu_X0_shortenBy_2 [some (.ref z), some (.int (nI o)), some (.int (nI i)), x, y] k = some (.inr (env', k')) ∧ (∃ x y, env' = [some (.ref z), some (.int (nI o)), some (.int (nI (i + 1))), x, y]) ∧ MAt k' z F (rowM F o i (itr (fun a M => rowM F o a M) i M)) ∧ xFr (fun b => b = z + 1) h k'
      generalize itr (fun a M => rowM F o a M) i M = N at K B' ⊢
      obtain ⟨y', k', e1, e2, e3⟩ := shorten1_x K B' hF ho hi y
      have k0 := K.1
      simp only [nI_0] at e1
      refine ⟨[some (.ref z), some (.int (nI o)), some (.int (nI (i + 1))), some (.int (nI F)), y'], k', ?_, ⟨_, _, rfl⟩, e2, (Fr.trans e3).mono fun b hb => hb.elim id id⟩
      simp (disch := omega) only [lc_X0_shortenBy_2, la_X0_shortenBy_2, lu_X0_shortenBy_2, s_step, x_out, s_seq, s_ite, s_ret, s_retZ, s_retV, s_iasg, s_aasg, s_lasg, s_inc, s_put, s_putop, s_ast, s_astop, s_exp, s_call, s_skip, s_brk, s_cont, s_oinit, e_lit, e_long, e_il, e_al, e_ll, e_bin, e_un, e_fld, e_ald, e_tern, e_call, e_alen, b_cmp, b_cmp0, b_lcmp, b_and, b_or, b_not, o_add, o_sub, o_mul, o_and, o_or, o_xor, o_shl, o_shr, o_neg, o_i2l, o_l2i, o_i2c, r_eq, r_ne, r_lt, r_ge, r_gt, r_le, r_eq0, r_ne0, r_lt0, r_ge0, r_gt0, r_le0, x_fld, x_int, x_ref, x_long, x_args, x_nar, xKd, xst1, xst2, xlg, Option.bind_some, Option.bind_none, Option.map_some, Option.map_none, List.getElem?_cons_zero, List.getElem?_cons_succ, List.set_cons_zero, List.set_cons_succ, List.length_cons, List.length_nil, List.length_map, List.length_range, List.length_set, decide_eq_true_eq, if_true, if_false, reduceIte, reduceCtorEq, Bool.not_true, Bool.not_false, Bool.false_eq_true, x_ix_nI, ax_get, ax_set, e_aald, s_aast, true_and, and_true, ite_true, ite_false, ↓bI_01, bI_eq0, bI_eq1, bool_or, tern_pure, and_pure, or_pure, bI_def, bne_t, ndf, decide_not, Bool.decide_eq_true, Bool.decide_and, Bool.decide_or, Nat.reduceEqDiff, Nat.reduceAdd, Nat.reduceMul, Nat.reduceSub, Nat.reduceLT, Nat.reduceLeDiff, or_false, false_or, or_true, true_or, and_false, false_and, Bool.or_eq_true, Bool.and_eq_true, Bool.or_false, Bool.or_true, Bool.true_or, Bool.false_or, Bool.and_true, Bool.and_false, Bool.true_and, Bool.false_and, decide_true, decide_false, not_true_eq_false, not_false_eq_true, nI_ltI, nI_1, hi, k0, e1])
    (fun env k hJ => by
      obtain ⟨⟨x, y, rfl⟩, K, Fr⟩ := hJ
      have k0 := K.1
      simp (disch := omega) only [lc_X0_shortenBy_2, la_X0_shortenBy_2, lu_X0_shortenBy_2, s_step, x_out, s_seq, s_ite, s_ret, s_retZ, s_retV, s_iasg, s_aasg, s_lasg, s_inc, s_put, s_putop, s_ast, s_astop, s_exp, s_call, s_skip, s_brk, s_cont, s_oinit, e_lit, e_long, e_il, e_al, e_ll, e_bin, e_un, e_fld, e_ald, e_tern, e_call, e_alen, b_cmp, b_cmp0, b_lcmp, b_and, b_or, b_not, o_add, o_sub, o_mul, o_and, o_or, o_xor, o_shl, o_shr, o_neg, o_i2l, o_l2i, o_i2c, r_eq, r_ne, r_lt, r_ge, r_gt, r_le, r_eq0, r_ne0, r_lt0, r_ge0, r_gt0, r_le0, x_fld, x_int, x_ref, x_long, x_args, x_nar, xKd, xst1, xst2, xlg, Option.bind_some, Option.bind_none, Option.map_some, Option.map_none, List.getElem?_cons_zero, List.getElem?_cons_succ, List.set_cons_zero, List.set_cons_succ, List.length_cons, List.length_nil, List.length_map, List.length_range, List.length_set, decide_eq_true_eq, if_true, if_false, reduceIte, reduceCtorEq, Bool.not_true, Bool.not_false, Bool.false_eq_true, x_ix_nI, ax_get, ax_set, e_aald, s_aast, true_and, and_true, ite_true, ite_false, ↓bI_01, bI_eq0, bI_eq1, bool_or, tern_pure, and_pure, or_pure, bI_def, bne_t, ndf, decide_not, Bool.decide_eq_true, Bool.decide_and, Bool.decide_or, Nat.reduceEqDiff, Nat.reduceAdd, Nat.reduceMul, Nat.reduceSub, Nat.reduceLT, Nat.reduceLeDiff, or_false, false_or, or_true, true_or, and_false, false_and, Bool.or_eq_true, Bool.and_eq_true, Bool.or_false, Bool.or_true, Bool.true_or, Bool.false_or, Bool.and_true, Bool.and_false, Bool.true_and, Bool.false_and, decide_true, decide_false, not_true_eq_false, not_false_eq_true, nI_ltI, k0, Nat.lt_irrefl])
  simp only [nI_0] at e1
  have h0 := H.1
  refine ⟨h', ?_, e3, e4⟩
  refine xM_run (env := [some (.ref z), some (.int (nI o)), none, none, none]) h0 rfl rfl (Nat.le_of_ble_eq_true rfl) rfl ?_ rfl
  simp (disch := omega) only [bd_X0_shortenBy, x_out, s_seq, s_ite, s_ret, s_retZ, s_retV, s_iasg, s_aasg, s_lasg, s_inc, s_put, s_putop, s_ast, s_astop, s_exp, s_call, s_skip, s_brk, s_cont, s_oinit, e_lit, e_long, e_il, e_al, e_ll, e_bin, e_un, e_fld, e_ald, e_tern, e_call, e_alen, b_cmp, b_cmp0, b_lcmp, b_and, b_or, b_not, o_add, o_sub, o_mul, o_and, o_or, o_xor, o_shl, o_shr, o_neg, o_i2l, o_l2i, o_i2c, r_eq, r_ne, r_lt, r_ge, r_gt, r_le, r_eq0, r_ne0, r_lt0, r_ge0, r_gt0, r_le0, x_fld, x_int, x_ref, x_long, x_args, x_nar, xKd, xst1, xst2, xlg, Option.bind_some, Option.bind_none, Option.map_some, Option.map_none, List.getElem?_cons_zero, List.getElem?_cons_succ, List.set_cons_zero, List.set_cons_succ, List.length_cons, List.length_nil, List.length_map, List.length_range, List.length_set, decide_eq_true_eq, if_true, if_false, reduceIte, reduceCtorEq, Bool.not_true, Bool.not_false, Bool.false_eq_true, x_ix_nI, ax_get, ax_set, e_aald, s_aast, true_and, and_true, ite_true, ite_false, ↓bI_01, bI_eq0, bI_eq1, bool_or, tern_pure, and_pure, or_pure, bI_def, bne_t, ndf, decide_not, Bool.decide_eq_true, Bool.decide_and, Bool.decide_or, Nat.reduceEqDiff, Nat.reduceAdd, Nat.reduceMul, Nat.reduceSub, Nat.reduceLT, Nat.reduceLeDiff, or_false, false_or, or_true, true_or, and_false, false_and, Bool.or_eq_true, Bool.and_eq_true, Bool.or_false, Bool.or_true, Bool.true_or, Bool.false_or, Bool.and_true, Bool.and_false, Bool.true_and, Bool.false_and, decide_true, decide_false, not_true_eq_false, not_false_eq_true, e1]
def idM : XMx := fun a b => if a = b then 0 else 20
theorem idM_B : MB idM := by intro a b; unfold idM; split <;> omega
/-- the edges in use -/
def edM (P : XP) (S : XT) (n : Nat) (M : XMx) : XMx := itr (fun s M => if sBr P S s = true then M else updM (updM M (pA P s) (pZ P s) 1) (pZ P s) (pA P s) 1) n M
theorem edM_B {P : XP} {S : XT} {n : Nat} {M : XMx} (B : MB M) : MB (edM P S n M) := itr_keep (fun i M (h : MB M) => by
  show MB (if sBr P S i = true then M else updM (updM M (pA P i) (pZ P i) 1) (pZ P i) (pA P i) 1)
  split
  · exact h
  · intro x y
    have := h x y
    unfold updM
    split
    · omega
    · split <;> omega) n M B
def dsM (P : XP) (S : XT) : XMx := clM (pF P) (edM P S (pN P) idM)
theorem dsM_B {P : XP} {S : XT} : MB (dsM P S) := clM_B (edM_B idM_B)
def WTAt (h : XH) (z F : Nat) : Prop := h[z]? = some (.inl (0, [.int (nI F), .ref (z + 1)])) ∧ ∃ f, h[z + 1]? = some (arr 64 f)
theorem take1_x {f0 : Nat → Int32} (H0 : h[z]? = some (.inl (0, [.int (nI F), .ref (z + 1)]))) (H1 : h[z + 1]? = some (arr 64 f0)) (hF : F ≤ 8) {a : Nat} (ha : a < F) (hz : ∀ x y, x < a → y < F → f0 (x * 8 + y) = nI (idM x y)) (r : Nat) (x : Option Value) : ∃ f h', s_loop 1000 lc_X0_take_1 la_X0_take_1 lu_X0_take_1 [some (.ref z), some (.ref r), some (.int (nI a)), some (.int (nI 0))] h = some (none, [some (.ref z), some (.ref r), some (.int (nI a)), some (.int (nI F))], h') ∧ h'[z]? = some (.inl (0, [.int (nI F), .ref (z + 1)])) ∧ h'[z + 1]? = some (arr 64 f) ∧ (∀ x y, x < a + 1 → y < F → f (x * 8 + y) = nI (idM x y)) ∧ xFr (fun b => b = z + 1) h h' := by
  obtain ⟨env', h', e1, rfl, e2, f, e3, e4, e5, e6⟩ := s_loop_J (c := lc_X0_take_1) (a := la_X0_take_1) (u := lu_X0_take_1) (fun i env k => env = [some (.ref z), some (.ref r), some (.int (nI a)), some (.int (nI i))] ∧ k[z]? = some (.inl (0, [.int (nI F), .ref (z + 1)])) ∧ ∃ f, k[z + 1]? = some (arr 64 f) ∧ (∀ x y, x < a → y < F → f (x * 8 + y) = nI (idM x y)) ∧ (∀ y, y < i → f (a * 8 + y) = nI (idM a y)) ∧ xFr (fun b => b = z + 1) h k) F 1000 (by omega) ⟨rfl, H0, f0, H1, hz, fun y hy => absurd hy (by omega), xFr.rf _ _⟩
    (fun i env k hi hJ => by
      obtain ⟨rfl, k0, f, k1, k2, k3, Fr⟩ := hJ
      have r1 := ax_row k1
      have hlt : a * 8 + i < 64 := by omega
      have F1 := xFr.set k1 (c' := arr 64 (upd f (a * 8 + i) (nI (idM a i)))) (by simp [arr, xSz])
      have k1' := set_at k1 (c' := arr 64 (upd f (a * 8 + i) (nI (idM a i))))
      generalize hk : k.set (z + 1) (arr 64 (upd f (a * 8 + i) (nI (idM a i)))) = k' at F1 k1'
      refine ⟨_, k', ?_, rfl, (F1.2.2 z (by omega)).trans k0, _, k1', fun x y hx hy => ?_, fun y hy => ?_, (Fr.trans F1).mono fun b hb => hb.elim id id⟩
      · by_cases q : a = i
        · have ei : nI (idM a i) = 0 := by simp [idM, q, nI_0]
          rw [ei] at hk
          simp (disch := omega) only [lc_X0_take_1, la_X0_take_1, lu_X0_take_1, s_step, x_out, s_seq, s_ite, s_ret, s_retZ, s_retV, s_iasg, s_aasg, s_lasg, s_inc, s_put, s_putop, s_ast, s_astop, s_exp, s_call, s_skip, s_brk, s_cont, s_oinit, e_lit, e_long, e_il, e_al, e_ll, e_bin, e_un, e_fld, e_ald, e_tern, e_call, e_alen, b_cmp, b_cmp0, b_lcmp, b_and, b_or, b_not, o_add, o_sub, o_mul, o_and, o_or, o_xor, o_shl, o_shr, o_neg, o_i2l, o_l2i, o_i2c, r_eq, r_ne, r_lt, r_ge, r_gt, r_le, r_eq0, r_ne0, r_lt0, r_ge0, r_gt0, r_le0, x_fld, x_int, x_ref, x_long, x_args, x_nar, xKd, xst1, xst2, xlg, Option.bind_some, Option.bind_none, Option.map_some, Option.map_none, List.getElem?_cons_zero, List.getElem?_cons_succ, List.set_cons_zero, List.set_cons_succ, List.length_cons, List.length_nil, List.length_map, List.length_range, List.length_set, decide_eq_true_eq, if_true, if_false, reduceIte, reduceCtorEq, Bool.not_true, Bool.not_false, Bool.false_eq_true, x_ix_nI, ax_get, ax_set, e_aald, s_aast, true_and, and_true, ite_true, ite_false, ↓bI_01, bI_eq0, bI_eq1, bool_or, tern_pure, and_pure, or_pure, bI_def, bne_t, ndf, decide_not, Bool.decide_eq_true, Bool.decide_and, Bool.decide_or, Nat.reduceEqDiff, Nat.reduceAdd, Nat.reduceMul, Nat.reduceSub, Nat.reduceLT, Nat.reduceLeDiff, or_false, false_or, or_true, true_or, and_false, false_and, Bool.or_eq_true, Bool.and_eq_true, Bool.or_false, Bool.or_true, Bool.true_or, Bool.false_or, Bool.and_true, Bool.and_false, Bool.true_and, Bool.false_and, decide_true, decide_false, not_true_eq_false, not_false_eq_true, nI_ltI, nI_eq, l8, nI_m, nI_add, nI_1, hi, k0, r1, hlt, q, ax_def]
          rw [q] at hk
          rw [hk]
        · have ei : nI (idM a i) = 20 := by simp only [idM, if_neg q]; rfl
          rw [ei] at hk
          simp (disch := omega) only [lc_X0_take_1, la_X0_take_1, lu_X0_take_1, s_step, x_out, s_seq, s_ite, s_ret, s_retZ, s_retV, s_iasg, s_aasg, s_lasg, s_inc, s_put, s_putop, s_ast, s_astop, s_exp, s_call, s_skip, s_brk, s_cont, s_oinit, e_lit, e_long, e_il, e_al, e_ll, e_bin, e_un, e_fld, e_ald, e_tern, e_call, e_alen, b_cmp, b_cmp0, b_lcmp, b_and, b_or, b_not, o_add, o_sub, o_mul, o_and, o_or, o_xor, o_shl, o_shr, o_neg, o_i2l, o_l2i, o_i2c, r_eq, r_ne, r_lt, r_ge, r_gt, r_le, r_eq0, r_ne0, r_lt0, r_ge0, r_gt0, r_le0, x_fld, x_int, x_ref, x_long, x_args, x_nar, xKd, xst1, xst2, xlg, Option.bind_some, Option.bind_none, Option.map_some, Option.map_none, List.getElem?_cons_zero, List.getElem?_cons_succ, List.set_cons_zero, List.set_cons_succ, List.length_cons, List.length_nil, List.length_map, List.length_range, List.length_set, decide_eq_true_eq, if_true, if_false, reduceIte, reduceCtorEq, Bool.not_true, Bool.not_false, Bool.false_eq_true, x_ix_nI, ax_get, ax_set, e_aald, s_aast, true_and, and_true, ite_true, ite_false, ↓bI_01, bI_eq0, bI_eq1, bool_or, tern_pure, and_pure, or_pure, bI_def, bne_t, ndf, decide_not, Bool.decide_eq_true, Bool.decide_and, Bool.decide_or, Nat.reduceEqDiff, Nat.reduceAdd, Nat.reduceMul, Nat.reduceSub, Nat.reduceLT, Nat.reduceLeDiff, or_false, false_or, or_true, true_or, and_false, false_and, Bool.or_eq_true, Bool.and_eq_true, Bool.or_false, Bool.or_true, Bool.true_or, Bool.false_or, Bool.and_true, Bool.and_false, Bool.true_and, Bool.false_and, decide_true, decide_false, not_true_eq_false, not_false_eq_true, nI_ltI, nI_eq, l8, nI_m, nI_add, nI_1, hi, k0, r1, hlt, q, ax_def, hk]
      · unfold upd
        rw [if_neg (by omega)]
        exact k2 x y hx hy
      · unfold upd
        by_cases q : y = i
        · subst q; simp
        · rw [if_neg (by omega)]
          exact k3 y (by omega))
    (fun env k hJ => by
      obtain ⟨rfl, k0, -⟩ := hJ
      simp (disch := omega) only [lc_X0_take_1, la_X0_take_1, lu_X0_take_1, s_step, x_out, s_seq, s_ite, s_ret, s_retZ, s_retV, s_iasg, s_aasg, s_lasg, s_inc, s_put, s_putop, s_ast, s_astop, s_exp, s_call, s_skip, s_brk, s_cont, s_oinit, e_lit, e_long, e_il, e_al, e_ll, e_bin, e_un, e_fld, e_ald, e_tern, e_call, e_alen, b_cmp, b_cmp0, b_lcmp, b_and, b_or, b_not, o_add, o_sub, o_mul, o_and, o_or, o_xor, o_shl, o_shr, o_neg, o_i2l, o_l2i, o_i2c, r_eq, r_ne, r_lt, r_ge, r_gt, r_le, r_eq0, r_ne0, r_lt0, r_ge0, r_gt0, r_le0, x_fld, x_int, x_ref, x_long, x_args, x_nar, xKd, xst1, xst2, xlg, Option.bind_some, Option.bind_none, Option.map_some, Option.map_none, List.getElem?_cons_zero, List.getElem?_cons_succ, List.set_cons_zero, List.set_cons_succ, List.length_cons, List.length_nil, List.length_map, List.length_range, List.length_set, decide_eq_true_eq, if_true, if_false, reduceIte, reduceCtorEq, Bool.not_true, Bool.not_false, Bool.false_eq_true, x_ix_nI, ax_get, ax_set, e_aald, s_aast, true_and, and_true, ite_true, ite_false, ↓bI_01, bI_eq0, bI_eq1, bool_or, tern_pure, and_pure, or_pure, bI_def, bne_t, ndf, decide_not, Bool.decide_eq_true, Bool.decide_and, Bool.decide_or, Nat.reduceEqDiff, Nat.reduceAdd, Nat.reduceMul, Nat.reduceSub, Nat.reduceLT, Nat.reduceLeDiff, or_false, false_or, or_true, true_or, and_false, false_and, Bool.or_eq_true, Bool.and_eq_true, Bool.or_false, Bool.or_true, Bool.true_or, Bool.false_or, Bool.and_true, Bool.and_false, Bool.true_and, Bool.false_and, decide_true, decide_false, not_true_eq_false, not_false_eq_true, nI_ltI, k0, Nat.lt_irrefl])
  refine ⟨f, h', e1, e2, e3, fun x y hx hy => ?_, e6⟩
  by_cases q : x = a
  · subst q; exact e5 y hy
  · exact e4 x y (by omega) hy
end DM
