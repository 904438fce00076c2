/-! the first fault, the laying (the class) -/
theorem bq10 : ((1 : Int32) == 0) = false := by decide
theorem bq11 : ((1 : Int32) == 1) = true := by decide
theorem bq00 : ((0 : Int32) == 0) = true := by decide
section RX
variable {h : XH} {l : List Nat} {ff : Int32} {g : Nat → Int32} {P : XP}
theorem readNumbers_x {nc : Int32} (hx : XTx h l.length nc ff) (hg : h[10]? = some (arr 3 g)) (hL : XLt h l) (hl : l.length ≤ 200) (ha : ∀ x, x ∈ l → 32 ≤ x ∧ x ≤ 126) {i : Nat} (hi : i < 200) : ∃ h', m_X8_readNumbers [.ref 1, .int (nI i)] h = some (some (.int (nI (match rnN l 3 (i + 1) with
    | some (_, j) => j
    | none => i))), h') ∧ xFr (fun b => b = 1 ∨ b = 10) h h' ∧ ∃ c' g', XTx h' l.length (nI c') ff ∧ h'[10]? = some (arr 3 g') ∧ ∀ vs j, rnN l 3 (i + 1) = some (vs, j) → c' = vs.length ∧ ∀ t, t < vs.length → g' t = nI (vs.getD t 0) := by
  have hx0 : h[1]? = some (.inl (8, [.int (nI l.length), .ref 2, .ref 9, .ref 10, .int nc, .int ff])) := hx
  have F1 := xFr.set hx0 (c' := .inl (8, [.int (nI l.length), .ref 2, .ref 9, .ref 10, .int (nI 0), .int ff])) (by rfl)
  have k1 : XTx _ l.length (nI 0) ff := set_at hx0 (c' := .inl (8, [.int (nI l.length), .ref 2, .ref 9, .ref 10, .int (nI 0), .int ff]))
  have s1 : (s_put 8 4 0 (e_al 0) (e_lit 0)) [some (.ref 1), some (.int (nI i)), none, none, none, none] h = some (none, [some (.ref 1), some (.int (nI i)), none, none, none, none], h.set 1 (.inl (8, [.int (nI l.length), .ref 2, .ref 9, .ref 10, .int (nI 0), .int ff]))) := by
    simp (disch := omega) only [x_out, s_seq, s_ite, s_ret, s_retZ, s_retV, s_iasg, s_aasg, s_lasg, s_inc, s_put, s_putop, s_ast, s_astop, s_exp, s_call, s_skip, s_brk, s_cont, s_oinit, e_lit, e_long, e_il, e_al, e_ll, e_bin, e_un, e_fld, e_ald, e_tern, e_call, e_alen, b_cmp, b_cmp0, b_lcmp, b_and, b_or, b_not, o_add, o_sub, o_mul, o_and, o_or, o_xor, o_shl, o_shr, o_neg, o_i2l, o_l2i, o_i2c, r_eq, r_ne, r_lt, r_ge, r_gt, r_le, r_eq0, r_ne0, r_lt0, r_ge0, r_gt0, r_le0, x_fld, x_int, x_ref, x_long, x_args, x_nar, xKd, xst1, xst2, xlg, Option.bind_some, Option.bind_none, Option.map_some, Option.map_none, List.getElem?_cons_zero, List.getElem?_cons_succ, List.set_cons_zero, List.set_cons_succ, List.length_cons, List.length_nil, List.length_map, List.length_range, List.length_set, decide_eq_true_eq, if_true, if_false, reduceIte, reduceCtorEq, Bool.not_true, Bool.not_false, Bool.false_eq_true, x_ix_nI, ax_get, ax_set, e_aald, s_aast, true_and, and_true, ite_true, ite_false, ↓bI_01, bI_eq0, bI_eq1, bool_or, tern_pure, and_pure, or_pure, bI_def, bne_t, ndf, decide_not, Bool.decide_eq_true, Bool.decide_and, Bool.decide_or, Nat.reduceEqDiff, Nat.reduceAdd, Nat.reduceMul, Nat.reduceSub, Nat.reduceLT, Nat.reduceLeDiff, or_false, false_or, or_true, true_or, and_false, false_and, Bool.or_eq_true, Bool.and_eq_true, Bool.or_false, Bool.or_true, Bool.true_or, Bool.false_or, Bool.and_true, Bool.and_false, Bool.true_and, Bool.false_and, decide_true, decide_false, not_true_eq_false, not_false_eq_true, hx0, nI_0]
  generalize h.set 1 (.inl (8, [.int (nI l.length), .ref 2, .ref 9, .ref 10, .int (nI 0), .int ff])) = h1 at F1 k1 s1
  have hg1 := (F1.2.2 10 (by omega)).trans hg
  have hL1 : XLt h1 l := by
    obtain ⟨f, f1, f2⟩ := hL
    exact ⟨f, (F1.2.2 9 (by omega)).trans f1, f2⟩
  obtain ⟨o, env', h', z1, z2, c', g', z3, z4, z5⟩ := rn_seg (i := i) hl ha 3 0 (i + 1) h1 g none (by omega) (by omega) k1 hg1 hL1
  have z1 := z1 1000 (by omega)
  simp only [nI_0] at z1
  have pre : ∀ rest : XS, (s_seq (s_put 8 4 0 (e_al 0) (e_lit 0)) (s_seq (s_iasg 2 (e_lit 0)) (s_seq (s_iasg 3 (e_lit 0)) (s_seq (s_iasg 4 (e_bin o_add (e_il 1) (e_lit 1))) rest)))) [some (.ref 1), some (.int (nI i)), none, none, none, none] h = rest [some (.ref 1), some (.int (nI i)), some (.int 0), some (.int 0), some (.int (nI (i + 1))), none] h1 := fun rest => by
    rw [s_seq_n s1]
    simp only [x_out, s_seq, s_ite, s_ret, s_retZ, s_retV, s_iasg, s_aasg, s_lasg, s_inc, s_put, s_putop, s_ast, s_astop, s_exp, s_call, s_skip, s_brk, s_cont, s_oinit, e_lit, e_long, e_il, e_al, e_ll, e_bin, e_un, e_fld, e_ald, e_tern, e_call, e_alen, b_cmp, b_cmp0, b_lcmp, b_and, b_or, b_not, o_add, o_sub, o_mul, o_and, o_or, o_xor, o_shl, o_shr, o_neg, o_i2l, o_l2i, o_i2c, r_eq, r_ne, r_lt, r_ge, r_gt, r_le, r_eq0, r_ne0, r_lt0, r_ge0, r_gt0, r_le0, x_fld, x_int, x_ref, x_long, x_args, x_nar, xKd, xst1, xst2, xlg, Option.bind_some, Option.bind_none, Option.map_some, Option.map_none, List.getElem?_cons_zero, List.getElem?_cons_succ, List.set_cons_zero, List.set_cons_succ, List.length_cons, List.length_nil, List.length_map, List.length_range, List.length_set, decide_eq_true_eq, if_true, if_false, reduceIte, reduceCtorEq, Bool.not_true, Bool.not_false, Bool.false_eq_true, x_ix_nI, ax_get, ax_set, e_aald, s_aast, true_and, and_true, ite_true, ite_false, ↓bI_01, bI_eq0, bI_eq1, bool_or, tern_pure, and_pure, or_pure, bI_def, bne_t, ndf, decide_not, Bool.decide_eq_true, Bool.decide_and, Bool.decide_or, Nat.reduceEqDiff, Nat.reduceAdd, Nat.reduceMul, Nat.reduceSub, Nat.reduceLT, Nat.reduceLeDiff, or_false, false_or, or_true, true_or, and_false, false_and, Bool.or_eq_true, Bool.and_eq_true, Bool.or_false, Bool.or_true, Bool.true_or, Bool.false_or, Bool.and_true, Bool.and_false, Bool.true_and, Bool.false_and, decide_true, decide_false, not_true_eq_false, not_false_eq_true, nI_1]
  refine ⟨h', ?_, (F1.trans z2).mono fun b hb => hb.elim Or.inl id, c', g', z3, z4, fun vs j e => ?_⟩
  · refine xM_run (env := [some (.ref 1), some (.int (nI i)), none, none, none, none]) hx0 rfl rfl (Nat.le_of_ble_eq_true rfl) rfl ?_ rfl
    unfold bd_X8_readNumbers
    rw [pre]
    cases hr : rnN l 3 (i + 1) with
    | some r =>
      obtain ⟨vs, j⟩ := r
      rw [hr] at z5
      obtain ⟨w1, -⟩ := z5
      subst w1
      rw [s_seq_r z1]
      rfl
    | none =>
      rw [hr] at z5
      rcases z5 with w1 | ⟨w1, w2, w3⟩
      · subst w1
        rw [s_seq_r z1]
        rfl
      · subst w1
        rw [s_seq_n z1]
        simp only [s_ret, e_il, w2, Option.bind_some, Option.map_some, x_int, x_out]
  · rw [e] at z5
    obtain ⟨w1, w2, w3, w4⟩ := z5
    refine ⟨by omega, fun t ht => ?_⟩
    have := w4 t ht
    rw [Nat.zero_add] at this
    exact this
theorem takeFields_x {n cn v0 : Nat} {fx : Bool} (hx : XTx h n (nI cn) (bI fx)) (hg : h[10]? = some (arr 3 g)) (hc : cn ≤ 3) (h0 : cn = 1 → g 0 = nI v0) (hv : v0 ≤ 99) (HP : PAt h 2 P) : ∃ h', m_X8_takeFields [.ref 1] h = some (some (.int (bI (tI P fx 102 cn v0 0 0).isSome)), h') ∧ xFr (fun b => 2 ≤ b ∧ b ≤ 8) h h' ∧ PAt h' 2 (if (tI P fx 102 cn v0 0 0).isSome = true then pSetF P v0 else P) := by
  have hx0 : h[1]? = some (.inl (8, [.int (nI n), .ref 2, .ref 9, .ref 10, .int (nI cn), .int (bI fx)])) := hx
  have p0 := HP.1
  have rg := ax_row hg
  have t3 : (0 : Nat) < 3 := by omega
  have ix : x_ix 0 3 = some 0 := by decide
  unfold tI
  rw [if_pos rfl]
  cases fx with
  | true =>
    refine ⟨h, ?_, xFr.rf _ _, by simpa using HP⟩
    refine xM_run (env := [some (.ref 1)]) hx0 rfl rfl (Nat.le_of_ble_eq_true rfl) rfl ?_ rfl
    simp (disch := omega) only [bd_X8_takeFields, x_out, s_seq, s_ite, s_ret, s_retZ, s_retV, s_iasg, s_aasg, s_lasg, s_inc, s_put, s_putop, s_ast, s_astop, s_exp, s_call, s_skip, s_brk, s_cont, s_oinit, e_lit, e_long, e_il, e_al, e_ll, e_bin, e_un, e_fld, e_ald, e_tern, e_call, e_alen, b_cmp, b_cmp0, b_lcmp, b_and, b_or, b_not, o_add, o_sub, o_mul, o_and, o_or, o_xor, o_shl, o_shr, o_neg, o_i2l, o_l2i, o_i2c, r_eq, r_ne, r_lt, r_ge, r_gt, r_le, r_eq0, r_ne0, r_lt0, r_ge0, r_gt0, r_le0, x_fld, x_int, x_ref, x_long, x_args, x_nar, xKd, xst1, xst2, xlg, Option.bind_some, Option.bind_none, Option.map_some, Option.map_none, List.getElem?_cons_zero, List.getElem?_cons_succ, List.set_cons_zero, List.set_cons_succ, List.length_cons, List.length_nil, List.length_map, List.length_range, List.length_set, decide_eq_true_eq, if_true, if_false, reduceIte, reduceCtorEq, Bool.not_true, Bool.not_false, Bool.false_eq_true, x_ix_nI, ax_get, ax_set, e_aald, s_aast, true_and, and_true, ite_true, ite_false, ↓bI_01, bI_eq0, bI_eq1, bool_or, tern_pure, and_pure, or_pure, bI_def, bne_t, ndf, decide_not, Bool.decide_eq_true, Bool.decide_and, Bool.decide_or, Nat.reduceEqDiff, Nat.reduceAdd, Nat.reduceMul, Nat.reduceSub, Nat.reduceLT, Nat.reduceLeDiff, or_false, false_or, or_true, true_or, and_false, false_and, Bool.or_eq_true, Bool.and_eq_true, Bool.or_false, Bool.or_true, Bool.true_or, Bool.false_or, Bool.and_true, Bool.and_false, Bool.true_and, Bool.false_and, decide_true, decide_false, not_true_eq_false, not_false_eq_true, hx0, bI_t, i10]
    rfl
  | false =>
    by_cases q : cn = 1
    · subst q
      have e0 := h0 rfl
      have c1 : (b_or (b_or (b_or (b_cmp0 r_ne0 (e_fld 8 5 (e_al 0))) (b_cmp r_ne (e_fld 8 4 (e_al 0)) (e_lit 1))) (b_cmp r_lt (e_ald 0 (e_fld 8 3 (e_al 0)) (e_lit 0)) (e_lit 1))) (b_cmp r_gt (e_ald 0 (e_fld 8 3 (e_al 0)) (e_lit 0)) (e_lit 8))) [some (.ref 1)] h = some (((false || false) || decide (v0 < 1)) || decide (8 < v0), h) := b_or_p (b_or_p (b_or_p (by simp (disch := omega) only [x_out, s_seq, s_ite, s_ret, s_retZ, s_retV, s_iasg, s_aasg, s_lasg, s_inc, s_put, s_putop, s_ast, s_astop, s_exp, s_call, s_skip, s_brk, s_cont, s_oinit, e_lit, e_long, e_il, e_al, e_ll, e_bin, e_un, e_fld, e_ald, e_tern, e_call, e_alen, b_cmp, b_cmp0, b_lcmp, b_and, b_or, b_not, o_add, o_sub, o_mul, o_and, o_or, o_xor, o_shl, o_shr, o_neg, o_i2l, o_l2i, o_i2c, r_eq, r_ne, r_lt, r_ge, r_gt, r_le, r_eq0, r_ne0, r_lt0, r_ge0, r_gt0, r_le0, x_fld, x_int, x_ref, x_long, x_args, x_nar, xKd, xst1, xst2, xlg, Option.bind_some, Option.bind_none, Option.map_some, Option.map_none, List.getElem?_cons_zero, List.getElem?_cons_succ, List.set_cons_zero, List.set_cons_succ, List.length_cons, List.length_nil, List.length_map, List.length_range, List.length_set, decide_eq_true_eq, if_true, if_false, reduceIte, reduceCtorEq, Bool.not_true, Bool.not_false, Bool.false_eq_true, x_ix_nI, ax_get, ax_set, e_aald, s_aast, true_and, and_true, ite_true, ite_false, ↓bI_01, bI_eq0, bI_eq1, bool_or, tern_pure, and_pure, or_pure, bI_def, bne_t, ndf, decide_not, Bool.decide_eq_true, Bool.decide_and, Bool.decide_or, Nat.reduceEqDiff, Nat.reduceAdd, Nat.reduceMul, Nat.reduceSub, Nat.reduceLT, Nat.reduceLeDiff, or_false, false_or, or_true, true_or, and_false, false_and, Bool.or_eq_true, Bool.and_eq_true, Bool.or_false, Bool.or_true, Bool.true_or, Bool.false_or, Bool.and_true, Bool.and_false, Bool.true_and, Bool.false_and, decide_true, decide_false, not_true_eq_false, not_false_eq_true, hx0, bI_f]) (fun _ => by simp (disch := omega) only [x_out, s_seq, s_ite, s_ret, s_retZ, s_retV, s_iasg, s_aasg, s_lasg, s_inc, s_put, s_putop, s_ast, s_astop, s_exp, s_call, s_skip, s_brk, s_cont, s_oinit, e_lit, e_long, e_il, e_al, e_ll, e_bin, e_un, e_fld, e_ald, e_tern, e_call, e_alen, b_cmp, b_cmp0, b_lcmp, b_and, b_or, b_not, o_add, o_sub, o_mul, o_and, o_or, o_xor, o_shl, o_shr, o_neg, o_i2l, o_l2i, o_i2c, r_eq, r_ne, r_lt, r_ge, r_gt, r_le, r_eq0, r_ne0, r_lt0, r_ge0, r_gt0, r_le0, x_fld, x_int, x_ref, x_long, x_args, x_nar, xKd, xst1, xst2, xlg, Option.bind_some, Option.bind_none, Option.map_some, Option.map_none, List.getElem?_cons_zero, List.getElem?_cons_succ, List.set_cons_zero, List.set_cons_succ, List.length_cons, List.length_nil, List.length_map, List.length_range, List.length_set, decide_eq_true_eq, if_true, if_false, reduceIte, reduceCtorEq, Bool.not_true, Bool.not_false, Bool.false_eq_true, x_ix_nI, ax_get, ax_set, e_aald, s_aast, true_and, and_true, ite_true, ite_false, ↓bI_01, bI_eq0, bI_eq1, bool_or, tern_pure, and_pure, or_pure, bI_def, bne_t, ndf, decide_not, Bool.decide_eq_true, Bool.decide_and, Bool.decide_or, Nat.reduceEqDiff, Nat.reduceAdd, Nat.reduceMul, Nat.reduceSub, Nat.reduceLT, Nat.reduceLeDiff, or_false, false_or, or_true, true_or, and_false, false_and, Bool.or_eq_true, Bool.and_eq_true, Bool.or_false, Bool.or_true, Bool.true_or, Bool.false_or, Bool.and_true, Bool.and_false, Bool.true_and, Bool.false_and, decide_true, decide_false, not_true_eq_false, not_false_eq_true, hx0, l1])) (fun _ => by simp (disch := omega) only [x_out, s_seq, s_ite, s_ret, s_retZ, s_retV, s_iasg, s_aasg, s_lasg, s_inc, s_put, s_putop, s_ast, s_astop, s_exp, s_call, s_skip, s_brk, s_cont, s_oinit, e_lit, e_long, e_il, e_al, e_ll, e_bin, e_un, e_fld, e_ald, e_tern, e_call, e_alen, b_cmp, b_cmp0, b_lcmp, b_and, b_or, b_not, o_add, o_sub, o_mul, o_and, o_or, o_xor, o_shl, o_shr, o_neg, o_i2l, o_l2i, o_i2c, r_eq, r_ne, r_lt, r_ge, r_gt, r_le, r_eq0, r_ne0, r_lt0, r_ge0, r_gt0, r_le0, x_fld, x_int, x_ref, x_long, x_args, x_nar, xKd, xst1, xst2, xlg, Option.bind_some, Option.bind_none, Option.map_some, Option.map_none, List.getElem?_cons_zero, List.getElem?_cons_succ, List.set_cons_zero, List.set_cons_succ, List.length_cons, List.length_nil, List.length_map, List.length_range, List.length_set, decide_eq_true_eq, if_true, if_false, reduceIte, reduceCtorEq, Bool.not_true, Bool.not_false, Bool.false_eq_true, x_ix_nI, ax_get, ax_set, e_aald, s_aast, true_and, and_true, ite_true, ite_false, ↓bI_01, bI_eq0, bI_eq1, bool_or, tern_pure, and_pure, or_pure, bI_def, bne_t, ndf, decide_not, Bool.decide_eq_true, Bool.decide_and, Bool.decide_or, Nat.reduceEqDiff, Nat.reduceAdd, Nat.reduceMul, Nat.reduceSub, Nat.reduceLT, Nat.reduceLeDiff, or_false, false_or, or_true, true_or, and_false, false_and, Bool.or_eq_true, Bool.and_eq_true, Bool.or_false, Bool.or_true, Bool.true_or, Bool.false_or, Bool.and_true, Bool.and_false, Bool.true_and, Bool.false_and, decide_true, decide_false, not_true_eq_false, not_false_eq_true, hx0, rg, ix, ax_get, t3, e0, l1, nI_ltI])) (fun _ => by simp (disch := omega) only [x_out, s_seq, s_ite, s_ret, s_retZ, s_retV, s_iasg, s_aasg, s_lasg, s_inc, s_put, s_putop, s_ast, s_astop, s_exp, s_call, s_skip, s_brk, s_cont, s_oinit, e_lit, e_long, e_il, e_al, e_ll, e_bin, e_un, e_fld, e_ald, e_tern, e_call, e_alen, b_cmp, b_cmp0, b_lcmp, b_and, b_or, b_not, o_add, o_sub, o_mul, o_and, o_or, o_xor, o_shl, o_shr, o_neg, o_i2l, o_l2i, o_i2c, r_eq, r_ne, r_lt, r_ge, r_gt, r_le, r_eq0, r_ne0, r_lt0, r_ge0, r_gt0, r_le0, x_fld, x_int, x_ref, x_long, x_args, x_nar, xKd, xst1, xst2, xlg, Option.bind_some, Option.bind_none, Option.map_some, Option.map_none, List.getElem?_cons_zero, List.getElem?_cons_succ, List.set_cons_zero, List.set_cons_succ, List.length_cons, List.length_nil, List.length_map, List.length_range, List.length_set, decide_eq_true_eq, if_true, if_false, reduceIte, reduceCtorEq, Bool.not_true, Bool.not_false, Bool.false_eq_true, x_ix_nI, ax_get, ax_set, e_aald, s_aast, true_and, and_true, ite_true, ite_false, ↓bI_01, bI_eq0, bI_eq1, bool_or, tern_pure, and_pure, or_pure, bI_def, bne_t, ndf, decide_not, Bool.decide_eq_true, Bool.decide_and, Bool.decide_or, Nat.reduceEqDiff, Nat.reduceAdd, Nat.reduceMul, Nat.reduceSub, Nat.reduceLT, Nat.reduceLeDiff, or_false, false_or, or_true, true_or, and_false, false_and, Bool.or_eq_true, Bool.and_eq_true, Bool.or_false, Bool.or_true, Bool.true_or, Bool.false_or, Bool.and_true, Bool.and_false, Bool.true_and, Bool.false_and, decide_true, decide_false, not_true_eq_false, not_false_eq_true, hx0, rg, ix, ax_get, t3, e0, l8, nI_ltI])
      by_cases q2 : 1 ≤ v0 ∧ v0 ≤ 8
      · rw [decide_eq_false (show ¬ v0 < 1 by omega), decide_eq_false (show ¬ 8 < v0 by omega)] at c1
        rw [if_pos ⟨rfl, rfl, q2.1, q2.2⟩]
        obtain ⟨H1, F1⟩ := HP.set0 v0 (pB P) (pN P) (pM P)
        refine ⟨_, ?_, F1, H1⟩
        refine xM_run (env := [some (.ref 1)]) hx0 rfl rfl (Nat.le_of_ble_eq_true rfl) rfl ?_ rfl
        unfold bd_X8_takeFields
        rw [s_seq_n ((s_ite_f c1).trans (skip_n _ _))]
        simp (disch := omega) only [x_out, s_seq, s_ite, s_ret, s_retZ, s_retV, s_iasg, s_aasg, s_lasg, s_inc, s_put, s_putop, s_ast, s_astop, s_exp, s_call, s_skip, s_brk, s_cont, s_oinit, e_lit, e_long, e_il, e_al, e_ll, e_bin, e_un, e_fld, e_ald, e_tern, e_call, e_alen, b_cmp, b_cmp0, b_lcmp, b_and, b_or, b_not, o_add, o_sub, o_mul, o_and, o_or, o_xor, o_shl, o_shr, o_neg, o_i2l, o_l2i, o_i2c, r_eq, r_ne, r_lt, r_ge, r_gt, r_le, r_eq0, r_ne0, r_lt0, r_ge0, r_gt0, r_le0, x_fld, x_int, x_ref, x_long, x_args, x_nar, xKd, xst1, xst2, xlg, Option.bind_some, Option.bind_none, Option.map_some, Option.map_none, List.getElem?_cons_zero, List.getElem?_cons_succ, List.set_cons_zero, List.set_cons_succ, List.length_cons, List.length_nil, List.length_map, List.length_range, List.length_set, decide_eq_true_eq, if_true, if_false, reduceIte, reduceCtorEq, Bool.not_true, Bool.not_false, Bool.false_eq_true, x_ix_nI, ax_get, ax_set, e_aald, s_aast, true_and, and_true, ite_true, ite_false, ↓bI_01, bI_eq0, bI_eq1, bool_or, tern_pure, and_pure, or_pure, bI_def, bne_t, ndf, decide_not, Bool.decide_eq_true, Bool.decide_and, Bool.decide_or, Nat.reduceEqDiff, Nat.reduceAdd, Nat.reduceMul, Nat.reduceSub, Nat.reduceLT, Nat.reduceLeDiff, or_false, false_or, or_true, true_or, and_false, false_and, Bool.or_eq_true, Bool.and_eq_true, Bool.or_false, Bool.or_true, Bool.true_or, Bool.false_or, Bool.and_true, Bool.and_false, Bool.true_and, Bool.false_and, decide_true, decide_false, not_true_eq_false, not_false_eq_true, hx0, rg, ix, ax_get, t3, e0, p0]
        rfl
      · have c2 : (((false || false) || decide (v0 < 1)) || decide (8 < v0)) = true := by
          simp; omega
        rw [c2] at c1
        rw [if_neg (fun z => q2 z.2.2)]
        refine ⟨h, ?_, xFr.rf _ _, HP⟩
        refine xM_run (env := [some (.ref 1)]) hx0 rfl rfl (Nat.le_of_ble_eq_true rfl) rfl ?_ rfl
        unfold bd_X8_takeFields
        rw [s_seq_r ((s_ite_t c1).trans (ret_Z0 _ _))]
        rfl
    · rw [if_neg (fun z => q z.2.1)]
      refine ⟨h, ?_, xFr.rf _ _, HP⟩
      refine xM_run (env := [some (.ref 1)]) hx0 rfl rfl (Nat.le_of_ble_eq_true rfl) rfl ?_ rfl
      simp (disch := omega) only [bd_X8_takeFields, x_out, s_seq, s_ite, s_ret, s_retZ, s_retV, s_iasg, s_aasg, s_lasg, s_inc, s_put, s_putop, s_ast, s_astop, s_exp, s_call, s_skip, s_brk, s_cont, s_oinit, e_lit, e_long, e_il, e_al, e_ll, e_bin, e_un, e_fld, e_ald, e_tern, e_call, e_alen, b_cmp, b_cmp0, b_lcmp, b_and, b_or, b_not, o_add, o_sub, o_mul, o_and, o_or, o_xor, o_shl, o_shr, o_neg, o_i2l, o_l2i, o_i2c, r_eq, r_ne, r_lt, r_ge, r_gt, r_le, r_eq0, r_ne0, r_lt0, r_ge0, r_gt0, r_le0, x_fld, x_int, x_ref, x_long, x_args, x_nar, xKd, xst1, xst2, xlg, Option.bind_some, Option.bind_none, Option.map_some, Option.map_none, List.getElem?_cons_zero, List.getElem?_cons_succ, List.set_cons_zero, List.set_cons_succ, List.length_cons, List.length_nil, List.length_map, List.length_range, List.length_set, decide_eq_true_eq, if_true, if_false, reduceIte, reduceCtorEq, Bool.not_true, Bool.not_false, Bool.false_eq_true, x_ix_nI, ax_get, ax_set, e_aald, s_aast, true_and, and_true, ite_true, ite_false, ↓bI_01, bI_eq0, bI_eq1, bool_or, tern_pure, and_pure, or_pure, bI_def, bne_t, ndf, decide_not, Bool.decide_eq_true, Bool.decide_and, Bool.decide_or, Nat.reduceEqDiff, Nat.reduceAdd, Nat.reduceMul, Nat.reduceSub, Nat.reduceLT, Nat.reduceLeDiff, or_false, false_or, or_true, true_or, and_false, false_and, Bool.or_eq_true, Bool.and_eq_true, Bool.or_false, Bool.or_true, Bool.true_or, Bool.false_or, Bool.and_true, Bool.and_false, Bool.true_and, Bool.false_and, decide_true, decide_false, not_true_eq_false, not_false_eq_true, hx0, bI_f, l1, nI_eq, q]
      rfl
theorem takeLimit_x {n cn v0 : Nat} {ff : Int32} (hx : XTx h n (nI cn) ff) (hg : h[10]? = some (arr 3 g)) (hc : cn ≤ 3) (h0 : cn = 1 → g 0 = nI v0) (hv : v0 ≤ 99) (HP : PAt h 2 P) (fx : Bool) : ∃ h', m_X8_takeLimit [.ref 1] h = some (some (.int (bI (tI P fx 108 cn v0 0 0).isSome)), h') ∧ xFr (fun b => 2 ≤ b ∧ b ≤ 8) h h' ∧ PAt h' 2 (if (tI P fx 108 cn v0 0 0).isSome = true then pSetB P v0 else P) := by
  have hx0 : h[1]? = some (.inl (8, [.int (nI n), .ref 2, .ref 9, .ref 10, .int (nI cn), .int ff])) := hx
  have p0 := HP.1
  have rg := ax_row hg
  have t3 : (0 : Nat) < 3 := by omega
  have ix : x_ix 0 3 = some 0 := by decide
  unfold tI
  rw [if_neg (by omega), if_neg (by omega), if_neg (by omega), if_pos rfl]
  by_cases q : cn = 1
  · subst q
    have e0 := h0 rfl
    have c1 : (b_or (b_cmp r_ne (e_fld 8 4 (e_al 0)) (e_lit 1)) (b_cmp r_lt (e_ald 0 (e_fld 8 3 (e_al 0)) (e_lit 0)) (e_lit 10))) [some (.ref 1)] h = some (false || decide (v0 < 10), h) := b_or_p (by simp (disch := omega) only [x_out, s_seq, s_ite, s_ret, s_retZ, s_retV, s_iasg, s_aasg, s_lasg, s_inc, s_put, s_putop, s_ast, s_astop, s_exp, s_call, s_skip, s_brk, s_cont, s_oinit, e_lit, e_long, e_il, e_al, e_ll, e_bin, e_un, e_fld, e_ald, e_tern, e_call, e_alen, b_cmp, b_cmp0, b_lcmp, b_and, b_or, b_not, o_add, o_sub, o_mul, o_and, o_or, o_xor, o_shl, o_shr, o_neg, o_i2l, o_l2i, o_i2c, r_eq, r_ne, r_lt, r_ge, r_gt, r_le, r_eq0, r_ne0, r_lt0, r_ge0, r_gt0, r_le0, x_fld, x_int, x_ref, x_long, x_args, x_nar, xKd, xst1, xst2, xlg, Option.bind_some, Option.bind_none, Option.map_some, Option.map_none, List.getElem?_cons_zero, List.getElem?_cons_succ, List.set_cons_zero, List.set_cons_succ, List.length_cons, List.length_nil, List.length_map, List.length_range, List.length_set, decide_eq_true_eq, if_true, if_false, reduceIte, reduceCtorEq, Bool.not_true, Bool.not_false, Bool.false_eq_true, x_ix_nI, ax_get, ax_set, e_aald, s_aast, true_and, and_true, ite_true, ite_false, ↓bI_01, bI_eq0, bI_eq1, bool_or, tern_pure, and_pure, or_pure, bI_def, bne_t, ndf, decide_not, Bool.decide_eq_true, Bool.decide_and, Bool.decide_or, Nat.reduceEqDiff, Nat.reduceAdd, Nat.reduceMul, Nat.reduceSub, Nat.reduceLT, Nat.reduceLeDiff, or_false, false_or, or_true, true_or, and_false, false_and, Bool.or_eq_true, Bool.and_eq_true, Bool.or_false, Bool.or_true, Bool.true_or, Bool.false_or, Bool.and_true, Bool.and_false, Bool.true_and, Bool.false_and, decide_true, decide_false, not_true_eq_false, not_false_eq_true, hx0, l1]) (fun _ => by simp (disch := omega) only [x_out, s_seq, s_ite, s_ret, s_retZ, s_retV, s_iasg, s_aasg, s_lasg, s_inc, s_put, s_putop, s_ast, s_astop, s_exp, s_call, s_skip, s_brk, s_cont, s_oinit, e_lit, e_long, e_il, e_al, e_ll, e_bin, e_un, e_fld, e_ald, e_tern, e_call, e_alen, b_cmp, b_cmp0, b_lcmp, b_and, b_or, b_not, o_add, o_sub, o_mul, o_and, o_or, o_xor, o_shl, o_shr, o_neg, o_i2l, o_l2i, o_i2c, r_eq, r_ne, r_lt, r_ge, r_gt, r_le, r_eq0, r_ne0, r_lt0, r_ge0, r_gt0, r_le0, x_fld, x_int, x_ref, x_long, x_args, x_nar, xKd, xst1, xst2, xlg, Option.bind_some, Option.bind_none, Option.map_some, Option.map_none, List.getElem?_cons_zero, List.getElem?_cons_succ, List.set_cons_zero, List.set_cons_succ, List.length_cons, List.length_nil, List.length_map, List.length_range, List.length_set, decide_eq_true_eq, if_true, if_false, reduceIte, reduceCtorEq, Bool.not_true, Bool.not_false, Bool.false_eq_true, x_ix_nI, ax_get, ax_set, e_aald, s_aast, true_and, and_true, ite_true, ite_false, ↓bI_01, bI_eq0, bI_eq1, bool_or, tern_pure, and_pure, or_pure, bI_def, bne_t, ndf, decide_not, Bool.decide_eq_true, Bool.decide_and, Bool.decide_or, Nat.reduceEqDiff, Nat.reduceAdd, Nat.reduceMul, Nat.reduceSub, Nat.reduceLT, Nat.reduceLeDiff, or_false, false_or, or_true, true_or, and_false, false_and, Bool.or_eq_true, Bool.and_eq_true, Bool.or_false, Bool.or_true, Bool.true_or, Bool.false_or, Bool.and_true, Bool.and_false, Bool.true_and, Bool.false_and, decide_true, decide_false, not_true_eq_false, not_false_eq_true, hx0, rg, ix, ax_get, t3, e0, l10, nI_ltI])
    by_cases q2 : 10 ≤ v0
    · rw [decide_eq_false (show ¬ v0 < 10 by omega)] at c1
      rw [if_pos ⟨rfl, q2⟩]
      obtain ⟨H1, F1⟩ := HP.set0 (pF P) v0 (pN P) (pM P)
      refine ⟨_, ?_, F1, H1⟩
      refine xM_run (env := [some (.ref 1)]) hx0 rfl rfl (Nat.le_of_ble_eq_true rfl) rfl ?_ rfl
      unfold bd_X8_takeLimit
      rw [s_seq_n ((s_ite_f c1).trans (skip_n _ _))]
      simp (disch := omega) only [x_out, s_seq, s_ite, s_ret, s_retZ, s_retV, s_iasg, s_aasg, s_lasg, s_inc, s_put, s_putop, s_ast, s_astop, s_exp, s_call, s_skip, s_brk, s_cont, s_oinit, e_lit, e_long, e_il, e_al, e_ll, e_bin, e_un, e_fld, e_ald, e_tern, e_call, e_alen, b_cmp, b_cmp0, b_lcmp, b_and, b_or, b_not, o_add, o_sub, o_mul, o_and, o_or, o_xor, o_shl, o_shr, o_neg, o_i2l, o_l2i, o_i2c, r_eq, r_ne, r_lt, r_ge, r_gt, r_le, r_eq0, r_ne0, r_lt0, r_ge0, r_gt0, r_le0, x_fld, x_int, x_ref, x_long, x_args, x_nar, xKd, xst1, xst2, xlg, Option.bind_some, Option.bind_none, Option.map_some, Option.map_none, List.getElem?_cons_zero, List.getElem?_cons_succ, List.set_cons_zero, List.set_cons_succ, List.length_cons, List.length_nil, List.length_map, List.length_range, List.length_set, decide_eq_true_eq, if_true, if_false, reduceIte, reduceCtorEq, Bool.not_true, Bool.not_false, Bool.false_eq_true, x_ix_nI, ax_get, ax_set, e_aald, s_aast, true_and, and_true, ite_true, ite_false, ↓bI_01, bI_eq0, bI_eq1, bool_or, tern_pure, and_pure, or_pure, bI_def, bne_t, ndf, decide_not, Bool.decide_eq_true, Bool.decide_and, Bool.decide_or, Nat.reduceEqDiff, Nat.reduceAdd, Nat.reduceMul, Nat.reduceSub, Nat.reduceLT, Nat.reduceLeDiff, or_false, false_or, or_true, true_or, and_false, false_and, Bool.or_eq_true, Bool.and_eq_true, Bool.or_false, Bool.or_true, Bool.true_or, Bool.false_or, Bool.and_true, Bool.and_false, Bool.true_and, Bool.false_and, decide_true, decide_false, not_true_eq_false, not_false_eq_true, hx0, rg, ix, ax_get, t3, e0, p0]
      rfl
    · rw [decide_eq_true (show v0 < 10 by omega)] at c1
      rw [if_neg (fun z => q2 z.2)]
      refine ⟨h, ?_, xFr.rf _ _, HP⟩
      refine xM_run (env := [some (.ref 1)]) hx0 rfl rfl (Nat.le_of_ble_eq_true rfl) rfl ?_ rfl
      unfold bd_X8_takeLimit
      rw [s_seq_r ((s_ite_t c1).trans (ret_Z0 _ _))]
      rfl
  · rw [if_neg (fun z => q z.1)]
    refine ⟨h, ?_, xFr.rf _ _, HP⟩
    refine xM_run (env := [some (.ref 1)]) hx0 rfl rfl (Nat.le_of_ble_eq_true rfl) rfl ?_ rfl
    simp (disch := omega) only [bd_X8_takeLimit, x_out, s_seq, s_ite, s_ret, s_retZ, s_retV, s_iasg, s_aasg, s_lasg, s_inc, s_put, s_putop, s_ast, s_astop, s_exp, s_call, s_skip, s_brk, s_cont, s_oinit, e_lit, e_long, e_il, e_al, e_ll, e_bin, e_un, e_fld, e_ald, e_tern, e_call, e_alen, b_cmp, b_cmp0, b_lcmp, b_and, b_or, b_not, o_add, o_sub, o_mul, o_and, o_or, o_xor, o_shl, o_shr, o_neg, o_i2l, o_l2i, o_i2c, r_eq, r_ne, r_lt, r_ge, r_gt, r_le, r_eq0, r_ne0, r_lt0, r_ge0, r_gt0, r_le0, x_fld, x_int, x_ref, x_long, x_args, x_nar, xKd, xst1, xst2, xlg, Option.bind_some, Option.bind_none, Option.map_some, Option.map_none, List.getElem?_cons_zero, List.getElem?_cons_succ, List.set_cons_zero, List.set_cons_succ, List.length_cons, List.length_nil, List.length_map, List.length_range, List.length_set, decide_eq_true_eq, if_true, if_false, reduceIte, reduceCtorEq, Bool.not_true, Bool.not_false, Bool.false_eq_true, x_ix_nI, ax_get, ax_set, e_aald, s_aast, true_and, and_true, ite_true, ite_false, ↓bI_01, bI_eq0, bI_eq1, bool_or, tern_pure, and_pure, or_pure, bI_def, bne_t, ndf, decide_not, Bool.decide_eq_true, Bool.decide_and, Bool.decide_or, Nat.reduceEqDiff, Nat.reduceAdd, Nat.reduceMul, Nat.reduceSub, Nat.reduceLT, Nat.reduceLeDiff, or_false, false_or, or_true, true_or, and_false, false_and, Bool.or_eq_true, Bool.and_eq_true, Bool.or_false, Bool.or_true, Bool.true_or, Bool.false_or, Bool.and_true, Bool.and_false, Bool.true_and, Bool.false_and, decide_true, decide_false, not_true_eq_false, not_false_eq_true, hx0, l1, nI_eq, q]
    rfl
/-- what an item leaves -/
def tIP (P : XP) (fx : Bool) (c n v0 v1 v2 : Nat) : XP := match tI P fx c n v0 v1 v2 with
  | some r => r.1
  | none => P
theorem takeItem_x {n cn v0 v1 v2 c : Nat} {fx : Bool} (hx : XTx h n (nI cn) (bI fx)) (hg : h[10]? = some (arr 3 g)) (hc : cn ≤ 3) (h0 : 0 < cn → g 0 = nI v0) (h1 : 1 < cn → g 1 = nI v1) (h2 : 2 < cn → g 2 = nI v2) (hv : v0 ≤ 99) (hv1 : v1 ≤ 99) (hv2 : v2 ≤ 99) (hc2 : c ≤ 126) (HP : PAt h 2 P) (O : POK P) : ∃ h', m_X8_takeItem [.ref 1, .int (nI c)] h = some (some (.int (bI (tI P fx c cn v0 v1 v2).isSome)), h') ∧ xFr (fun b => 1 ≤ b ∧ b ≤ 8) h h' ∧ PAt h' 2 (tIP P fx c cn v0 v1 v2) ∧ (∃ ff, XTx h' n (nI cn) ff) ∧ ∀ r, tI P fx c cn v0 v1 v2 = some r → XTx h' n (nI cn) (bI r.2) := by
  have hx0 : h[1]? = some (.inl (8, [.int (nI n), .ref 2, .ref 9, .ref 10, .int (nI cn), .int (bI fx)])) := hx
  have cc : ∀ k : Nat, k ≤ 126 → (nI c = nI k) = (c = k) := fun k hk => propext (nI_eq (by omega) (by omega))
  have k102 : ((nI c : Int32) = 102) = (c = 102) := cc 102 (by omega)
  by_cases q1 : c = 102
  · subst q1
    obtain ⟨h', a1, a2, a3⟩ := takeFields_x hx hg hc (fun e => h0 (by omega)) hv HP
    have e : tI P fx 102 cn v0 v1 v2 = tI P fx 102 cn v0 0 0 := by simp only [tI, if_true]
    have hx' : XTx h' n (nI cn) (bI fx) := (a2.2.2 1 (by omega)).trans hx
    refine ⟨h', ?_, a2.mono fun b hb => ⟨by omega, by omega⟩, ?_, ⟨_, hx'⟩, fun r hr => ?_⟩
    · rw [e]
      refine xM_run (env := [some (.ref 1), some (.int (nI 102))]) hx0 rfl rfl (Nat.le_of_ble_eq_true rfl) rfl ?_ rfl
      have t : ((nI 102 : Int32) = 102) = True := eq_true rfl
      unfold bd_X8_takeItem
      refine (congrArg x_out (s_seq_r ((s_ite_t (h' := h) (by simp only [x_out, s_seq, s_ite, s_ret, s_retZ, s_retV, s_iasg, s_aasg, s_lasg, s_inc, s_put, s_putop, s_ast, s_astop, s_exp, s_call, s_skip, s_brk, s_cont, s_oinit, e_lit, e_long, e_il, e_al, e_ll, e_bin, e_un, e_fld, e_ald, e_tern, e_call, e_alen, b_cmp, b_cmp0, b_lcmp, b_and, b_or, b_not, o_add, o_sub, o_mul, o_and, o_or, o_xor, o_shl, o_shr, o_neg, o_i2l, o_l2i, o_i2c, r_eq, r_ne, r_lt, r_ge, r_gt, r_le, r_eq0, r_ne0, r_lt0, r_ge0, r_gt0, r_le0, x_fld, x_int, x_ref, x_long, x_args, x_nar, xKd, xst1, xst2, xlg, Option.bind_some, Option.bind_none, Option.map_some, Option.map_none, List.getElem?_cons_zero, List.getElem?_cons_succ, List.set_cons_zero, List.set_cons_succ, List.length_cons, List.length_nil, List.length_map, List.length_range, List.length_set, decide_eq_true_eq, if_true, if_false, reduceIte, reduceCtorEq, Bool.not_true, Bool.not_false, Bool.false_eq_true, x_ix_nI, ax_get, ax_set, e_aald, s_aast, true_and, and_true, ite_true, ite_false, ↓bI_01, bI_eq0, bI_eq1, bool_or, tern_pure, and_pure, or_pure, bI_def, bne_t, ndf, decide_not, Bool.decide_eq_true, Bool.decide_and, Bool.decide_or, Nat.reduceEqDiff, Nat.reduceAdd, Nat.reduceMul, Nat.reduceSub, Nat.reduceLT, Nat.reduceLeDiff, or_false, false_or, or_true, true_or, and_false, false_and, Bool.or_eq_true, Bool.and_eq_true, Bool.or_false, Bool.or_true, Bool.true_or, Bool.false_or, Bool.and_true, Bool.and_false, Bool.true_and, Bool.false_and, decide_true, decide_false, not_true_eq_false, not_false_eq_true, t])).trans ?_))).trans (x_out_n (env := [some (.ref 1), some (.int (nI 102))]))
      simp (disch := omega) only [x_out, s_seq, s_ite, s_ret, s_retZ, s_retV, s_iasg, s_aasg, s_lasg, s_inc, s_put, s_putop, s_ast, s_astop, s_exp, s_call, s_skip, s_brk, s_cont, s_oinit, e_lit, e_long, e_il, e_al, e_ll, e_bin, e_un, e_fld, e_ald, e_tern, e_call, e_alen, b_cmp, b_cmp0, b_lcmp, b_and, b_or, b_not, o_add, o_sub, o_mul, o_and, o_or, o_xor, o_shl, o_shr, o_neg, o_i2l, o_l2i, o_i2c, r_eq, r_ne, r_lt, r_ge, r_gt, r_le, r_eq0, r_ne0, r_lt0, r_ge0, r_gt0, r_le0, x_fld, x_int, x_ref, x_long, x_args, x_nar, xKd, xst1, xst2, xlg, Option.bind_some, Option.bind_none, Option.map_some, Option.map_none, List.getElem?_cons_zero, List.getElem?_cons_succ, List.set_cons_zero, List.set_cons_succ, List.length_cons, List.length_nil, List.length_map, List.length_range, List.length_set, decide_eq_true_eq, if_true, if_false, reduceIte, reduceCtorEq, Bool.not_true, Bool.not_false, Bool.false_eq_true, x_ix_nI, ax_get, ax_set, e_aald, s_aast, true_and, and_true, ite_true, ite_false, ↓bI_01, bI_eq0, bI_eq1, bool_or, tern_pure, and_pure, or_pure, bI_def, bne_t, ndf, decide_not, Bool.decide_eq_true, Bool.decide_and, Bool.decide_or, Nat.reduceEqDiff, Nat.reduceAdd, Nat.reduceMul, Nat.reduceSub, Nat.reduceLT, Nat.reduceLeDiff, or_false, false_or, or_true, true_or, and_false, false_and, Bool.or_eq_true, Bool.and_eq_true, Bool.or_false, Bool.or_true, Bool.true_or, Bool.false_or, Bool.and_true, Bool.and_false, Bool.true_and, Bool.false_and, decide_true, decide_false, not_true_eq_false, not_false_eq_true, a1]
    · unfold tIP
      rw [e]
      cases ht : tI P fx 102 cn v0 0 0 with
      | none => rw [ht] at a3; exact a3
      | some r =>
        rw [ht] at a3
        have : r.1 = pSetF P v0 := by
          unfold tI at ht
          rw [if_pos rfl] at ht
          split at ht
          · cases ht; rfl
          · cases ht
        have a3 : PAt h' 2 (pSetF P v0) := a3
        rw [← this] at a3
        exact a3
    · have : r.2 = fx := by
        unfold tI at hr
        rw [if_pos rfl] at hr
        split at hr
        · cases hr; rfl
        · cases hr
      rw [this]
      exact hx'
  · have F1 := xFr.set hx0 (c' := .inl (8, [.int (nI n), .ref 2, .ref 9, .ref 10, .int (nI cn), .int 1])) (by rfl)
    have kx0 := set_at hx0 (c' := .inl (8, [.int (nI n), .ref 2, .ref 9, .ref 10, .int (nI cn), .int 1]))
    have c1 : (b_cmp r_eq (e_il 1) (e_lit 102)) [some (.ref 1), some (.int (nI c))] h = some (false, h) := by
      simp only [x_out, s_seq, s_ite, s_ret, s_retZ, s_retV, s_iasg, s_aasg, s_lasg, s_inc, s_put, s_putop, s_ast, s_astop, s_exp, s_call, s_skip, s_brk, s_cont, s_oinit, e_lit, e_long, e_il, e_al, e_ll, e_bin, e_un, e_fld, e_ald, e_tern, e_call, e_alen, b_cmp, b_cmp0, b_lcmp, b_and, b_or, b_not, o_add, o_sub, o_mul, o_and, o_or, o_xor, o_shl, o_shr, o_neg, o_i2l, o_l2i, o_i2c, r_eq, r_ne, r_lt, r_ge, r_gt, r_le, r_eq0, r_ne0, r_lt0, r_ge0, r_gt0, r_le0, x_fld, x_int, x_ref, x_long, x_args, x_nar, xKd, xst1, xst2, xlg, Option.bind_some, Option.bind_none, Option.map_some, Option.map_none, List.getElem?_cons_zero, List.getElem?_cons_succ, List.set_cons_zero, List.set_cons_succ, List.length_cons, List.length_nil, List.length_map, List.length_range, List.length_set, decide_eq_true_eq, if_true, if_false, reduceIte, reduceCtorEq, Bool.not_true, Bool.not_false, Bool.false_eq_true, x_ix_nI, ax_get, ax_set, e_aald, s_aast, true_and, and_true, ite_true, ite_false, ↓bI_01, bI_eq0, bI_eq1, bool_or, tern_pure, and_pure, or_pure, bI_def, bne_t, ndf, decide_not, Bool.decide_eq_true, Bool.decide_and, Bool.decide_or, Nat.reduceEqDiff, Nat.reduceAdd, Nat.reduceMul, Nat.reduceSub, Nat.reduceLT, Nat.reduceLeDiff, or_false, false_or, or_true, true_or, and_false, false_and, Bool.or_eq_true, Bool.and_eq_true, Bool.or_false, Bool.or_true, Bool.true_or, Bool.false_or, Bool.and_true, Bool.and_false, Bool.true_and, Bool.false_and, decide_true, decide_false, not_true_eq_false, not_false_eq_true, k102, q1]
    have s2 : (s_put 8 5 1 (e_al 0) (e_lit 1)) [some (.ref 1), some (.int (nI c))] h = some (none, [some (.ref 1), some (.int (nI c))], h.set 1 (.inl (8, [.int (nI n), .ref 2, .ref 9, .ref 10, .int (nI cn), .int 1]))) := by
      simp (disch := omega) only [x_out, s_seq, s_ite, s_ret, s_retZ, s_retV, s_iasg, s_aasg, s_lasg, s_inc, s_put, s_putop, s_ast, s_astop, s_exp, s_call, s_skip, s_brk, s_cont, s_oinit, e_lit, e_long, e_il, e_al, e_ll, e_bin, e_un, e_fld, e_ald, e_tern, e_call, e_alen, b_cmp, b_cmp0, b_lcmp, b_and, b_or, b_not, o_add, o_sub, o_mul, o_and, o_or, o_xor, o_shl, o_shr, o_neg, o_i2l, o_l2i, o_i2c, r_eq, r_ne, r_lt, r_ge, r_gt, r_le, r_eq0, r_ne0, r_lt0, r_ge0, r_gt0, r_le0, x_fld, x_int, x_ref, x_long, x_args, x_nar, xKd, xst1, xst2, xlg, Option.bind_some, Option.bind_none, Option.map_some, Option.map_none, List.getElem?_cons_zero, List.getElem?_cons_succ, List.set_cons_zero, List.set_cons_succ, List.length_cons, List.length_nil, List.length_map, List.length_range, List.length_set, decide_eq_true_eq, if_true, if_false, reduceIte, reduceCtorEq, Bool.not_true, Bool.not_false, Bool.false_eq_true, x_ix_nI, ax_get, ax_set, e_aald, s_aast, true_and, and_true, ite_true, ite_false, ↓bI_01, bI_eq0, bI_eq1, bool_or, tern_pure, and_pure, or_pure, bI_def, bne_t, ndf, decide_not, Bool.decide_eq_true, Bool.decide_and, Bool.decide_or, Nat.reduceEqDiff, Nat.reduceAdd, Nat.reduceMul, Nat.reduceSub, Nat.reduceLT, Nat.reduceLeDiff, or_false, false_or, or_true, true_or, and_false, false_and, Bool.or_eq_true, Bool.and_eq_true, Bool.or_false, Bool.or_true, Bool.true_or, Bool.false_or, Bool.and_true, Bool.and_false, Bool.true_and, Bool.false_and, decide_true, decide_false, not_true_eq_false, not_false_eq_true, hx0, bq10, bq11]
    generalize h.set 1 (.inl (8, [.int (nI n), .ref 2, .ref 9, .ref 10, .int (nI cn), .int 1])) = k at F1 kx0 s2
    have kx : XTx k n (nI cn) (bI true) := kx0
    have kg := (F1.2.2 10 (by omega)).trans hg
    have KP : PAt k 2 P := HP.same (fun b b1 b2 => F1.2.2 b (by omega))
    have rg := ax_row kg
    have pre : ∀ rest : XS, s_seq (s_ite (b_cmp r_eq (e_il 1) (e_lit 102)) (s_retZ (e_call m_X8_takeFields [(e_al 0)])) s_skip) (s_seq (s_put 8 5 1 (e_al 0) (e_lit 1)) rest) [some (.ref 1), some (.int (nI c))] h = rest [some (.ref 1), some (.int (nI c))] k := fun rest => by
      rw [s_seq_n ((s_ite_f c1).trans (skip_n _ _)), s_seq_n s2]
    have Fr1 : xFr (fun b => 1 ≤ b ∧ b ≤ 8) h k := F1.mono fun b hb => by subst hb; exact ⟨by omega, by omega⟩
    have ix0 : x_ix 0 3 = some 0 := by decide
    have ix1 : x_ix 1 3 = some 1 := by decide
    have ix2 : x_ix 2 3 = some 2 := by decide
    have g0' : ((List.range 3).map g).getD 0 0 = g 0 := ax_get (by omega)
    have g1' : ((List.range 3).map g).getD 1 0 = g 1 := ax_get (by omega)
    have g2' : ((List.range 3).map g).getD 2 0 = g 2 := ax_get (by omega)
    have ml : ∀ {b : Nat}, 1 ≤ b ∧ b ≤ 8 ∨ 2 ≤ b ∧ b ≤ 8 → 1 ≤ b ∧ b ≤ 8 := fun hb => by omega
    have sw : ∀ (s : XS) (o : XO) (env' : XE) (h' : XH), (∀ b0 b1 b2 : XS, s_sel [(115, b0), (119, b1), (108, b2)] (s_retZ (e_lit 0)) (nI c) = if nI c = 115 then b0 else if nI c = 119 then b1 else if nI c = 108 then b2 else s_retZ (e_lit 0)) := fun s o env' h' b0 b1 b2 => by
      rw [s_sel_c (k := 115) 115 rfl, s_sel_c (k := 119) 119 rfl, s_sel_c (k := 108) 108 rfl, s_sel_nil]
    have k115 : ((nI c : Int32) = 115) = (c = 115) := cc 115 (by omega)
    have k119 : ((nI c : Int32) = 119) = (c = 119) := cc 119 (by omega)
    have k108 : ((nI c : Int32) = 108) = (c = 108) := cc 108 (by omega)
    have sw := sw s_skip none [] []
    by_cases q2 : c = 115
    · have e0 : tI P fx c cn v0 v1 v2 = if cn = 3 ∧ pN P < 9 ∧ v0 ≤ 3 ∧ v1 < pF P ∧ v2 < pF P ∧ v1 ≠ v2 then some (pAddS P v0 v1 v2, true) else none := by
        unfold tI
        rw [if_neg q1, if_pos q2]
      unfold tIP
      rw [e0]
      by_cases q3 : cn = 3
      · subst q3
        obtain ⟨h', a1, a3, a2⟩ := addStile_x KP O hv hv1 hv2
        have ecs : cS P v0 v1 v2 = decide (3 = 3 ∧ pN P < 9 ∧ v0 ≤ 3 ∧ v1 < pF P ∧ v2 < pF P ∧ v1 ≠ v2) := by
          rw [Bool.eq_iff_iff]
          unfold cS
          simp only [Bool.not_eq_true', Bool.or_eq_false_iff, decide_eq_false_iff_not, Bool.not_eq_false', decide_eq_true_eq]
          constructor
          · rintro ⟨⟨⟨⟨a1, a2⟩, a3⟩, a4⟩, a5⟩
            exact ⟨trivial, by omega, by omega, a3, a4, a5⟩
          · rintro ⟨-, b1, b2, b3, b4, b5⟩
            exact ⟨⟨⟨⟨by omega, by omega⟩, b3⟩, b4⟩, b5⟩
        have hx' : XTx h' n (nI 3) (bI true) := (a2.2.2 1 (by unfold pCells; omega)).trans kx
        refine ⟨h', ?_, (Fr1.trans a2).mono fun b hb => hb.elim id (fun z => ⟨by have := z.1; omega, z.2⟩), ?_, ⟨_, hx'⟩, fun r hr => ?_⟩
        · refine xM_run (env := [some (.ref 1), some (.int (nI c))]) hx0 rfl rfl (Nat.le_of_ble_eq_true rfl) rfl ?_ rfl
          unfold bd_X8_takeItem
          rw [pre]
          have t3 : ((nI 3 : Int32) = 3) = True := eq_true rfl
          have i0 := h0 (by omega)
          have i1 := h1 (by omega)
          have i2 := h2 (by omega)
          have cS' : cS P v0 v1 v2 = (if 3 = 3 ∧ pN P < 9 ∧ v0 ≤ 3 ∧ v1 < pF P ∧ v2 < pF P ∧ v1 ≠ v2 then some (pAddS P v0 v1 v2, true) else none).isSome := by
            rw [ecs]
            split <;> simp_all
          rw [← cS']
          have y115 : ((nI 115 : Int32) = 115) = True := eq_true rfl
          subst q2
          cases hcs : cS P v0 v1 v2 <;> (rw [hcs] at a1; simp (disch := omega) only [s_sw, x_out, s_seq, s_ite, s_ret, s_retZ, s_retV, s_iasg, s_aasg, s_lasg, s_inc, s_put, s_putop, s_ast, s_astop, s_exp, s_call, s_skip, s_brk, s_cont, s_oinit, e_lit, e_long, e_il, e_al, e_ll, e_bin, e_un, e_fld, e_ald, e_tern, e_call, e_alen, b_cmp, b_cmp0, b_lcmp, b_and, b_or, b_not, o_add, o_sub, o_mul, o_and, o_or, o_xor, o_shl, o_shr, o_neg, o_i2l, o_l2i, o_i2c, r_eq, r_ne, r_lt, r_ge, r_gt, r_le, r_eq0, r_ne0, r_lt0, r_ge0, r_gt0, r_le0, x_fld, x_int, x_ref, x_long, x_args, x_nar, xKd, xst1, xst2, xlg, Option.bind_some, Option.bind_none, Option.map_some, Option.map_none, List.getElem?_cons_zero, List.getElem?_cons_succ, List.set_cons_zero, List.set_cons_succ, List.length_cons, List.length_nil, List.length_map, List.length_range, List.length_set, decide_eq_true_eq, if_true, if_false, reduceIte, reduceCtorEq, Bool.not_true, Bool.not_false, Bool.false_eq_true, x_ix_nI, ax_get, ax_set, e_aald, s_aast, true_and, and_true, ite_true, ite_false, ↓bI_01, bI_eq0, bI_eq1, bool_or, tern_pure, and_pure, or_pure, bI_def, bne_t, ndf, decide_not, Bool.decide_eq_true, Bool.decide_and, Bool.decide_or, Nat.reduceEqDiff, Nat.reduceAdd, Nat.reduceMul, Nat.reduceSub, Nat.reduceLT, Nat.reduceLeDiff, or_false, false_or, or_true, true_or, and_false, false_and, Bool.or_eq_true, Bool.and_eq_true, Bool.or_false, Bool.or_true, Bool.true_or, Bool.false_or, Bool.and_true, Bool.and_false, Bool.true_and, Bool.false_and, decide_true, decide_false, not_true_eq_false, not_false_eq_true, sw, y115, if_true, kx0, t3, KP.1, rg, ix0, ix1, ix2, g0', g1', g2', i0, i1, i2, a1, x_brk]) <;> rfl
        · rw [ecs] at a3
          by_cases q4 : 3 = 3 ∧ pN P < 9 ∧ v0 ≤ 3 ∧ v1 < pF P ∧ v2 < pF P ∧ v1 ≠ v2
          · rw [if_pos q4]
            rw [if_pos (decide_eq_true q4)] at a3
            exact a3
          · rw [if_neg q4]
            rw [if_neg (by simpa using q4)] at a3
            exact a3
        · split at hr
          · cases hr; exact hx'
          · cases hr
      · rw [if_neg (fun z => q3 z.1)]
        refine ⟨k, ?_, Fr1, KP, ⟨_, kx⟩, fun r hr => by cases hr⟩
        refine xM_run (env := [some (.ref 1), some (.int (nI c))]) hx0 rfl rfl (Nat.le_of_ble_eq_true rfl) rfl ?_ rfl
        unfold bd_X8_takeItem
        rw [pre]
        have t3 : ((nI cn : Int32) = 3) = False := by rw [show (3 : Int32) = nI 3 from rfl, nI_eq (by omega) (by omega)]; exact eq_false q3
        have y115 : ((nI 115 : Int32) = 115) = True := eq_true rfl
        subst q2
        simp (disch := omega) only [s_sw, x_out, s_seq, s_ite, s_ret, s_retZ, s_retV, s_iasg, s_aasg, s_lasg, s_inc, s_put, s_putop, s_ast, s_astop, s_exp, s_call, s_skip, s_brk, s_cont, s_oinit, e_lit, e_long, e_il, e_al, e_ll, e_bin, e_un, e_fld, e_ald, e_tern, e_call, e_alen, b_cmp, b_cmp0, b_lcmp, b_and, b_or, b_not, o_add, o_sub, o_mul, o_and, o_or, o_xor, o_shl, o_shr, o_neg, o_i2l, o_l2i, o_i2c, r_eq, r_ne, r_lt, r_ge, r_gt, r_le, r_eq0, r_ne0, r_lt0, r_ge0, r_gt0, r_le0, x_fld, x_int, x_ref, x_long, x_args, x_nar, xKd, xst1, xst2, xlg, Option.bind_some, Option.bind_none, Option.map_some, Option.map_none, List.getElem?_cons_zero, List.getElem?_cons_succ, List.set_cons_zero, List.set_cons_succ, List.length_cons, List.length_nil, List.length_map, List.length_range, List.length_set, decide_eq_true_eq, if_true, if_false, reduceIte, reduceCtorEq, Bool.not_true, Bool.not_false, Bool.false_eq_true, x_ix_nI, ax_get, ax_set, e_aald, s_aast, true_and, and_true, ite_true, ite_false, ↓bI_01, bI_eq0, bI_eq1, bool_or, tern_pure, and_pure, or_pure, bI_def, bne_t, ndf, decide_not, Bool.decide_eq_true, Bool.decide_and, Bool.decide_or, Nat.reduceEqDiff, Nat.reduceAdd, Nat.reduceMul, Nat.reduceSub, Nat.reduceLT, Nat.reduceLeDiff, or_false, false_or, or_true, true_or, and_false, false_and, Bool.or_eq_true, Bool.and_eq_true, Bool.or_false, Bool.or_true, Bool.true_or, Bool.false_or, Bool.and_true, Bool.and_false, Bool.true_and, Bool.false_and, decide_true, decide_false, not_true_eq_false, not_false_eq_true, sw, y115, if_true, kx0, t3, x_brk]
        rfl
    · by_cases q3 : c = 119
      · have e0 : tI P fx c cn v0 v1 v2 = if cn = 3 ∧ pM P < 4 ∧ v0 ≤ 3 ∧ v1 < pF P ∧ 1 ≤ v2 ∧ v2 ≤ 9 then some (pAddW P v0 v1 v2, true) else none := by
          unfold tI
          rw [if_neg q1, if_neg q2, if_pos q3]
        unfold tIP
        rw [e0]
        by_cases q5 : cn = 3
        · subst q5
          obtain ⟨h', a1, a3, a2⟩ := addWalker_x KP O hv hv1 hv2
          have ecs : cWk P v0 v1 v2 = decide (3 = 3 ∧ pM P < 4 ∧ v0 ≤ 3 ∧ v1 < pF P ∧ 1 ≤ v2 ∧ v2 ≤ 9) := by
            rw [Bool.eq_iff_iff]
            unfold cWk
            simp only [Bool.not_eq_true', Bool.or_eq_false_iff, decide_eq_false_iff_not, Bool.not_eq_false', decide_eq_true_eq]
            constructor
            · rintro ⟨⟨⟨⟨a1, a2⟩, a3⟩, a4⟩, a5⟩
              exact ⟨trivial, by omega, by omega, a3, by omega, by omega⟩
            · rintro ⟨-, b1, b2, b3, b4, b5⟩
              exact ⟨⟨⟨⟨by omega, by omega⟩, b3⟩, by omega⟩, by omega⟩
          have hx' : XTx h' n (nI 3) (bI true) := (a2.2.2 1 (by unfold pCells; omega)).trans kx
          refine ⟨h', ?_, (Fr1.trans a2).mono fun b hb => hb.elim id (fun z => ⟨by have := z.1; omega, z.2⟩), ?_, ⟨_, hx'⟩, fun r hr => ?_⟩
          · refine xM_run (env := [some (.ref 1), some (.int (nI c))]) hx0 rfl rfl (Nat.le_of_ble_eq_true rfl) rfl ?_ rfl
            unfold bd_X8_takeItem
            rw [pre]
            have t3 : ((nI 3 : Int32) = 3) = True := eq_true rfl
            have i0 := h0 (by omega)
            have i1 := h1 (by omega)
            have i2 := h2 (by omega)
            have cS' : cWk P v0 v1 v2 = (if 3 = 3 ∧ pM P < 4 ∧ v0 ≤ 3 ∧ v1 < pF P ∧ 1 ≤ v2 ∧ v2 ≤ 9 then some (pAddW P v0 v1 v2, true) else none).isSome := by
              rw [ecs]
              split <;> simp_all
            rw [← cS']
            have n115 : ((nI 119 : Int32) = 115) = False := by decide
            have y119 : ((nI 119 : Int32) = 119) = True := eq_true rfl
            subst q3
            cases hcs : cWk P v0 v1 v2 <;> (rw [hcs] at a1; simp (disch := omega) only [s_sw, x_out, s_seq, s_ite, s_ret, s_retZ, s_retV, s_iasg, s_aasg, s_lasg, s_inc, s_put, s_putop, s_ast, s_astop, s_exp, s_call, s_skip, s_brk, s_cont, s_oinit, e_lit, e_long, e_il, e_al, e_ll, e_bin, e_un, e_fld, e_ald, e_tern, e_call, e_alen, b_cmp, b_cmp0, b_lcmp, b_and, b_or, b_not, o_add, o_sub, o_mul, o_and, o_or, o_xor, o_shl, o_shr, o_neg, o_i2l, o_l2i, o_i2c, r_eq, r_ne, r_lt, r_ge, r_gt, r_le, r_eq0, r_ne0, r_lt0, r_ge0, r_gt0, r_le0, x_fld, x_int, x_ref, x_long, x_args, x_nar, xKd, xst1, xst2, xlg, Option.bind_some, Option.bind_none, Option.map_some, Option.map_none, List.getElem?_cons_zero, List.getElem?_cons_succ, List.set_cons_zero, List.set_cons_succ, List.length_cons, List.length_nil, List.length_map, List.length_range, List.length_set, decide_eq_true_eq, if_true, if_false, reduceIte, reduceCtorEq, Bool.not_true, Bool.not_false, Bool.false_eq_true, x_ix_nI, ax_get, ax_set, e_aald, s_aast, true_and, and_true, ite_true, ite_false, ↓bI_01, bI_eq0, bI_eq1, bool_or, tern_pure, and_pure, or_pure, bI_def, bne_t, ndf, decide_not, Bool.decide_eq_true, Bool.decide_and, Bool.decide_or, Nat.reduceEqDiff, Nat.reduceAdd, Nat.reduceMul, Nat.reduceSub, Nat.reduceLT, Nat.reduceLeDiff, or_false, false_or, or_true, true_or, and_false, false_and, Bool.or_eq_true, Bool.and_eq_true, Bool.or_false, Bool.or_true, Bool.true_or, Bool.false_or, Bool.and_true, Bool.and_false, Bool.true_and, Bool.false_and, decide_true, decide_false, not_true_eq_false, not_false_eq_true, sw, n115, y119, if_true, if_false, kx0, t3, KP.1, rg, ix0, ix1, ix2, g0', g1', g2', i0, i1, i2, a1, x_brk]) <;> rfl
          · rw [ecs] at a3
            by_cases q4 : 3 = 3 ∧ pM P < 4 ∧ v0 ≤ 3 ∧ v1 < pF P ∧ 1 ≤ v2 ∧ v2 ≤ 9
            · rw [if_pos q4]
              rw [if_pos (decide_eq_true q4)] at a3
              exact a3
            · rw [if_neg q4]
              rw [if_neg (by simpa using q4)] at a3
              exact a3
          · split at hr
            · cases hr; exact hx'
            · cases hr
        · rw [if_neg (fun z => q5 z.1)]
          refine ⟨k, ?_, Fr1, KP, ⟨_, kx⟩, fun r hr => by cases hr⟩
          refine xM_run (env := [some (.ref 1), some (.int (nI c))]) hx0 rfl rfl (Nat.le_of_ble_eq_true rfl) rfl ?_ rfl
          unfold bd_X8_takeItem
          rw [pre]
          have t3 : ((nI cn : Int32) = 3) = False := by rw [show (3 : Int32) = nI 3 from rfl, nI_eq (by omega) (by omega)]; exact eq_false q5
          have n115 : ((nI 119 : Int32) = 115) = False := by decide
          have y119 : ((nI 119 : Int32) = 119) = True := eq_true rfl
          subst q3
          simp (disch := omega) only [s_sw, x_out, s_seq, s_ite, s_ret, s_retZ, s_retV, s_iasg, s_aasg, s_lasg, s_inc, s_put, s_putop, s_ast, s_astop, s_exp, s_call, s_skip, s_brk, s_cont, s_oinit, e_lit, e_long, e_il, e_al, e_ll, e_bin, e_un, e_fld, e_ald, e_tern, e_call, e_alen, b_cmp, b_cmp0, b_lcmp, b_and, b_or, b_not, o_add, o_sub, o_mul, o_and, o_or, o_xor, o_shl, o_shr, o_neg, o_i2l, o_l2i, o_i2c, r_eq, r_ne, r_lt, r_ge, r_gt, r_le, r_eq0, r_ne0, r_lt0, r_ge0, r_gt0, r_le0, x_fld, x_int, x_ref, x_long, x_args, x_nar, xKd, xst1, xst2, xlg, Option.bind_some, Option.bind_none, Option.map_some, Option.map_none, List.getElem?_cons_zero, List.getElem?_cons_succ, List.set_cons_zero, List.set_cons_succ, List.length_cons, List.length_nil, List.length_map, List.length_range, List.length_set, decide_eq_true_eq, if_true, if_false, reduceIte, reduceCtorEq, Bool.not_true, Bool.not_false, Bool.false_eq_true, x_ix_nI, ax_get, ax_set, e_aald, s_aast, true_and, and_true, ite_true, ite_false, ↓bI_01, bI_eq0, bI_eq1, bool_or, tern_pure, and_pure, or_pure, bI_def, bne_t, ndf, decide_not, Bool.decide_eq_true, Bool.decide_and, Bool.decide_or, Nat.reduceEqDiff, Nat.reduceAdd, Nat.reduceMul, Nat.reduceSub, Nat.reduceLT, Nat.reduceLeDiff, or_false, false_or, or_true, true_or, and_false, false_and, Bool.or_eq_true, Bool.and_eq_true, Bool.or_false, Bool.or_true, Bool.true_or, Bool.false_or, Bool.and_true, Bool.and_false, Bool.true_and, Bool.false_and, decide_true, decide_false, not_true_eq_false, not_false_eq_true, sw, n115, y119, if_true, if_false, kx0, t3, x_brk]
          rfl
      · by_cases q4 : c = 108
        · subst q4
          obtain ⟨h', a1, a2, a3⟩ := takeLimit_x kx kg hc (fun e => h0 (by omega)) hv KP fx
          have e : tI P fx 108 cn v0 v1 v2 = tI P fx 108 cn v0 0 0 := rfl
          have hx' : XTx h' n (nI cn) (bI true) := (a2.2.2 1 (by omega)).trans kx
          refine ⟨h', ?_, (Fr1.trans a2).mono fun b hb => hb.elim id (fun z => ⟨by omega, z.2⟩), ?_, ⟨_, hx'⟩, fun r hr => ?_⟩
          · rw [e]
            refine xM_run (env := [some (.ref 1), some (.int (nI 108))]) hx0 rfl rfl (Nat.le_of_ble_eq_true rfl) rfl ?_ rfl
            unfold bd_X8_takeItem
            rw [pre]
            have n1 : ((nI 108 : Int32) = 115) = False := by decide
            have n2 : ((nI 108 : Int32) = 119) = False := by decide
            have n3 : ((nI 108 : Int32) = 108) = True := eq_true rfl
            simp (disch := omega) only [s_sw, x_out, s_seq, s_ite, s_ret, s_retZ, s_retV, s_iasg, s_aasg, s_lasg, s_inc, s_put, s_putop, s_ast, s_astop, s_exp, s_call, s_skip, s_brk, s_cont, s_oinit, e_lit, e_long, e_il, e_al, e_ll, e_bin, e_un, e_fld, e_ald, e_tern, e_call, e_alen, b_cmp, b_cmp0, b_lcmp, b_and, b_or, b_not, o_add, o_sub, o_mul, o_and, o_or, o_xor, o_shl, o_shr, o_neg, o_i2l, o_l2i, o_i2c, r_eq, r_ne, r_lt, r_ge, r_gt, r_le, r_eq0, r_ne0, r_lt0, r_ge0, r_gt0, r_le0, x_fld, x_int, x_ref, x_long, x_args, x_nar, xKd, xst1, xst2, xlg, Option.bind_some, Option.bind_none, Option.map_some, Option.map_none, List.getElem?_cons_zero, List.getElem?_cons_succ, List.set_cons_zero, List.set_cons_succ, List.length_cons, List.length_nil, List.length_map, List.length_range, List.length_set, decide_eq_true_eq, if_true, if_false, reduceIte, reduceCtorEq, Bool.not_true, Bool.not_false, Bool.false_eq_true, x_ix_nI, ax_get, ax_set, e_aald, s_aast, true_and, and_true, ite_true, ite_false, ↓bI_01, bI_eq0, bI_eq1, bool_or, tern_pure, and_pure, or_pure, bI_def, bne_t, ndf, decide_not, Bool.decide_eq_true, Bool.decide_and, Bool.decide_or, Nat.reduceEqDiff, Nat.reduceAdd, Nat.reduceMul, Nat.reduceSub, Nat.reduceLT, Nat.reduceLeDiff, or_false, false_or, or_true, true_or, and_false, false_and, Bool.or_eq_true, Bool.and_eq_true, Bool.or_false, Bool.or_true, Bool.true_or, Bool.false_or, Bool.and_true, Bool.and_false, Bool.true_and, Bool.false_and, decide_true, decide_false, not_true_eq_false, not_false_eq_true, sw, n1, n2, n3, if_true, if_false, a1, x_brk]
          · unfold tIP
            rw [e]
            cases ht : tI P fx 108 cn v0 0 0 with
            | none => rw [ht] at a3; exact a3
            | some r =>
              rw [ht] at a3
              have : r.1 = pSetB P v0 := by
                unfold tI at ht
                rw [if_neg (by omega), if_neg (by omega), if_neg (by omega), if_pos rfl] at ht
                split at ht
                · cases ht; rfl
                · cases ht
              have a3 : PAt h' 2 (pSetB P v0) := a3
              rw [← this] at a3
              exact a3
          · have : r.2 = true := by
              unfold tI at hr
              rw [if_neg (by omega), if_neg (by omega), if_neg (by omega), if_pos rfl] at hr
              split at hr
              · cases hr; rfl
              · cases hr
            rw [this]
            exact hx'
        · have e0 : tI P fx c cn v0 v1 v2 = none := by
            unfold tI
            rw [if_neg q1, if_neg q2, if_neg q3, if_neg q4]
          unfold tIP
          rw [e0]
          refine ⟨k, ?_, Fr1, KP, ⟨_, kx⟩, fun r hr => by cases hr⟩
          refine xM_run (env := [some (.ref 1), some (.int (nI c))]) hx0 rfl rfl (Nat.le_of_ble_eq_true rfl) rfl ?_ rfl
          unfold bd_X8_takeItem
          rw [pre]
          simp (disch := omega) only [s_sw, x_out, s_seq, s_ite, s_ret, s_retZ, s_retV, s_iasg, s_aasg, s_lasg, s_inc, s_put, s_putop, s_ast, s_astop, s_exp, s_call, s_skip, s_brk, s_cont, s_oinit, e_lit, e_long, e_il, e_al, e_ll, e_bin, e_un, e_fld, e_ald, e_tern, e_call, e_alen, b_cmp, b_cmp0, b_lcmp, b_and, b_or, b_not, o_add, o_sub, o_mul, o_and, o_or, o_xor, o_shl, o_shr, o_neg, o_i2l, o_l2i, o_i2c, r_eq, r_ne, r_lt, r_ge, r_gt, r_le, r_eq0, r_ne0, r_lt0, r_ge0, r_gt0, r_le0, x_fld, x_int, x_ref, x_long, x_args, x_nar, xKd, xst1, xst2, xlg, Option.bind_some, Option.bind_none, Option.map_some, Option.map_none, List.getElem?_cons_zero, List.getElem?_cons_succ, List.set_cons_zero, List.set_cons_succ, List.length_cons, List.length_nil, List.length_map, List.length_range, List.length_set, decide_eq_true_eq, if_true, if_false, reduceIte, reduceCtorEq, Bool.not_true, Bool.not_false, Bool.false_eq_true, x_ix_nI, ax_get, ax_set, e_aald, s_aast, true_and, and_true, ite_true, ite_false, ↓bI_01, bI_eq0, bI_eq1, bool_or, tern_pure, and_pure, or_pure, bI_def, bne_t, ndf, decide_not, Bool.decide_eq_true, Bool.decide_and, Bool.decide_or, Nat.reduceEqDiff, Nat.reduceAdd, Nat.reduceMul, Nat.reduceSub, Nat.reduceLT, Nat.reduceLeDiff, or_false, false_or, or_true, true_or, and_false, false_and, Bool.or_eq_true, Bool.and_eq_true, Bool.or_false, Bool.or_true, Bool.true_or, Bool.false_or, Bool.and_true, Bool.and_false, Bool.true_and, Bool.false_and, decide_true, decide_false, not_true_eq_false, not_false_eq_true, sw, k115, k119, k108, q2, q3, q4, if_false, x_brk]
          rfl
/-- the text's cells as they are while it is read -/
def XTa (h : XH) (l : List Nat) (ff : Int32) : Prop := (∃ c : Nat, XTx h l.length (nI c) ff) ∧ XLt h l ∧ ∃ g, h[10]? = some (arr 3 g)
theorem ff_x (hl : l.length ≤ 200) (ha : ∀ x, x ∈ l → 32 ≤ x ∧ x ≤ 126) : ∀ (m i : Nat) (P : XP) (fx : Bool) (h : XH) (u : Option Value), l.length < m + i → i ≤ l.length → PK P fx → PAt h 2 P → XTa h l (bI fx) → ∃ o env' h', s_loop m lc_X8_firstFault_1 la_X8_firstFault_1 lu_X8_firstFault_1 [some (.ref 1), some (.int (nI i)), u] h = some (o, env', h') ∧ o = (match (pf l m i P fx).1 with
    | none => none
    | some k => some (.inr (some (.int (nI k))))) ∧ ((pf l m i P fx).1 = none → PAt h' 2 (pf l m i P fx).2) ∧ (∃ Q, PAt h' 2 Q) ∧ (∃ ff, XTa h' l ff) ∧ xFr (fun b => 1 ≤ b ∧ b ≤ 10) h h' := by
  intro m
  induction m with
  | zero => intro i P fx h u h1 h2; omega
  | succ m ih =>
    intro i P fx h u h1 h2 K HP HX
    obtain ⟨⟨c, hx⟩, hL, g, hg⟩ := id HX
    have hx0 : h[1]? = some (.inl (8, [.int (nI l.length), .ref 2, .ref 9, .ref 10, .int (nI c), .int (bI fx)])) := hx
    have c0 : lc_X8_firstFault_1 [some (.ref 1), some (.int (nI i)), u] h = some (decide (i < l.length), h) := by
      simp (disch := omega) only [lc_X8_firstFault_1, x_out, s_seq, s_ite, s_ret, s_retZ, s_retV, s_iasg, s_aasg, s_lasg, s_inc, s_put, s_putop, s_ast, s_astop, s_exp, s_call, s_skip, s_brk, s_cont, s_oinit, e_lit, e_long, e_il, e_al, e_ll, e_bin, e_un, e_fld, e_ald, e_tern, e_call, e_alen, b_cmp, b_cmp0, b_lcmp, b_and, b_or, b_not, o_add, o_sub, o_mul, o_and, o_or, o_xor, o_shl, o_shr, o_neg, o_i2l, o_l2i, o_i2c, r_eq, r_ne, r_lt, r_ge, r_gt, r_le, r_eq0, r_ne0, r_lt0, r_ge0, r_gt0, r_le0, x_fld, x_int, x_ref, x_long, x_args, x_nar, xKd, xst1, xst2, xlg, Option.bind_some, Option.bind_none, Option.map_some, Option.map_none, List.getElem?_cons_zero, List.getElem?_cons_succ, List.set_cons_zero, List.set_cons_succ, List.length_cons, List.length_nil, List.length_map, List.length_range, List.length_set, decide_eq_true_eq, if_true, if_false, reduceIte, reduceCtorEq, Bool.not_true, Bool.not_false, Bool.false_eq_true, x_ix_nI, ax_get, ax_set, e_aald, s_aast, true_and, and_true, ite_true, ite_false, ↓bI_01, bI_eq0, bI_eq1, bool_or, tern_pure, and_pure, or_pure, bI_def, bne_t, ndf, decide_not, Bool.decide_eq_true, Bool.decide_and, Bool.decide_or, Nat.reduceEqDiff, Nat.reduceAdd, Nat.reduceMul, Nat.reduceSub, Nat.reduceLT, Nat.reduceLeDiff, or_false, false_or, or_true, true_or, and_false, false_and, Bool.or_eq_true, Bool.and_eq_true, Bool.or_false, Bool.or_true, Bool.true_or, Bool.false_or, Bool.and_true, Bool.and_false, Bool.true_and, Bool.false_and, decide_true, decide_false, not_true_eq_false, not_false_eq_true, hx0, nI_ltI]
    simp only [pf]
    by_cases q : l.length ≤ i
    · rw [if_pos q]
      rw [decide_eq_false (by omega)] at c0
      refine ⟨none, [some (.ref 1), some (.int (nI i)), u], h, ?_, rfl, fun _ => HP, ⟨_, HP⟩, ⟨_, HX⟩, xFr.rf _ _⟩
      rw [s_loop_step, s_step_end c0]
      rfl
    · rw [if_neg q]
      have q : i < l.length := by omega
      rw [decide_eq_true q] at c0
      obtain ⟨h1', a1, a2, c', g', a3, a4, a5⟩ := readNumbers_x hx hg hL hl ha (i := i) (by omega)
      have hL1 : XLt h1' l := by
        obtain ⟨f, f1, f2⟩ := hL
        exact ⟨f, (a2.2.2 9 (by omega)).trans f1, f2⟩
      have HP1 : PAt h1' 2 P := HP.same (fun b b1 b2 => a2.2.2 b (by omega))
      have Fr1 : xFr (fun b => 1 ≤ b ∧ b ≤ 10) h h1' := a2.mono fun b hb => by rcases hb with hb | hb <;> subst hb <;> exact ⟨by omega, by omega⟩
      cases hr : rnN l 3 (i + 1) with
      | none =>
        rw [hr] at a1
        rw [show itC l i P fx = none by unfold itC; rw [hr]]
        dsimp only
        refine ⟨some (.inr (some (.int (nI i)))), [some (.ref 1), some (.int (nI i)), some (.int (nI i))], h1', ?_, rfl, fun z => absurd z (by simp), ⟨_, HP1⟩, ⟨_, ⟨_, a3⟩, hL1, _, a4⟩, Fr1⟩
        have c1 : (s_iasg 2 (e_call m_X8_readNumbers [(e_al 0), (e_il 1)])) [some (.ref 1), some (.int (nI i)), u] h = some (none, [some (.ref 1), some (.int (nI i)), some (.int (nI i))], h1') := by
          simp only [x_out, s_seq, s_ite, s_ret, s_retZ, s_retV, s_iasg, s_aasg, s_lasg, s_inc, s_put, s_putop, s_ast, s_astop, s_exp, s_call, s_skip, s_brk, s_cont, s_oinit, e_lit, e_long, e_il, e_al, e_ll, e_bin, e_un, e_fld, e_ald, e_tern, e_call, e_alen, b_cmp, b_cmp0, b_lcmp, b_and, b_or, b_not, o_add, o_sub, o_mul, o_and, o_or, o_xor, o_shl, o_shr, o_neg, o_i2l, o_l2i, o_i2c, r_eq, r_ne, r_lt, r_ge, r_gt, r_le, r_eq0, r_ne0, r_lt0, r_ge0, r_gt0, r_le0, x_fld, x_int, x_ref, x_long, x_args, x_nar, xKd, xst1, xst2, xlg, Option.bind_some, Option.bind_none, Option.map_some, Option.map_none, List.getElem?_cons_zero, List.getElem?_cons_succ, List.set_cons_zero, List.set_cons_succ, List.length_cons, List.length_nil, List.length_map, List.length_range, List.length_set, decide_eq_true_eq, if_true, if_false, reduceIte, reduceCtorEq, Bool.not_true, Bool.not_false, Bool.false_eq_true, x_ix_nI, ax_get, ax_set, e_aald, s_aast, true_and, and_true, ite_true, ite_false, ↓bI_01, bI_eq0, bI_eq1, bool_or, tern_pure, and_pure, or_pure, bI_def, bne_t, ndf, decide_not, Bool.decide_eq_true, Bool.decide_and, Bool.decide_or, Nat.reduceEqDiff, Nat.reduceAdd, Nat.reduceMul, Nat.reduceSub, Nat.reduceLT, Nat.reduceLeDiff, or_false, false_or, or_true, true_or, and_false, false_and, Bool.or_eq_true, Bool.and_eq_true, Bool.or_false, Bool.or_true, Bool.true_or, Bool.false_or, Bool.and_true, Bool.and_false, Bool.true_and, Bool.false_and, decide_true, decide_false, not_true_eq_false, not_false_eq_true, a1]
        have c2 : ∀ b, (b_or (b_cmp r_le (e_il 2) (e_il 1)) b) [some (.ref 1), some (.int (nI i)), some (.int (nI i))] h1' = some (true || true, h1') := fun b => b_or_p (by simp (disch := omega) only [x_out, s_seq, s_ite, s_ret, s_retZ, s_retV, s_iasg, s_aasg, s_lasg, s_inc, s_put, s_putop, s_ast, s_astop, s_exp, s_call, s_skip, s_brk, s_cont, s_oinit, e_lit, e_long, e_il, e_al, e_ll, e_bin, e_un, e_fld, e_ald, e_tern, e_call, e_alen, b_cmp, b_cmp0, b_lcmp, b_and, b_or, b_not, o_add, o_sub, o_mul, o_and, o_or, o_xor, o_shl, o_shr, o_neg, o_i2l, o_l2i, o_i2c, r_eq, r_ne, r_lt, r_ge, r_gt, r_le, r_eq0, r_ne0, r_lt0, r_ge0, r_gt0, r_le0, x_fld, x_int, x_ref, x_long, x_args, x_nar, xKd, xst1, xst2, xlg, Option.bind_some, Option.bind_none, Option.map_some, Option.map_none, List.getElem?_cons_zero, List.getElem?_cons_succ, List.set_cons_zero, List.set_cons_succ, List.length_cons, List.length_nil, List.length_map, List.length_range, List.length_set, decide_eq_true_eq, if_true, if_false, reduceIte, reduceCtorEq, Bool.not_true, Bool.not_false, Bool.false_eq_true, x_ix_nI, ax_get, ax_set, e_aald, s_aast, true_and, and_true, ite_true, ite_false, ↓bI_01, bI_eq0, bI_eq1, bool_or, tern_pure, and_pure, or_pure, bI_def, bne_t, ndf, decide_not, Bool.decide_eq_true, Bool.decide_and, Bool.decide_or, Nat.reduceEqDiff, Nat.reduceAdd, Nat.reduceMul, Nat.reduceSub, Nat.reduceLT, Nat.reduceLeDiff, or_false, false_or, or_true, true_or, and_false, false_and, Bool.or_eq_true, Bool.and_eq_true, Bool.or_false, Bool.or_true, Bool.true_or, Bool.false_or, Bool.and_true, Bool.and_false, Bool.true_and, Bool.false_and, decide_true, decide_false, not_true_eq_false, not_false_eq_true, nI_leI, Nat.le_refl]) (fun z => by cases z)
        have s1 : la_X8_firstFault_1 [some (.ref 1), some (.int (nI i)), u] h = some (some (.inr (some (.int (nI i)))), [some (.ref 1), some (.int (nI i)), some (.int (nI i))], h1') := by
          unfold la_X8_firstFault_1
          rw [s_seq_n c1]
          exact s_seq_r ((s_ite_t (c2 _)).trans (by simp only [x_out, s_seq, s_ite, s_ret, s_retZ, s_retV, s_iasg, s_aasg, s_lasg, s_inc, s_put, s_putop, s_ast, s_astop, s_exp, s_call, s_skip, s_brk, s_cont, s_oinit, e_lit, e_long, e_il, e_al, e_ll, e_bin, e_un, e_fld, e_ald, e_tern, e_call, e_alen, b_cmp, b_cmp0, b_lcmp, b_and, b_or, b_not, o_add, o_sub, o_mul, o_and, o_or, o_xor, o_shl, o_shr, o_neg, o_i2l, o_l2i, o_i2c, r_eq, r_ne, r_lt, r_ge, r_gt, r_le, r_eq0, r_ne0, r_lt0, r_ge0, r_gt0, r_le0, x_fld, x_int, x_ref, x_long, x_args, x_nar, xKd, xst1, xst2, xlg, Option.bind_some, Option.bind_none, Option.map_some, Option.map_none, List.getElem?_cons_zero, List.getElem?_cons_succ, List.set_cons_zero, List.set_cons_succ, List.length_cons, List.length_nil, List.length_map, List.length_range, List.length_set, decide_eq_true_eq, if_true, if_false, reduceIte, reduceCtorEq, Bool.not_true, Bool.not_false, Bool.false_eq_true, x_ix_nI, ax_get, ax_set, e_aald, s_aast, true_and, and_true, ite_true, ite_false, ↓bI_01, bI_eq0, bI_eq1, bool_or, tern_pure, and_pure, or_pure, bI_def, bne_t, ndf, decide_not, Bool.decide_eq_true, Bool.decide_and, Bool.decide_or, Nat.reduceEqDiff, Nat.reduceAdd, Nat.reduceMul, Nat.reduceSub, Nat.reduceLT, Nat.reduceLeDiff, or_false, false_or, or_true, true_or, and_false, false_and, Bool.or_eq_true, Bool.and_eq_true, Bool.or_false, Bool.or_true, Bool.true_or, Bool.false_or, Bool.and_true, Bool.and_false, Bool.true_and, Bool.false_and, decide_true, decide_false, not_true_eq_false, not_false_eq_true]))
        rw [s_loop_step, s_step_ret c0 s1]
        rfl
      | some r =>
        obtain ⟨vs, j⟩ := r
        rw [hr] at a1
        obtain ⟨b1, b2⟩ := a5 vs j hr
        obtain ⟨r1, r2, r3, r4, r5⟩ := rnN_spec hr
        have hvle : ∀ t, vs.getD t 0 ≤ 99 := fun t => by
          rw [List.getD_eq_getElem?_getD]
          cases e : vs[t]? with
          | none => simp
          | some x => exact r5 x (List.mem_of_getElem? e)
        subst b1
        have hlt := lt_le ha i
        obtain ⟨h2', t1, t2, t3, t4, t5⟩ := takeItem_x (c := lt l i) (v0 := vs.getD 0 0) (v1 := vs.getD 1 0) (v2 := vs.getD 2 0) (fx := fx) a3 a4 r3 (fun e => b2 0 e) (fun e => b2 1 e) (fun e => b2 2 e) (hvle 0) (hvle 1) (hvle 2) hlt HP1 K.1
        have hL2 : XLt h2' l := by
          obtain ⟨f, f1, f2⟩ := hL1
          exact ⟨f, (t2.2.2 9 (by omega)).trans f1, f2⟩
        have g2 := (t2.2.2 10 (by omega)).trans a4
        have Fr2 : xFr (fun b => 1 ≤ b ∧ b ≤ 10) h h2' := (Fr1.trans t2).mono fun b hb => hb.elim id (fun z => ⟨z.1, by omega⟩)
        have c1 : (s_iasg 2 (e_call m_X8_readNumbers [(e_al 0), (e_il 1)])) [some (.ref 1), some (.int (nI i)), u] h = some (none, [some (.ref 1), some (.int (nI i)), some (.int (nI j))], h1') := by
          simp only [x_out, s_seq, s_ite, s_ret, s_retZ, s_retV, s_iasg, s_aasg, s_lasg, s_inc, s_put, s_putop, s_ast, s_astop, s_exp, s_call, s_skip, s_brk, s_cont, s_oinit, e_lit, e_long, e_il, e_al, e_ll, e_bin, e_un, e_fld, e_ald, e_tern, e_call, e_alen, b_cmp, b_cmp0, b_lcmp, b_and, b_or, b_not, o_add, o_sub, o_mul, o_and, o_or, o_xor, o_shl, o_shr, o_neg, o_i2l, o_l2i, o_i2c, r_eq, r_ne, r_lt, r_ge, r_gt, r_le, r_eq0, r_ne0, r_lt0, r_ge0, r_gt0, r_le0, x_fld, x_int, x_ref, x_long, x_args, x_nar, xKd, xst1, xst2, xlg, Option.bind_some, Option.bind_none, Option.map_some, Option.map_none, List.getElem?_cons_zero, List.getElem?_cons_succ, List.set_cons_zero, List.set_cons_succ, List.length_cons, List.length_nil, List.length_map, List.length_range, List.length_set, decide_eq_true_eq, if_true, if_false, reduceIte, reduceCtorEq, Bool.not_true, Bool.not_false, Bool.false_eq_true, x_ix_nI, ax_get, ax_set, e_aald, s_aast, true_and, and_true, ite_true, ite_false, ↓bI_01, bI_eq0, bI_eq1, bool_or, tern_pure, and_pure, or_pure, bI_def, bne_t, ndf, decide_not, Bool.decide_eq_true, Bool.decide_and, Bool.decide_or, Nat.reduceEqDiff, Nat.reduceAdd, Nat.reduceMul, Nat.reduceSub, Nat.reduceLT, Nat.reduceLeDiff, or_false, false_or, or_true, true_or, and_false, false_and, Bool.or_eq_true, Bool.and_eq_true, Bool.or_false, Bool.or_true, Bool.true_or, Bool.false_or, Bool.and_true, Bool.and_false, Bool.true_and, Bool.false_and, decide_true, decide_false, not_true_eq_false, not_false_eq_true, a1]
        obtain ⟨f, f1, f2⟩ := id hL1
        have rf := cx_row f1
        have fi : f i = nI (lt l i) := f2 i q
        have hi200 : i < 200 := by omega
        have nle : ¬ j ≤ i := by omega
        have a30 : h1'[1]? = some (.inl (8, [.int (nI l.length), .ref 2, .ref 9, .ref 10, .int (nI vs.length), .int (bI fx)])) := a3
        have c2 : (b_or (b_cmp r_le (e_il 2) (e_il 1)) (b_not (b_cmp0 r_ne0 (e_call m_X8_takeItem [(e_al 0), (e_ald 1 (e_fld 8 2 (e_al 0)) (e_il 1))])))) [some (.ref 1), some (.int (nI i)), some (.int (nI j))] h1' = some (!(tI P fx (lt l i) vs.length (vs.getD 0 0) (vs.getD 1 0) (vs.getD 2 0)).isSome, h2') := by
          have z1 : (b_cmp r_le (e_il 2) (e_il 1)) [some (.ref 1), some (.int (nI i)), some (.int (nI j))] h1' = some (false, h1') := by
            simp (disch := omega) only [x_out, s_seq, s_ite, s_ret, s_retZ, s_retV, s_iasg, s_aasg, s_lasg, s_inc, s_put, s_putop, s_ast, s_astop, s_exp, s_call, s_skip, s_brk, s_cont, s_oinit, e_lit, e_long, e_il, e_al, e_ll, e_bin, e_un, e_fld, e_ald, e_tern, e_call, e_alen, b_cmp, b_cmp0, b_lcmp, b_and, b_or, b_not, o_add, o_sub, o_mul, o_and, o_or, o_xor, o_shl, o_shr, o_neg, o_i2l, o_l2i, o_i2c, r_eq, r_ne, r_lt, r_ge, r_gt, r_le, r_eq0, r_ne0, r_lt0, r_ge0, r_gt0, r_le0, x_fld, x_int, x_ref, x_long, x_args, x_nar, xKd, xst1, xst2, xlg, Option.bind_some, Option.bind_none, Option.map_some, Option.map_none, List.getElem?_cons_zero, List.getElem?_cons_succ, List.set_cons_zero, List.set_cons_succ, List.length_cons, List.length_nil, List.length_map, List.length_range, List.length_set, decide_eq_true_eq, if_true, if_false, reduceIte, reduceCtorEq, Bool.not_true, Bool.not_false, Bool.false_eq_true, x_ix_nI, ax_get, ax_set, e_aald, s_aast, true_and, and_true, ite_true, ite_false, ↓bI_01, bI_eq0, bI_eq1, bool_or, tern_pure, and_pure, or_pure, bI_def, bne_t, ndf, decide_not, Bool.decide_eq_true, Bool.decide_and, Bool.decide_or, Nat.reduceEqDiff, Nat.reduceAdd, Nat.reduceMul, Nat.reduceSub, Nat.reduceLT, Nat.reduceLeDiff, or_false, false_or, or_true, true_or, and_false, false_and, Bool.or_eq_true, Bool.and_eq_true, Bool.or_false, Bool.or_true, Bool.true_or, Bool.false_or, Bool.and_true, Bool.and_false, Bool.true_and, Bool.false_and, decide_true, decide_false, not_true_eq_false, not_false_eq_true, nI_leI, nle]
          have z2 : (b_not (b_cmp0 r_ne0 (e_call m_X8_takeItem [(e_al 0), (e_ald 1 (e_fld 8 2 (e_al 0)) (e_il 1))]))) [some (.ref 1), some (.int (nI i)), some (.int (nI j))] h1' = some (!(tI P fx (lt l i) vs.length (vs.getD 0 0) (vs.getD 1 0) (vs.getD 2 0)).isSome, h2') := by
            simp (disch := omega) only [x_out, s_seq, s_ite, s_ret, s_retZ, s_retV, s_iasg, s_aasg, s_lasg, s_inc, s_put, s_putop, s_ast, s_astop, s_exp, s_call, s_skip, s_brk, s_cont, s_oinit, e_lit, e_long, e_il, e_al, e_ll, e_bin, e_un, e_fld, e_ald, e_tern, e_call, e_alen, b_cmp, b_cmp0, b_lcmp, b_and, b_or, b_not, o_add, o_sub, o_mul, o_and, o_or, o_xor, o_shl, o_shr, o_neg, o_i2l, o_l2i, o_i2c, r_eq, r_ne, r_lt, r_ge, r_gt, r_le, r_eq0, r_ne0, r_lt0, r_ge0, r_gt0, r_le0, x_fld, x_int, x_ref, x_long, x_args, x_nar, xKd, xst1, xst2, xlg, Option.bind_some, Option.bind_none, Option.map_some, Option.map_none, List.getElem?_cons_zero, List.getElem?_cons_succ, List.set_cons_zero, List.set_cons_succ, List.length_cons, List.length_nil, List.length_map, List.length_range, List.length_set, decide_eq_true_eq, if_true, if_false, reduceIte, reduceCtorEq, Bool.not_true, Bool.not_false, Bool.false_eq_true, x_ix_nI, ax_get, ax_set, e_aald, s_aast, true_and, and_true, ite_true, ite_false, ↓bI_01, bI_eq0, bI_eq1, bool_or, tern_pure, and_pure, or_pure, bI_def, bne_t, ndf, decide_not, Bool.decide_eq_true, Bool.decide_and, Bool.decide_or, Nat.reduceEqDiff, Nat.reduceAdd, Nat.reduceMul, Nat.reduceSub, Nat.reduceLT, Nat.reduceLeDiff, or_false, false_or, or_true, true_or, and_false, false_and, Bool.or_eq_true, Bool.and_eq_true, Bool.or_false, Bool.or_true, Bool.true_or, Bool.false_or, Bool.and_true, Bool.and_false, Bool.true_and, Bool.false_and, decide_true, decide_false, not_true_eq_false, not_false_eq_true, a30, rf, hi200, fi, t1]
          simp only [b_or, z1, Option.bind_some, Bool.false_eq_true, if_false]
          exact z2
        cases ht : tI P fx (lt l i) vs.length (vs.getD 0 0) (vs.getD 1 0) (vs.getD 2 0) with
        | none =>
          rw [ht] at c2
          obtain ⟨ff', t4⟩ := t4
          rw [show itC l i P fx = none by unfold itC; rw [hr]; dsimp only; rw [ht]; rfl]
          dsimp only
          refine ⟨some (.inr (some (.int (nI i)))), [some (.ref 1), some (.int (nI i)), some (.int (nI j))], h2', ?_, rfl, fun z => absurd z (by simp), ⟨_, t3⟩, ⟨ff', ⟨_, t4⟩, hL2, _, g2⟩, Fr2⟩
          have s1 : la_X8_firstFault_1 [some (.ref 1), some (.int (nI i)), u] h = some (some (.inr (some (.int (nI i)))), [some (.ref 1), some (.int (nI i)), some (.int (nI j))], h2') := by
            unfold la_X8_firstFault_1
            rw [s_seq_n c1]
            exact s_seq_r ((s_ite_t c2).trans (by simp only [x_out, s_seq, s_ite, s_ret, s_retZ, s_retV, s_iasg, s_aasg, s_lasg, s_inc, s_put, s_putop, s_ast, s_astop, s_exp, s_call, s_skip, s_brk, s_cont, s_oinit, e_lit, e_long, e_il, e_al, e_ll, e_bin, e_un, e_fld, e_ald, e_tern, e_call, e_alen, b_cmp, b_cmp0, b_lcmp, b_and, b_or, b_not, o_add, o_sub, o_mul, o_and, o_or, o_xor, o_shl, o_shr, o_neg, o_i2l, o_l2i, o_i2c, r_eq, r_ne, r_lt, r_ge, r_gt, r_le, r_eq0, r_ne0, r_lt0, r_ge0, r_gt0, r_le0, x_fld, x_int, x_ref, x_long, x_args, x_nar, xKd, xst1, xst2, xlg, Option.bind_some, Option.bind_none, Option.map_some, Option.map_none, List.getElem?_cons_zero, List.getElem?_cons_succ, List.set_cons_zero, List.set_cons_succ, List.length_cons, List.length_nil, List.length_map, List.length_range, List.length_set, decide_eq_true_eq, if_true, if_false, reduceIte, reduceCtorEq, Bool.not_true, Bool.not_false, Bool.false_eq_true, x_ix_nI, ax_get, ax_set, e_aald, s_aast, true_and, and_true, ite_true, ite_false, ↓bI_01, bI_eq0, bI_eq1, bool_or, tern_pure, and_pure, or_pure, bI_def, bne_t, ndf, decide_not, Bool.decide_eq_true, Bool.decide_and, Bool.decide_or, Nat.reduceEqDiff, Nat.reduceAdd, Nat.reduceMul, Nat.reduceSub, Nat.reduceLT, Nat.reduceLeDiff, or_false, false_or, or_true, true_or, and_false, false_and, Bool.or_eq_true, Bool.and_eq_true, Bool.or_false, Bool.or_true, Bool.true_or, Bool.false_or, Bool.and_true, Bool.and_false, Bool.true_and, Bool.false_and, decide_true, decide_false, not_true_eq_false, not_false_eq_true]))
          rw [s_loop_step, s_step_ret c0 s1]
          rfl
        | some r =>
          obtain ⟨P', fx'⟩ := r
          rw [ht] at c2
          have t3' : PAt h2' 2 P' := by
            unfold tIP at t3
            rw [ht] at t3
            exact t3
          have t5' := t5 _ ht
          have K' : PK P' fx' := tI_PK K ht (hvle 0)
          obtain ⟨o, env', h', y1, y2, y3, y4, y5, y6⟩ := ih j P' fx' h2' (some (.int (nI j))) (by omega) r2 K' t3' ⟨⟨_, t5'⟩, hL2, _, g2⟩
          rw [show itC l i P fx = some (P', fx', j) by unfold itC; rw [hr]; dsimp only; rw [ht]; rfl]
          dsimp only
          refine ⟨o, env', h', ?_, y2, y3, y4, y5, (Fr2.trans y6).mono fun b hb => hb.elim id id⟩
          have s1 : la_X8_firstFault_1 [some (.ref 1), some (.int (nI i)), u] h = some (none, [some (.ref 1), some (.int (nI j)), some (.int (nI j))], h2') := by
            unfold la_X8_firstFault_1
            rw [s_seq_n c1, s_seq_n ((s_ite_f c2).trans (skip_n _ _))]
            simp only [x_out, s_seq, s_ite, s_ret, s_retZ, s_retV, s_iasg, s_aasg, s_lasg, s_inc, s_put, s_putop, s_ast, s_astop, s_exp, s_call, s_skip, s_brk, s_cont, s_oinit, e_lit, e_long, e_il, e_al, e_ll, e_bin, e_un, e_fld, e_ald, e_tern, e_call, e_alen, b_cmp, b_cmp0, b_lcmp, b_and, b_or, b_not, o_add, o_sub, o_mul, o_and, o_or, o_xor, o_shl, o_shr, o_neg, o_i2l, o_l2i, o_i2c, r_eq, r_ne, r_lt, r_ge, r_gt, r_le, r_eq0, r_ne0, r_lt0, r_ge0, r_gt0, r_le0, x_fld, x_int, x_ref, x_long, x_args, x_nar, xKd, xst1, xst2, xlg, Option.bind_some, Option.bind_none, Option.map_some, Option.map_none, List.getElem?_cons_zero, List.getElem?_cons_succ, List.set_cons_zero, List.set_cons_succ, List.length_cons, List.length_nil, List.length_map, List.length_range, List.length_set, decide_eq_true_eq, if_true, if_false, reduceIte, reduceCtorEq, Bool.not_true, Bool.not_false, Bool.false_eq_true, x_ix_nI, ax_get, ax_set, e_aald, s_aast, true_and, and_true, ite_true, ite_false, ↓bI_01, bI_eq0, bI_eq1, bool_or, tern_pure, and_pure, or_pure, bI_def, bne_t, ndf, decide_not, Bool.decide_eq_true, Bool.decide_and, Bool.decide_or, Nat.reduceEqDiff, Nat.reduceAdd, Nat.reduceMul, Nat.reduceSub, Nat.reduceLT, Nat.reduceLeDiff, or_false, false_or, or_true, true_or, and_false, false_and, Bool.or_eq_true, Bool.and_eq_true, Bool.or_false, Bool.or_true, Bool.true_or, Bool.false_or, Bool.and_true, Bool.and_false, Bool.true_and, Bool.false_and, decide_true, decide_false, not_true_eq_false, not_false_eq_true]
          rw [s_loop_step, s_step_on c0 s1 (show lu_X8_firstFault_1 _ h2' = some (none, _, h2') from rfl)]
          exact y1
end RX
section LA
variable {h : XH} {Y : XSy} {c : Nat}
theorem firstFault_x {l : List Nat} (HL : LAt h l) (hl : l.length ≤ 200) (ha : ∀ x, x ∈ l → 32 ≤ x ∧ x ≤ 126) : ∃ J h', m_X8_firstFault [.ref 1] h = some (some (.int (oI (pf l 1000 0 (pClr J) false).1)), h') ∧ ((pf l 1000 0 (pClr J) false).1 = none → PAt h' 2 (pf l 1000 0 (pClr J) false).2) ∧ LAt h' l ∧ xFr (fun b => 1 ≤ b ∧ b ≤ 10) h h' := by
  obtain ⟨⟨nc, ff, t0⟩, ⟨f, t1, t2⟩, ⟨f3, t3⟩, t4⟩ := HL
  obtain ⟨J, HJ⟩ := t4.at
  obtain ⟨h1, a1, a2, a3⟩ := clear_x HJ
  have t0' := (a3.2.2 1 (by unfold pCells; omega)).trans t0
  obtain ⟨kc, rfl⟩ := nI_all nc
  have F2 := xFr.set t0' (c' := .inl (8, [.int (nI l.length), .ref 2, .ref 9, .ref 10, .int (nI kc), .int 0])) (by rfl)
  have k2 := set_at t0' (c' := .inl (8, [.int (nI l.length), .ref 2, .ref 9, .ref 10, .int (nI kc), .int 0]))
  have s2 : (s_put 8 5 1 (e_al 0) (e_lit 0)) [some (.ref 1), none, none] h1 = some (none, [some (.ref 1), none, none], h1.set 1 (.inl (8, [.int (nI l.length), .ref 2, .ref 9, .ref 10, .int (nI kc), .int 0]))) := by
    simp (disch := omega) only [x_out, s_seq, s_ite, s_ret, s_retZ, s_retV, s_iasg, s_aasg, s_lasg, s_inc, s_put, s_putop, s_ast, s_astop, s_exp, s_call, s_skip, s_brk, s_cont, s_oinit, e_lit, e_long, e_il, e_al, e_ll, e_bin, e_un, e_fld, e_ald, e_tern, e_call, e_alen, b_cmp, b_cmp0, b_lcmp, b_and, b_or, b_not, o_add, o_sub, o_mul, o_and, o_or, o_xor, o_shl, o_shr, o_neg, o_i2l, o_l2i, o_i2c, r_eq, r_ne, r_lt, r_ge, r_gt, r_le, r_eq0, r_ne0, r_lt0, r_ge0, r_gt0, r_le0, x_fld, x_int, x_ref, x_long, x_args, x_nar, xKd, xst1, xst2, xlg, Option.bind_some, Option.bind_none, Option.map_some, Option.map_none, List.getElem?_cons_zero, List.getElem?_cons_succ, List.set_cons_zero, List.set_cons_succ, List.length_cons, List.length_nil, List.length_map, List.length_range, List.length_set, decide_eq_true_eq, if_true, if_false, reduceIte, reduceCtorEq, Bool.not_true, Bool.not_false, Bool.false_eq_true, x_ix_nI, ax_get, ax_set, e_aald, s_aast, true_and, and_true, ite_true, ite_false, ↓bI_01, bI_eq0, bI_eq1, bool_or, tern_pure, and_pure, or_pure, bI_def, bne_t, ndf, decide_not, Bool.decide_eq_true, Bool.decide_and, Bool.decide_or, Nat.reduceEqDiff, Nat.reduceAdd, Nat.reduceMul, Nat.reduceSub, Nat.reduceLT, Nat.reduceLeDiff, or_false, false_or, or_true, true_or, and_false, false_and, Bool.or_eq_true, Bool.and_eq_true, Bool.or_false, Bool.or_true, Bool.true_or, Bool.false_or, Bool.and_true, Bool.and_false, Bool.true_and, Bool.false_and, decide_true, decide_false, not_true_eq_false, not_false_eq_true, t0', bq00]
  generalize h1.set 1 (.inl (8, [.int (nI l.length), .ref 2, .ref 9, .ref 10, .int (nI kc), .int 0])) = h2 at F2 k2 s2
  have s1 : (s_call m_X4_clear [(e_fld 8 1 (e_al 0))]) [some (.ref 1), none, none] h = some (none, [some (.ref 1), none, none], h1) := by
    simp (disch := omega) only [x_out, s_seq, s_ite, s_ret, s_retZ, s_retV, s_iasg, s_aasg, s_lasg, s_inc, s_put, s_putop, s_ast, s_astop, s_exp, s_call, s_skip, s_brk, s_cont, s_oinit, e_lit, e_long, e_il, e_al, e_ll, e_bin, e_un, e_fld, e_ald, e_tern, e_call, e_alen, b_cmp, b_cmp0, b_lcmp, b_and, b_or, b_not, o_add, o_sub, o_mul, o_and, o_or, o_xor, o_shl, o_shr, o_neg, o_i2l, o_l2i, o_i2c, r_eq, r_ne, r_lt, r_ge, r_gt, r_le, r_eq0, r_ne0, r_lt0, r_ge0, r_gt0, r_le0, x_fld, x_int, x_ref, x_long, x_args, x_nar, xKd, xst1, xst2, xlg, Option.bind_some, Option.bind_none, Option.map_some, Option.map_none, List.getElem?_cons_zero, List.getElem?_cons_succ, List.set_cons_zero, List.set_cons_succ, List.length_cons, List.length_nil, List.length_map, List.length_range, List.length_set, decide_eq_true_eq, if_true, if_false, reduceIte, reduceCtorEq, Bool.not_true, Bool.not_false, Bool.false_eq_true, x_ix_nI, ax_get, ax_set, e_aald, s_aast, true_and, and_true, ite_true, ite_false, ↓bI_01, bI_eq0, bI_eq1, bool_or, tern_pure, and_pure, or_pure, bI_def, bne_t, ndf, decide_not, Bool.decide_eq_true, Bool.decide_and, Bool.decide_or, Nat.reduceEqDiff, Nat.reduceAdd, Nat.reduceMul, Nat.reduceSub, Nat.reduceLT, Nat.reduceLeDiff, or_false, false_or, or_true, true_or, and_false, false_and, Bool.or_eq_true, Bool.and_eq_true, Bool.or_false, Bool.or_true, Bool.true_or, Bool.false_or, Bool.and_true, Bool.and_false, Bool.true_and, Bool.false_and, decide_true, decide_false, not_true_eq_false, not_false_eq_true, t0, a1]
  have HX : XTa h2 l (bI false) := ⟨⟨kc, k2⟩, ⟨f, (F2.2.2 9 (by omega)).trans ((a3.2.2 9 (by unfold pCells; omega)).trans t1), t2⟩, f3, (F2.2.2 10 (by omega)).trans ((a3.2.2 10 (by unfold pCells; omega)).trans t3)⟩
  have HP2 : PAt h2 2 (pClr J) := a2.same (fun b b1 b2 => F2.2.2 b (by omega))
  obtain ⟨o, env', h', y1, y2, y3, ⟨Q, y4⟩, ⟨ff', ⟨c9, y5⟩, ⟨f9, y6, y7⟩, g9, y8⟩, y9⟩ := ff_x hl ha 1000 0 (pClr J) false h2 none (by omega) (by omega) (pClr_PK J) HP2 HX
  refine ⟨J, h', ?_, y3, ⟨⟨_, _, y5⟩, ⟨f9, y6, y7⟩, ⟨_, y8⟩, y4.any⟩, ((a3.trans F2).trans y9).mono fun b hb => ?_⟩
  · refine xM_run (env := [some (.ref 1), none, none]) t0 rfl rfl (Nat.le_of_ble_eq_true rfl) rfl ?_ rfl
    unfold bd_X8_firstFault
    rw [s_seq_n s1, s_seq_n s2, s_seq_n (show (s_iasg 1 (e_lit 0)) [some (.ref 1), none, none] h2 = some (none, [some (.ref 1), some (.int (nI 0)), none], h2) from rfl)]
    cases hq : (pf l 1000 0 (pClr J) false).1 with
    | none =>
      rw [hq] at y2
      subst y2
      rw [s_seq_n y1]
      rfl
    | some k =>
      rw [hq] at y2
      subst y2
      rw [s_seq_r y1]
      rfl
  · rcases hb with (hb | hb) | hb
    · exact ⟨by have := hb.1; omega, by have := hb.2; omega⟩
    · subst hb; exact ⟨by omega, by omega⟩
    · exact hb
theorem fault_d (H : DAt h Y) (K : YOK c Y) : ∃ J h', m_X9_fault [.ref 0] h = some (some (.int (oI (pf (yL Y) 1000 0 (pClr J) false).1)), h') ∧ DAt h' Y ∧ xFr dC h h' := by
  obtain ⟨g0, g1, -⟩ := id H
  obtain ⟨J, h', a1, a2, a3, a4⟩ := firstFault_x g1 K.2.2.2.2.2.2.2.1 K.2.2.2.2.2.2.2.2.1
  refine ⟨J, h', ?_, H.putL a4 a3, a4.mono fun b hb => by unfold dC; omega⟩
  refine xM_run (env := [some (.ref 0)]) g0 rfl rfl (Nat.le_of_ble_eq_true rfl) rfl ?_ rfl
  simp (disch := omega) only [bd_X9_fault, x_out, s_seq, s_ite, s_ret, s_retZ, s_retV, s_iasg, s_aasg, s_lasg, s_inc, s_put, s_putop, s_ast, s_astop, s_exp, s_call, s_skip, s_brk, s_cont, s_oinit, e_lit, e_long, e_il, e_al, e_ll, e_bin, e_un, e_fld, e_ald, e_tern, e_call, e_alen, b_cmp, b_cmp0, b_lcmp, b_and, b_or, b_not, o_add, o_sub, o_mul, o_and, o_or, o_xor, o_shl, o_shr, o_neg, o_i2l, o_l2i, o_i2c, r_eq, r_ne, r_lt, r_ge, r_gt, r_le, r_eq0, r_ne0, r_lt0, r_ge0, r_gt0, r_le0, x_fld, x_int, x_ref, x_long, x_args, x_nar, xKd, xst1, xst2, xlg, Option.bind_some, Option.bind_none, Option.map_some, Option.map_none, List.getElem?_cons_zero, List.getElem?_cons_succ, List.set_cons_zero, List.set_cons_succ, List.length_cons, List.length_nil, List.length_map, List.length_range, List.length_set, decide_eq_true_eq, if_true, if_false, reduceIte, reduceCtorEq, Bool.not_true, Bool.not_false, Bool.false_eq_true, x_ix_nI, ax_get, ax_set, e_aald, s_aast, true_and, and_true, ite_true, ite_false, ↓bI_01, bI_eq0, bI_eq1, bool_or, tern_pure, and_pure, or_pure, bI_def, bne_t, ndf, decide_not, Bool.decide_eq_true, Bool.decide_and, Bool.decide_or, Nat.reduceEqDiff, Nat.reduceAdd, Nat.reduceMul, Nat.reduceSub, Nat.reduceLT, Nat.reduceLeDiff, or_false, false_or, or_true, true_or, and_false, false_and, Bool.or_eq_true, Bool.and_eq_true, Bool.or_false, Bool.or_true, Bool.true_or, Bool.false_or, Bool.and_true, Bool.and_false, Bool.true_and, Bool.false_and, decide_true, decide_false, not_true_eq_false, not_false_eq_true, g0, a1]
theorem DAt.putP {h' : XH} (H : DAt h Y) {P : XP} (F : xFr (pCells 11) h h') (HS : PAt h' 11 P) : DAt h' (P, yS Y, yQ Y, yK Y, yG Y, yL Y) := by
  obtain ⟨g0, g1, g2, g3, ⟨D, g4⟩, g5, g6, g7, g8⟩ := H
  have e : ∀ b, b < 11 ∨ 17 < b → h'[b]? = h[b]? := fun b hb => F.2.2 b (by unfold pCells; omega)
  exact ⟨(e _ (by omega)).trans g0, g1.same (fun a _ _ => e a (by omega)), HS, g3.same (fun a _ _ => e a (by omega)), ⟨D, g4.same (fun a _ _ => e a (by omega))⟩, g5.same (fun a q => e a (by have := q.1; omega)), g6.same (fun a q => e a (by have := q.1; omega)), g7.same (fun a _ _ => e a (by omega)), g8.same (fun a _ _ => e a (by omega))⟩
theorem layTold_x (H : DAt h Y) {P : XP} (H2 : PAt h 2 P) : ∃ h', m_X9_layTold [.ref 0] h = some (none, h') ∧ DAt h' (P, sBegin P, [], [], (0, (yG Y).2), yL Y) ∧ xFr dC h h' := by
  obtain ⟨g0, ⟨⟨nc, ff, t0⟩, -⟩, g2, -⟩ := id H
  obtain ⟨h1, a1, a2, a3⟩ := copyP_x g2 H2 (Or.inr (by omega))
  have D1 := H.putP a3 a2
  obtain ⟨h2, b1, b2, b3⟩ := begin_x (show PAt h1 11 P from D1.2.2.1) (by omega) (show SAt h1 18 (yS Y) from D1.2.2.2.1)
  have D2 := D1.putS b3 b2
  obtain ⟨c1, c2⟩ := (show QAt h2 30 8 (yQ Y) from D2.2.2.2.2.2.1).cut
  have kq := (show QAt h2 30 8 (yQ Y) from D2.2.2.2.2.2.1).2.1
  generalize hk3 : h2.set 30 (.inl (7, [.int 0, .ref (30 + 1)])) = h3 at c1 c2
  have D3 := D2.putQ (c2.mono fun b hb => ⟨by omega, by omega⟩) c1
  obtain ⟨d1, d2⟩ := (show QAt h3 80 2 (yK Y) from D3.2.2.2.2.2.2.1).cut
  have kk := (show QAt h3 80 2 (yK Y) from D3.2.2.2.2.2.2.1).2.1
  generalize hk4 : h3.set 80 (.inl (7, [.int 0, .ref (80 + 1)])) = h4 at d1 d2
  have D4 := D3.putK (d2.mono fun b hb => ⟨by omega, by omega⟩) d1
  obtain ⟨u0, u1, u2⟩ := (show GAt h4 94 (yG Y) from D4.2.2.2.2.2.2.2.1)
  have F5 := xFr.set u0 (c' := .inl (5, [.int (nI 0), .ref (94 + 1), .ref (94 + 2)])) (by rfl)
  have G5 : GAt (h4.set 94 (.inl (5, [.int (nI 0), .ref (94 + 1), .ref (94 + 2)]))) 94 (0, (yG Y).2) := ⟨set_at u0, (set_ne (by omega)).trans u1, (set_ne (by omega)).trans u2⟩
  generalize hk5 : h4.set 94 (.inl (5, [.int (nI 0), .ref (94 + 1), .ref (94 + 2)])) = h5 at F5 G5
  have D5 := D4.putG (F5.mono fun b hb => ⟨by omega, by omega⟩) G5
  refine ⟨h5, ?_, D5, ((((a3.trans b3).trans c2).trans d2).trans F5).mono fun b hb => ?_⟩
  · have s1 : (s_call m_X4_copyFrom [(e_fld 9 1 (e_al 0)), (e_fld 8 1 (e_fld 9 0 (e_al 0)))]) [some (.ref 0)] h = some (none, [some (.ref 0)], h1) := by
      simp (disch := omega) only [x_out, s_seq, s_ite, s_ret, s_retZ, s_retV, s_iasg, s_aasg, s_lasg, s_inc, s_put, s_putop, s_ast, s_astop, s_exp, s_call, s_skip, s_brk, s_cont, s_oinit, e_lit, e_long, e_il, e_al, e_ll, e_bin, e_un, e_fld, e_ald, e_tern, e_call, e_alen, b_cmp, b_cmp0, b_lcmp, b_and, b_or, b_not, o_add, o_sub, o_mul, o_and, o_or, o_xor, o_shl, o_shr, o_neg, o_i2l, o_l2i, o_i2c, r_eq, r_ne, r_lt, r_ge, r_gt, r_le, r_eq0, r_ne0, r_lt0, r_ge0, r_gt0, r_le0, x_fld, x_int, x_ref, x_long, x_args, x_nar, xKd, xst1, xst2, xlg, Option.bind_some, Option.bind_none, Option.map_some, Option.map_none, List.getElem?_cons_zero, List.getElem?_cons_succ, List.set_cons_zero, List.set_cons_succ, List.length_cons, List.length_nil, List.length_map, List.length_range, List.length_set, decide_eq_true_eq, if_true, if_false, reduceIte, reduceCtorEq, Bool.not_true, Bool.not_false, Bool.false_eq_true, x_ix_nI, ax_get, ax_set, e_aald, s_aast, true_and, and_true, ite_true, ite_false, ↓bI_01, bI_eq0, bI_eq1, bool_or, tern_pure, and_pure, or_pure, bI_def, bne_t, ndf, decide_not, Bool.decide_eq_true, Bool.decide_and, Bool.decide_or, Nat.reduceEqDiff, Nat.reduceAdd, Nat.reduceMul, Nat.reduceSub, Nat.reduceLT, Nat.reduceLeDiff, or_false, false_or, or_true, true_or, and_false, false_and, Bool.or_eq_true, Bool.and_eq_true, Bool.or_false, Bool.or_true, Bool.true_or, Bool.false_or, Bool.and_true, Bool.and_false, Bool.true_and, Bool.false_and, decide_true, decide_false, not_true_eq_false, not_false_eq_true, g0, t0, a1]
    have g01 := D1.1
    have s2 : (s_call m_X6_begin [(e_fld 9 2 (e_al 0))]) [some (.ref 0)] h1 = some (none, [some (.ref 0)], h2) := by
      simp (disch := omega) only [x_out, s_seq, s_ite, s_ret, s_retZ, s_retV, s_iasg, s_aasg, s_lasg, s_inc, s_put, s_putop, s_ast, s_astop, s_exp, s_call, s_skip, s_brk, s_cont, s_oinit, e_lit, e_long, e_il, e_al, e_ll, e_bin, e_un, e_fld, e_ald, e_tern, e_call, e_alen, b_cmp, b_cmp0, b_lcmp, b_and, b_or, b_not, o_add, o_sub, o_mul, o_and, o_or, o_xor, o_shl, o_shr, o_neg, o_i2l, o_l2i, o_i2c, r_eq, r_ne, r_lt, r_ge, r_gt, r_le, r_eq0, r_ne0, r_lt0, r_ge0, r_gt0, r_le0, x_fld, x_int, x_ref, x_long, x_args, x_nar, xKd, xst1, xst2, xlg, Option.bind_some, Option.bind_none, Option.map_some, Option.map_none, List.getElem?_cons_zero, List.getElem?_cons_succ, List.set_cons_zero, List.set_cons_succ, List.length_cons, List.length_nil, List.length_map, List.length_range, List.length_set, decide_eq_true_eq, if_true, if_false, reduceIte, reduceCtorEq, Bool.not_true, Bool.not_false, Bool.false_eq_true, x_ix_nI, ax_get, ax_set, e_aald, s_aast, true_and, and_true, ite_true, ite_false, ↓bI_01, bI_eq0, bI_eq1, bool_or, tern_pure, and_pure, or_pure, bI_def, bne_t, ndf, decide_not, Bool.decide_eq_true, Bool.decide_and, Bool.decide_or, Nat.reduceEqDiff, Nat.reduceAdd, Nat.reduceMul, Nat.reduceSub, Nat.reduceLT, Nat.reduceLeDiff, or_false, false_or, or_true, true_or, and_false, false_and, Bool.or_eq_true, Bool.and_eq_true, Bool.or_false, Bool.or_true, Bool.true_or, Bool.false_or, Bool.and_true, Bool.and_false, Bool.true_and, Bool.false_and, decide_true, decide_false, not_true_eq_false, not_false_eq_true, g01, b1]
    have g02 := D2.1
    have s3 : (s_put 7 0 0 (e_fld 9 4 (e_al 0)) (e_lit 0)) [some (.ref 0)] h2 = some (none, [some (.ref 0)], h3) := by
      simp (disch := omega) only [x_out, s_seq, s_ite, s_ret, s_retZ, s_retV, s_iasg, s_aasg, s_lasg, s_inc, s_put, s_putop, s_ast, s_astop, s_exp, s_call, s_skip, s_brk, s_cont, s_oinit, e_lit, e_long, e_il, e_al, e_ll, e_bin, e_un, e_fld, e_ald, e_tern, e_call, e_alen, b_cmp, b_cmp0, b_lcmp, b_and, b_or, b_not, o_add, o_sub, o_mul, o_and, o_or, o_xor, o_shl, o_shr, o_neg, o_i2l, o_l2i, o_i2c, r_eq, r_ne, r_lt, r_ge, r_gt, r_le, r_eq0, r_ne0, r_lt0, r_ge0, r_gt0, r_le0, x_fld, x_int, x_ref, x_long, x_args, x_nar, xKd, xst1, xst2, xlg, Option.bind_some, Option.bind_none, Option.map_some, Option.map_none, List.getElem?_cons_zero, List.getElem?_cons_succ, List.set_cons_zero, List.set_cons_succ, List.length_cons, List.length_nil, List.length_map, List.length_range, List.length_set, decide_eq_true_eq, if_true, if_false, reduceIte, reduceCtorEq, Bool.not_true, Bool.not_false, Bool.false_eq_true, x_ix_nI, ax_get, ax_set, e_aald, s_aast, true_and, and_true, ite_true, ite_false, ↓bI_01, bI_eq0, bI_eq1, bool_or, tern_pure, and_pure, or_pure, bI_def, bne_t, ndf, decide_not, Bool.decide_eq_true, Bool.decide_and, Bool.decide_or, Nat.reduceEqDiff, Nat.reduceAdd, Nat.reduceMul, Nat.reduceSub, Nat.reduceLT, Nat.reduceLeDiff, or_false, false_or, or_true, true_or, and_false, false_and, Bool.or_eq_true, Bool.and_eq_true, Bool.or_false, Bool.or_true, Bool.true_or, Bool.false_or, Bool.and_true, Bool.and_false, Bool.true_and, Bool.false_and, decide_true, decide_false, not_true_eq_false, not_false_eq_true, g02, kq, hk3]
    have g03 := D3.1
    have s4 : (s_put 7 0 0 (e_fld 9 5 (e_al 0)) (e_lit 0)) [some (.ref 0)] h3 = some (none, [some (.ref 0)], h4) := by
      simp (disch := omega) only [x_out, s_seq, s_ite, s_ret, s_retZ, s_retV, s_iasg, s_aasg, s_lasg, s_inc, s_put, s_putop, s_ast, s_astop, s_exp, s_call, s_skip, s_brk, s_cont, s_oinit, e_lit, e_long, e_il, e_al, e_ll, e_bin, e_un, e_fld, e_ald, e_tern, e_call, e_alen, b_cmp, b_cmp0, b_lcmp, b_and, b_or, b_not, o_add, o_sub, o_mul, o_and, o_or, o_xor, o_shl, o_shr, o_neg, o_i2l, o_l2i, o_i2c, r_eq, r_ne, r_lt, r_ge, r_gt, r_le, r_eq0, r_ne0, r_lt0, r_ge0, r_gt0, r_le0, x_fld, x_int, x_ref, x_long, x_args, x_nar, xKd, xst1, xst2, xlg, Option.bind_some, Option.bind_none, Option.map_some, Option.map_none, List.getElem?_cons_zero, List.getElem?_cons_succ, List.set_cons_zero, List.set_cons_succ, List.length_cons, List.length_nil, List.length_map, List.length_range, List.length_set, decide_eq_true_eq, if_true, if_false, reduceIte, reduceCtorEq, Bool.not_true, Bool.not_false, Bool.false_eq_true, x_ix_nI, ax_get, ax_set, e_aald, s_aast, true_and, and_true, ite_true, ite_false, ↓bI_01, bI_eq0, bI_eq1, bool_or, tern_pure, and_pure, or_pure, bI_def, bne_t, ndf, decide_not, Bool.decide_eq_true, Bool.decide_and, Bool.decide_or, Nat.reduceEqDiff, Nat.reduceAdd, Nat.reduceMul, Nat.reduceSub, Nat.reduceLT, Nat.reduceLeDiff, or_false, false_or, or_true, true_or, and_false, false_and, Bool.or_eq_true, Bool.and_eq_true, Bool.or_false, Bool.or_true, Bool.true_or, Bool.false_or, Bool.and_true, Bool.and_false, Bool.true_and, Bool.false_and, decide_true, decide_false, not_true_eq_false, not_false_eq_true, g03, kk, hk4]
    have g04 := D4.1
    rw [nI_0] at hk5
    have s5 : (s_put 5 0 0 (e_fld 9 6 (e_al 0)) (e_lit 0)) [some (.ref 0)] h4 = some (none, [some (.ref 0)], h5) := by
      simp (disch := omega) only [x_out, s_seq, s_ite, s_ret, s_retZ, s_retV, s_iasg, s_aasg, s_lasg, s_inc, s_put, s_putop, s_ast, s_astop, s_exp, s_call, s_skip, s_brk, s_cont, s_oinit, e_lit, e_long, e_il, e_al, e_ll, e_bin, e_un, e_fld, e_ald, e_tern, e_call, e_alen, b_cmp, b_cmp0, b_lcmp, b_and, b_or, b_not, o_add, o_sub, o_mul, o_and, o_or, o_xor, o_shl, o_shr, o_neg, o_i2l, o_l2i, o_i2c, r_eq, r_ne, r_lt, r_ge, r_gt, r_le, r_eq0, r_ne0, r_lt0, r_ge0, r_gt0, r_le0, x_fld, x_int, x_ref, x_long, x_args, x_nar, xKd, xst1, xst2, xlg, Option.bind_some, Option.bind_none, Option.map_some, Option.map_none, List.getElem?_cons_zero, List.getElem?_cons_succ, List.set_cons_zero, List.set_cons_succ, List.length_cons, List.length_nil, List.length_map, List.length_range, List.length_set, decide_eq_true_eq, if_true, if_false, reduceIte, reduceCtorEq, Bool.not_true, Bool.not_false, Bool.false_eq_true, x_ix_nI, ax_get, ax_set, e_aald, s_aast, true_and, and_true, ite_true, ite_false, ↓bI_01, bI_eq0, bI_eq1, bool_or, tern_pure, and_pure, or_pure, bI_def, bne_t, ndf, decide_not, Bool.decide_eq_true, Bool.decide_and, Bool.decide_or, Nat.reduceEqDiff, Nat.reduceAdd, Nat.reduceMul, Nat.reduceSub, Nat.reduceLT, Nat.reduceLeDiff, or_false, false_or, or_true, true_or, and_false, false_and, Bool.or_eq_true, Bool.and_eq_true, Bool.or_false, Bool.or_true, Bool.true_or, Bool.false_or, Bool.and_true, Bool.and_false, Bool.true_and, Bool.false_and, decide_true, decide_false, not_true_eq_false, not_false_eq_true, g04, u0, hk5]
    refine xM_run (env := [some (.ref 0)]) g0 rfl rfl (Nat.le_of_ble_eq_true rfl) rfl ?_ rfl
    unfold bd_X9_layTold
    rw [s_seq_n s1, s_seq_n s2, s_seq_n s3, s_seq_n s4, s_seq_n s5]
    rfl
  · unfold dC
    rcases hb with (((hb | hb) | hb) | hb) | hb
    · have := hb.2; omega
    · have := hb.2; omega
    · omega
    · omega
    · omega
def pfL (l : List Nat) (J : XP) : Option Nat × XP := pf l 1000 0 (pClr J) false
def aLay (Y : XSy) (J : XP) : Int32 := if (pfL (yL Y) J).1 = none ∧ pM (pfL (yL Y) J).2 ≠ 0 then nI (pF (pfL (yL Y) J).2) else -2
def yLay (Y : XSy) (J : XP) : XSy := if (pfL (yL Y) J).1 = none ∧ pM (pfL (yL Y) J).2 ≠ 0 then ((pfL (yL Y) J).2, sBegin (pfL (yL Y) J).2, [], [], (0, (yG Y).2), yL Y) else Y
theorem lay_d (H : DAt h Y) (K : YOK c Y) : ∃ J h', m_X9_lay [.ref 0] h = some (some (.int (aLay Y J)), h') ∧ DAt h' (yLay Y J) ∧ xFr dC h h' := by
  obtain ⟨g0, g1, -⟩ := id H
  obtain ⟨J, h1, a1, a2, a3, a4⟩ := firstFault_x g1 K.2.2.2.2.2.2.2.1 K.2.2.2.2.2.2.2.2.1
  have D1 := H.putL a4 a3
  have g01 := D1.1
  have Fr1 : xFr dC h h1 := a4.mono fun b hb => by unfold dC; omega
  refine ⟨J, ?_⟩
  unfold aLay yLay
  have O' : POK (pfL (yL Y) J).2 := pf_K (pClr_PK J)
  have a1 : m_X8_firstFault [.ref 1] h = some (some (.int (oI (pfL (yL Y) J).1)), h1) := a1
  have a2 : (pfL (yL Y) J).1 = none → PAt h1 2 (pfL (yL Y) J).2 := a2
  have hk := fun k (e : (pfL (yL Y) J).1 = some k) => pf_le e
  generalize pfL (yL Y) J = R at a1 a2 O' hk ⊢
  obtain ⟨o, P⟩ := R
  cases o with
  | some k =>
    have m4 := nI_m4 k (by have := hk k rfl; have := K.2.2.2.2.2.2.2.1; omega)
    have a1 : m_X8_firstFault [.ref 1] h = some (some (.int (nI k)), h1) := a1
    refine ⟨h1, ?_, ?_, Fr1⟩
    · rw [if_neg (fun z => by cases z.1)]
      refine xM_run (env := [some (.ref 0)]) g0 rfl rfl (Nat.le_of_ble_eq_true rfl) rfl ?_ rfl
      unfold bd_X9_lay
      refine (congrArg x_out (s_seq_r ((s_ite_t (h' := h1) ?_).trans (ret_l _ _ _)))).trans x_out_n
      simp only [b_or]
      simp (disch := omega) only [x_out, s_seq, s_ite, s_ret, s_retZ, s_retV, s_iasg, s_aasg, s_lasg, s_inc, s_put, s_putop, s_ast, s_astop, s_exp, s_call, s_skip, s_brk, s_cont, s_oinit, e_lit, e_long, e_il, e_al, e_ll, e_bin, e_un, e_fld, e_ald, e_tern, e_call, e_alen, b_cmp, b_cmp0, b_lcmp, b_and, b_or, b_not, o_add, o_sub, o_mul, o_and, o_or, o_xor, o_shl, o_shr, o_neg, o_i2l, o_l2i, o_i2c, r_eq, r_ne, r_lt, r_ge, r_gt, r_le, r_eq0, r_ne0, r_lt0, r_ge0, r_gt0, r_le0, x_fld, x_int, x_ref, x_long, x_args, x_nar, xKd, xst1, xst2, xlg, Option.bind_some, Option.bind_none, Option.map_some, Option.map_none, List.getElem?_cons_zero, List.getElem?_cons_succ, List.set_cons_zero, List.set_cons_succ, List.length_cons, List.length_nil, List.length_map, List.length_range, List.length_set, decide_eq_true_eq, if_true, if_false, reduceIte, reduceCtorEq, Bool.not_true, Bool.not_false, Bool.false_eq_true, x_ix_nI, ax_get, ax_set, e_aald, s_aast, true_and, and_true, ite_true, ite_false, ↓bI_01, bI_eq0, bI_eq1, bool_or, tern_pure, and_pure, or_pure, bI_def, bne_t, ndf, decide_not, Bool.decide_eq_true, Bool.decide_and, Bool.decide_or, Nat.reduceEqDiff, Nat.reduceAdd, Nat.reduceMul, Nat.reduceSub, Nat.reduceLT, Nat.reduceLeDiff, or_false, false_or, or_true, true_or, and_false, false_and, Bool.or_eq_true, Bool.and_eq_true, Bool.or_false, Bool.or_true, Bool.true_or, Bool.false_or, Bool.and_true, Bool.and_false, Bool.true_and, Bool.false_and, decide_true, decide_false, not_true_eq_false, not_false_eq_true, g0, a1, m4]
    · rw [if_neg (fun z => by cases z.1)]
      exact D1
  | none =>
    have a1 : m_X8_firstFault [.ref 1] h = some (some (.int (-4)), h1) := a1
    have HP := a2 rfl
    obtain ⟨⟨nc, ff, t0⟩, -⟩ := id a3
    have p0 := HP.1
    have o6 := O'.2.2.2.2.2.1
    have c1 : (b_cmp r_ne (e_call m_X8_firstFault [(e_fld 9 0 (e_al 0))]) (e_lit (-4))) [some (.ref 0)] h = some (false, h1) := by
      simp (disch := omega) only [x_out, s_seq, s_ite, s_ret, s_retZ, s_retV, s_iasg, s_aasg, s_lasg, s_inc, s_put, s_putop, s_ast, s_astop, s_exp, s_call, s_skip, s_brk, s_cont, s_oinit, e_lit, e_long, e_il, e_al, e_ll, e_bin, e_un, e_fld, e_ald, e_tern, e_call, e_alen, b_cmp, b_cmp0, b_lcmp, b_and, b_or, b_not, o_add, o_sub, o_mul, o_and, o_or, o_xor, o_shl, o_shr, o_neg, o_i2l, o_l2i, o_i2c, r_eq, r_ne, r_lt, r_ge, r_gt, r_le, r_eq0, r_ne0, r_lt0, r_ge0, r_gt0, r_le0, x_fld, x_int, x_ref, x_long, x_args, x_nar, xKd, xst1, xst2, xlg, Option.bind_some, Option.bind_none, Option.map_some, Option.map_none, List.getElem?_cons_zero, List.getElem?_cons_succ, List.set_cons_zero, List.set_cons_succ, List.length_cons, List.length_nil, List.length_map, List.length_range, List.length_set, decide_eq_true_eq, if_true, if_false, reduceIte, reduceCtorEq, Bool.not_true, Bool.not_false, Bool.false_eq_true, x_ix_nI, ax_get, ax_set, e_aald, s_aast, true_and, and_true, ite_true, ite_false, ↓bI_01, bI_eq0, bI_eq1, bool_or, tern_pure, and_pure, or_pure, bI_def, bne_t, ndf, decide_not, Bool.decide_eq_true, Bool.decide_and, Bool.decide_or, Nat.reduceEqDiff, Nat.reduceAdd, Nat.reduceMul, Nat.reduceSub, Nat.reduceLT, Nat.reduceLeDiff, or_false, false_or, or_true, true_or, and_false, false_and, Bool.or_eq_true, Bool.and_eq_true, Bool.or_false, Bool.or_true, Bool.true_or, Bool.false_or, Bool.and_true, Bool.and_false, Bool.true_and, Bool.false_and, decide_true, decide_false, not_true_eq_false, not_false_eq_true, g0, a1]
    have c2 : (b_cmp0 r_eq0 (e_fld 4 3 (e_fld 8 1 (e_fld 9 0 (e_al 0))))) [some (.ref 0)] h1 = some (decide (pM P = 0), h1) := by
      have z : ((nI (pM P) : Int32) = 0) = (pM P = 0) := propext (nI_small (by have : pM P ≤ 4 := o6; omega))
      simp only [x_out, s_seq, s_ite, s_ret, s_retZ, s_retV, s_iasg, s_aasg, s_lasg, s_inc, s_put, s_putop, s_ast, s_astop, s_exp, s_call, s_skip, s_brk, s_cont, s_oinit, e_lit, e_long, e_il, e_al, e_ll, e_bin, e_un, e_fld, e_ald, e_tern, e_call, e_alen, b_cmp, b_cmp0, b_lcmp, b_and, b_or, b_not, o_add, o_sub, o_mul, o_and, o_or, o_xor, o_shl, o_shr, o_neg, o_i2l, o_l2i, o_i2c, r_eq, r_ne, r_lt, r_ge, r_gt, r_le, r_eq0, r_ne0, r_lt0, r_ge0, r_gt0, r_le0, x_fld, x_int, x_ref, x_long, x_args, x_nar, xKd, xst1, xst2, xlg, Option.bind_some, Option.bind_none, Option.map_some, Option.map_none, List.getElem?_cons_zero, List.getElem?_cons_succ, List.set_cons_zero, List.set_cons_succ, List.length_cons, List.length_nil, List.length_map, List.length_range, List.length_set, decide_eq_true_eq, if_true, if_false, reduceIte, reduceCtorEq, Bool.not_true, Bool.not_false, Bool.false_eq_true, x_ix_nI, ax_get, ax_set, e_aald, s_aast, true_and, and_true, ite_true, ite_false, ↓bI_01, bI_eq0, bI_eq1, bool_or, tern_pure, and_pure, or_pure, bI_def, bne_t, ndf, decide_not, Bool.decide_eq_true, Bool.decide_and, Bool.decide_or, Nat.reduceEqDiff, Nat.reduceAdd, Nat.reduceMul, Nat.reduceSub, Nat.reduceLT, Nat.reduceLeDiff, or_false, false_or, or_true, true_or, and_false, false_and, Bool.or_eq_true, Bool.and_eq_true, Bool.or_false, Bool.or_true, Bool.true_or, Bool.false_or, Bool.and_true, Bool.and_false, Bool.true_and, Bool.false_and, decide_true, decide_false, not_true_eq_false, not_false_eq_true, g01, t0, p0, z]
    have c3 : (b_or (b_cmp r_ne (e_call m_X8_firstFault [(e_fld 9 0 (e_al 0))]) (e_lit (-4))) (b_cmp0 r_eq0 (e_fld 4 3 (e_fld 8 1 (e_fld 9 0 (e_al 0)))))) [some (.ref 0)] h = some (decide (pM P = 0), h1) := by
      simp only [b_or, c1, Option.bind_some, Bool.false_eq_true, if_false, c2]
    by_cases q : pM P = 0
    · rw [decide_eq_true q] at c3
      refine ⟨h1, ?_, ?_, Fr1⟩
      · rw [if_neg (fun z => z.2 q)]
        refine xM_run (env := [some (.ref 0)]) g0 rfl rfl (Nat.le_of_ble_eq_true rfl) rfl ?_ rfl
        unfold bd_X9_lay
        exact (congrArg x_out (s_seq_r ((s_ite_t c3).trans (ret_l _ _ _)))).trans x_out_n
      · rw [if_neg (fun z => z.2 q)]
        exact D1
    · rw [decide_eq_false q] at c3
      obtain ⟨h2, b1, b2, b3⟩ := layTold_x D1 HP
      have g02 := b2.1
      have p02 := b2.2.2.1.1
      refine ⟨h2, ?_, ?_, (Fr1.trans b3).mono fun b hb => hb.elim id id⟩
      · rw [if_pos ⟨rfl, q⟩]
        refine xM_run (env := [some (.ref 0)]) g0 rfl rfl (Nat.le_of_ble_eq_true rfl) rfl ?_ rfl
        unfold bd_X9_lay
        rw [s_seq_n ((s_ite_f c3).trans (skip_n _ _))]
        simp (disch := omega) only [x_out, s_seq, s_ite, s_ret, s_retZ, s_retV, s_iasg, s_aasg, s_lasg, s_inc, s_put, s_putop, s_ast, s_astop, s_exp, s_call, s_skip, s_brk, s_cont, s_oinit, e_lit, e_long, e_il, e_al, e_ll, e_bin, e_un, e_fld, e_ald, e_tern, e_call, e_alen, b_cmp, b_cmp0, b_lcmp, b_and, b_or, b_not, o_add, o_sub, o_mul, o_and, o_or, o_xor, o_shl, o_shr, o_neg, o_i2l, o_l2i, o_i2c, r_eq, r_ne, r_lt, r_ge, r_gt, r_le, r_eq0, r_ne0, r_lt0, r_ge0, r_gt0, r_le0, x_fld, x_int, x_ref, x_long, x_args, x_nar, xKd, xst1, xst2, xlg, Option.bind_some, Option.bind_none, Option.map_some, Option.map_none, List.getElem?_cons_zero, List.getElem?_cons_succ, List.set_cons_zero, List.set_cons_succ, List.length_cons, List.length_nil, List.length_map, List.length_range, List.length_set, decide_eq_true_eq, if_true, if_false, reduceIte, reduceCtorEq, Bool.not_true, Bool.not_false, Bool.false_eq_true, x_ix_nI, ax_get, ax_set, e_aald, s_aast, true_and, and_true, ite_true, ite_false, ↓bI_01, bI_eq0, bI_eq1, bool_or, tern_pure, and_pure, or_pure, bI_def, bne_t, ndf, decide_not, Bool.decide_eq_true, Bool.decide_and, Bool.decide_or, Nat.reduceEqDiff, Nat.reduceAdd, Nat.reduceMul, Nat.reduceSub, Nat.reduceLT, Nat.reduceLeDiff, or_false, false_or, or_true, true_or, and_false, false_and, Bool.or_eq_true, Bool.and_eq_true, Bool.or_false, Bool.or_true, Bool.true_or, Bool.false_or, Bool.and_true, Bool.and_false, Bool.true_and, Bool.false_and, decide_true, decide_false, not_true_eq_false, not_false_eq_true, b1, g02, p02]
        rfl
      · rw [if_pos ⟨rfl, q⟩]
        exact b2
theorem YOK.lay (K : YOK c Y) (hc : c < 1000) (J : XP) : YOK (c + 1) (yLay Y J) := by
  unfold yLay
  have O' : POK (pfL (yL Y) J).2 := pf_K (pClr_PK J)
  split
  · rename_i q
    obtain ⟨k1, k2, k3, k4, k5, k6, k7, k8, k9, k10⟩ := K
    refine ⟨hc, O', ⟨fun s hs => Nat.zero_le _, fun w hw => (O'.2.2.2.2.2.2.2 w hw).2.1, fun i hi => ?_⟩, fun S h => (by cases h), fun S h => (by cases h), Nat.zero_le _, fun i h => (by cases h), k8, k9, Nat.one_le_iff_ne_zero.mpr q.2⟩
    show -((c + 1 : Nat) : Int) ≤ 0 ∧ (0 : Int) ≤ ((c + 1 : Nat) : Int)
    omega
  · exact K.up hc
end LA
