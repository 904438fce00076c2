/-! the reference: the way; what closing makes; a new stile -/
section WM
variable {h h' : XH} {Y : XSy} {c : Nat}
theorem RAt.up118 (H : RAt h Y) (F : xFr (fun b => b = 118) h h') {g : Nat → Int32} (hg : h'[118]? = some (arr 64 g)) : RAt h' Y := by
  obtain ⟨g0, ⟨z, g1⟩, ⟨f, g2, g3⟩, g4, g5, g6, ⟨f1, s1⟩, ⟨f2, s2⟩, -, f4, s4⟩ := H
  have e : ∀ b, b ≠ 118 → h'[b]? = h[b]? := fun b hb => F.2.2 b hb
  exact ⟨g0, ⟨z, (e _ (by omega)).trans g1⟩, ⟨f, (e _ (by omega)).trans g2, g3⟩, g4.same fun b _ _ => e b (by omega), g5.same fun b _ _ => e b (by omega), g6.same (e _ (by omega)), ⟨f1, (e _ (by omega)).trans s1⟩, ⟨f2, (e _ (by omega)).trans s2⟩, ⟨g, hg⟩, f4, (e _ (by omega)).trans s4⟩
theorem dist_m (H : RAt h Y) (K : YOK c Y) : ∃ h1 h2, m_X10_layApart [.ref 106] h = some (none, h1) ∧ m_X10_closeApart [.ref 106] h1 = some (none, h2) ∧ RAt h2 Y ∧ TAt h2 118 (pF (yP Y)) (dsM (yP Y) (yS Y)) ∧ xFr (fun b => b = 118) h h2 := by
  have O := K.2.1
  obtain ⟨f, V, W⟩ := H.view
  obtain ⟨-, -, -, -, -, -, -, -, ⟨g0, s3⟩, -⟩ := id H
  obtain ⟨h1, a1, a2, a3⟩ := layApart_r V O W.1 K.2.2.1 s3
  have V1 : RV h1 (yP Y) f := V.same fun b b1 b2 => a3.2.2 b (by omega)
  obtain ⟨h2, b1, b2, b3⟩ := closeApart_r V1 O (a2.mono O.2.1) (edM_B idM_B)
  have F := (a3.trans b3).mono (J := fun b => b = 118) fun b hb => hb.elim id id
  obtain ⟨g, t1, -⟩ := id b2
  exact ⟨h1, h2, a1, b1, H.up118 F t1, b2, F⟩
theorem way_m (H : RAt h Y) (K : YOK c Y) (x y v : Int32) : ∃ h', m_X10_way [.ref 106, .int x, .int y, .int v] h = some (some (.int (aWay Y x y v)), h') ∧ RAt h' Y ∧ xFr rC h h' := by
  have O := K.2.1
  have T := K.2.2.1
  have hF := O.2.1
  have o5 := O.2.2.2.2.1
  have o6 := O.2.2.2.2.2.1
  obtain ⟨f, V, W⟩ := H.view
  obtain ⟨-, ⟨z, h0⟩, -⟩ := id H
  have h0 : h[106]? = some (.inl (10, _)) := h0
  have e1 := isField_r V O y
  have e2 := isWalker_r V O x
  have e3 := in_1 h v
  have c1 : (b_or (b_or (b_not (b_cmp0 r_ne0 (e_call m_X10_isWalker [(e_al 0), (e_il 1)]))) (b_not (b_cmp0 r_ne0 (e_call m_X10_isField [(e_al 0), (e_il 2)])))) (b_not (b_cmp0 r_ne0 (e_call m_X10_in [(e_un o_i2l (e_il 3)), (e_long 0), (e_long 1)])))) [some (.ref 106), some (.int x), some (.int y), some (.int v), none, none, none] h = some ((!inR x (pM (yP Y)) || !inR y (pF (yP Y))) || !inR v 2, h) := b_or_p (b_or_p (by simp only [x_out, s_seq, s_ite, s_ret, s_retZ, s_retV, s_iasg, s_aasg, s_lasg, s_inc, s_put, s_putop, s_ast, s_astop, s_exp, s_call, s_skip, s_brk, s_cont, s_oinit, e_lit, e_long, e_il, e_al, e_ll, e_bin, e_un, e_fld, e_ald, e_tern, e_call, e_alen, b_cmp, b_cmp0, b_lcmp, b_and, b_or, b_not, o_add, o_sub, o_mul, o_and, o_or, o_xor, o_shl, o_shr, o_neg, o_i2l, o_l2i, o_i2c, r_eq, r_ne, r_lt, r_ge, r_gt, r_le, r_eq0, r_ne0, r_lt0, r_ge0, r_gt0, r_le0, x_fld, x_int, x_ref, x_long, x_args, x_nar, xKd, xst1, xst2, xlg, Option.bind_some, Option.bind_none, Option.map_some, Option.map_none, List.getElem?_cons_zero, List.getElem?_cons_succ, List.set_cons_zero, List.set_cons_succ, List.length_cons, List.length_nil, List.length_map, List.length_range, List.length_set, decide_eq_true_eq, if_true, if_false, reduceIte, reduceCtorEq, Bool.not_true, Bool.not_false, Bool.false_eq_true, x_ix_nI, ax_get, ax_set, e_aald, s_aast, true_and, and_true, ite_true, ite_false, ↓bI_01, bI_eq0, bI_eq1, bool_or, tern_pure, and_pure, or_pure, bI_def, bne_t, ndf, decide_not, Bool.decide_eq_true, Bool.decide_and, Bool.decide_or, Nat.reduceEqDiff, Nat.reduceAdd, Nat.reduceMul, Nat.reduceSub, Nat.reduceLT, Nat.reduceLeDiff, or_false, false_or, or_true, true_or, and_false, false_and, Bool.or_eq_true, Bool.and_eq_true, Bool.or_false, Bool.or_true, Bool.true_or, Bool.false_or, Bool.and_true, Bool.and_false, Bool.true_and, Bool.false_and, decide_true, decide_false, not_true_eq_false, not_false_eq_true, e2]) (fun _ => by simp only [x_out, s_seq, s_ite, s_ret, s_retZ, s_retV, s_iasg, s_aasg, s_lasg, s_inc, s_put, s_putop, s_ast, s_astop, s_exp, s_call, s_skip, s_brk, s_cont, s_oinit, e_lit, e_long, e_il, e_al, e_ll, e_bin, e_un, e_fld, e_ald, e_tern, e_call, e_alen, b_cmp, b_cmp0, b_lcmp, b_and, b_or, b_not, o_add, o_sub, o_mul, o_and, o_or, o_xor, o_shl, o_shr, o_neg, o_i2l, o_l2i, o_i2c, r_eq, r_ne, r_lt, r_ge, r_gt, r_le, r_eq0, r_ne0, r_lt0, r_ge0, r_gt0, r_le0, x_fld, x_int, x_ref, x_long, x_args, x_nar, xKd, xst1, xst2, xlg, Option.bind_some, Option.bind_none, Option.map_some, Option.map_none, List.getElem?_cons_zero, List.getElem?_cons_succ, List.set_cons_zero, List.set_cons_succ, List.length_cons, List.length_nil, List.length_map, List.length_range, List.length_set, decide_eq_true_eq, if_true, if_false, reduceIte, reduceCtorEq, Bool.not_true, Bool.not_false, Bool.false_eq_true, x_ix_nI, ax_get, ax_set, e_aald, s_aast, true_and, and_true, ite_true, ite_false, ↓bI_01, bI_eq0, bI_eq1, bool_or, tern_pure, and_pure, or_pure, bI_def, bne_t, ndf, decide_not, Bool.decide_eq_true, Bool.decide_and, Bool.decide_or, Nat.reduceEqDiff, Nat.reduceAdd, Nat.reduceMul, Nat.reduceSub, Nat.reduceLT, Nat.reduceLeDiff, or_false, false_or, or_true, true_or, and_false, false_and, Bool.or_eq_true, Bool.and_eq_true, Bool.or_false, Bool.or_true, Bool.true_or, Bool.false_or, Bool.and_true, Bool.and_false, Bool.true_and, Bool.false_and, decide_true, decide_false, not_true_eq_false, not_false_eq_true, e1])) (fun _ => by simp only [x_out, s_seq, s_ite, s_ret, s_retZ, s_retV, s_iasg, s_aasg, s_lasg, s_inc, s_put, s_putop, s_ast, s_astop, s_exp, s_call, s_skip, s_brk, s_cont, s_oinit, e_lit, e_long, e_il, e_al, e_ll, e_bin, e_un, e_fld, e_ald, e_tern, e_call, e_alen, b_cmp, b_cmp0, b_lcmp, b_and, b_or, b_not, o_add, o_sub, o_mul, o_and, o_or, o_xor, o_shl, o_shr, o_neg, o_i2l, o_l2i, o_i2c, r_eq, r_ne, r_lt, r_ge, r_gt, r_le, r_eq0, r_ne0, r_lt0, r_ge0, r_gt0, r_le0, x_fld, x_int, x_ref, x_long, x_args, x_nar, xKd, xst1, xst2, xlg, Option.bind_some, Option.bind_none, Option.map_some, Option.map_none, List.getElem?_cons_zero, List.getElem?_cons_succ, List.set_cons_zero, List.set_cons_succ, List.length_cons, List.length_nil, List.length_map, List.length_range, List.length_set, decide_eq_true_eq, if_true, if_false, reduceIte, reduceCtorEq, Bool.not_true, Bool.not_false, Bool.false_eq_true, x_ix_nI, ax_get, ax_set, e_aald, s_aast, true_and, and_true, ite_true, ite_false, ↓bI_01, bI_eq0, bI_eq1, bool_or, tern_pure, and_pure, or_pure, bI_def, bne_t, ndf, decide_not, Bool.decide_eq_true, Bool.decide_and, Bool.decide_or, Nat.reduceEqDiff, Nat.reduceAdd, Nat.reduceMul, Nat.reduceSub, Nat.reduceLT, Nat.reduceLeDiff, or_false, false_or, or_true, true_or, and_false, false_and, Bool.or_eq_true, Bool.and_eq_true, Bool.or_false, Bool.or_true, Bool.true_or, Bool.false_or, Bool.and_true, Bool.and_false, Bool.true_and, Bool.false_and, decide_true, decide_false, not_true_eq_false, not_false_eq_true, e3])
  unfold aWay
  by_cases q0 : ((!inR x (pM (yP Y)) || !inR y (pF (yP Y))) || !inR v 2) = true
  · rw [q0] at c1
    refine ⟨h, ?_, H, xFr.rf _ _⟩
    refine xM_run (env := [some (.ref 106), some (.int x), some (.int y), some (.int v), none, none, none]) h0 rfl rfl (Nat.le_of_ble_eq_true rfl) rfl ?_ rfl
    unfold bd_X10_way
    rw [s_seq_r ((s_ite_t c1).trans (ret_l _ _ _)), x_out_n]
    simp only [Bool.or_eq_true, Bool.not_eq_true'] at q0
    congr 4
    cases z1 : inR x (pM (yP Y)) with
    | false => rfl
    | true =>
      cases z2 : inR y (pF (yP Y)) with
      | false => rfl
      | true =>
        cases z3 : inR v 2 with
        | false => rfl
        | true => simp [z1, z2, z3] at q0
  · have q0' : ((!inR x (pM (yP Y)) || !inR y (pF (yP Y))) || !inR v 2) = false := by simpa using q0
    rw [q0'] at c1
    simp only [Bool.or_eq_false_iff, Bool.not_eq_false'] at q0'
    obtain ⟨⟨z1, z2⟩, z3⟩ := q0'
    simp only [z1, z2, z3, Bool.true_eq_false, if_false]
    rcases inR_cases x (n := pM (yP Y)) (by omega) with q | ⟨w, hw, rfl, -⟩
    · rw [q] at z1; cases z1
    rcases inR_cases y (n := pF (yP Y)) (by omega) with q | ⟨t, ht, rfl, -⟩
    · rw [q] at z2; cases z2
    rcases inR_cases v (n := 2) (by omega) with q | ⟨u, hu, rfl, -⟩
    · rw [q] at z3; cases z3
    simp only [iN_nI (show w < 2 ^ 31 by omega), iN_nI (show t < 2 ^ 31 by omega), iN_nI (show u < 2 ^ 31 by omega)]
    obtain ⟨h1, h2, a1, a2, H2, D2, F2⟩ := dist_m H K
    obtain ⟨f2, V2, W2⟩ := H2.view
    obtain ⟨-, ⟨z2', h02⟩, -⟩ := id H2
    have h02 : h2[106]? = some (.inl (10, _)) := h02
    have tp := T.2.1 w hw
    obtain ⟨g, rg, gv⟩ := apart_get V2 D2 hF
    have B0 := dsM_B (P := yP Y) (S := yS Y) (tP (yS Y) w) t
    have v1 := gv (tP (yS Y) w) t tp ht
    have hl1 : 8 * tP (yS Y) w + t < 64 := by omega
    have rw := ax_row V2.2.1
    have w1 := W2.1.2.2.1 w hw
    rw [Nat.zero_add] at w1
    have hlt : 10 + w < 696 := by omega
    have s2 : (s_call m_X10_layApart [(e_al 0)]) [some (.ref 106), some (.int (nI w)), some (.int (nI t)), some (.int (nI u)), none, none, none] h = some (none, [some (.ref 106), some (.int (nI w)), some (.int (nI t)), some (.int (nI u)), none, none, none], h1) := by simp only [x_out, s_seq, s_ite, s_ret, s_retZ, s_retV, s_iasg, s_aasg, s_lasg, s_inc, s_put, s_putop, s_ast, s_astop, s_exp, s_call, s_skip, s_brk, s_cont, s_oinit, e_lit, e_long, e_il, e_al, e_ll, e_bin, e_un, e_fld, e_ald, e_tern, e_call, e_alen, b_cmp, b_cmp0, b_lcmp, b_and, b_or, b_not, o_add, o_sub, o_mul, o_and, o_or, o_xor, o_shl, o_shr, o_neg, o_i2l, o_l2i, o_i2c, r_eq, r_ne, r_lt, r_ge, r_gt, r_le, r_eq0, r_ne0, r_lt0, r_ge0, r_gt0, r_le0, x_fld, x_int, x_ref, x_long, x_args, x_nar, xKd, xst1, xst2, xlg, Option.bind_some, Option.bind_none, Option.map_some, Option.map_none, List.getElem?_cons_zero, List.getElem?_cons_succ, List.set_cons_zero, List.set_cons_succ, List.length_cons, List.length_nil, List.length_map, List.length_range, List.length_set, decide_eq_true_eq, if_true, if_false, reduceIte, reduceCtorEq, Bool.not_true, Bool.not_false, Bool.false_eq_true, x_ix_nI, ax_get, ax_set, e_aald, s_aast, true_and, and_true, ite_true, ite_false, ↓bI_01, bI_eq0, bI_eq1, bool_or, tern_pure, and_pure, or_pure, bI_def, bne_t, ndf, decide_not, Bool.decide_eq_true, Bool.decide_and, Bool.decide_or, Nat.reduceEqDiff, Nat.reduceAdd, Nat.reduceMul, Nat.reduceSub, Nat.reduceLT, Nat.reduceLeDiff, or_false, false_or, or_true, true_or, and_false, false_and, Bool.or_eq_true, Bool.and_eq_true, Bool.or_false, Bool.or_true, Bool.true_or, Bool.false_or, Bool.and_true, Bool.and_false, Bool.true_and, Bool.false_and, decide_true, decide_false, not_true_eq_false, not_false_eq_true, a1]
    have s3 : (s_call m_X10_closeApart [(e_al 0)]) [some (.ref 106), some (.int (nI w)), some (.int (nI t)), some (.int (nI u)), none, none, none] h1 = some (none, [some (.ref 106), some (.int (nI w)), some (.int (nI t)), some (.int (nI u)), none, none, none], h2) := by simp only [x_out, s_seq, s_ite, s_ret, s_retZ, s_retV, s_iasg, s_aasg, s_lasg, s_inc, s_put, s_putop, s_ast, s_astop, s_exp, s_call, s_skip, s_brk, s_cont, s_oinit, e_lit, e_long, e_il, e_al, e_ll, e_bin, e_un, e_fld, e_ald, e_tern, e_call, e_alen, b_cmp, b_cmp0, b_lcmp, b_and, b_or, b_not, o_add, o_sub, o_mul, o_and, o_or, o_xor, o_shl, o_shr, o_neg, o_i2l, o_l2i, o_i2c, r_eq, r_ne, r_lt, r_ge, r_gt, r_le, r_eq0, r_ne0, r_lt0, r_ge0, r_gt0, r_le0, x_fld, x_int, x_ref, x_long, x_args, x_nar, xKd, xst1, xst2, xlg, Option.bind_some, Option.bind_none, Option.map_some, Option.map_none, List.getElem?_cons_zero, List.getElem?_cons_succ, List.set_cons_zero, List.set_cons_succ, List.length_cons, List.length_nil, List.length_map, List.length_range, List.length_set, decide_eq_true_eq, if_true, if_false, reduceIte, reduceCtorEq, Bool.not_true, Bool.not_false, Bool.false_eq_true, x_ix_nI, ax_get, ax_set, e_aald, s_aast, true_and, and_true, ite_true, ite_false, ↓bI_01, bI_eq0, bI_eq1, bool_or, tern_pure, and_pure, or_pure, bI_def, bne_t, ndf, decide_not, Bool.decide_eq_true, Bool.decide_and, Bool.decide_or, Nat.reduceEqDiff, Nat.reduceAdd, Nat.reduceMul, Nat.reduceSub, Nat.reduceLT, Nat.reduceLeDiff, or_false, false_or, or_true, true_or, and_false, false_and, Bool.or_eq_true, Bool.and_eq_true, Bool.or_false, Bool.or_true, Bool.true_or, Bool.false_or, Bool.and_true, Bool.and_false, Bool.true_and, Bool.false_and, decide_true, decide_false, not_true_eq_false, not_false_eq_true, a2]
    have s4 : (s_iasg 4 (e_ald 0 (e_fld 10 0 (e_al 0)) (e_bin o_add (e_lit 10) (e_il 1)))) [some (.ref 106), some (.int (nI w)), some (.int (nI t)), some (.int (nI u)), none, none, none] h2 = some (none, [some (.ref 106), some (.int (nI w)), some (.int (nI t)), some (.int (nI u)), some (.int (nI (tP (yS Y) w))), none, none], h2) := by
      obtain ⟨xf0, xf1, xf2, xf3, xf4, xf5, xf6, xf7, xf8, xf9, xf10, xf11, xf12, xf13, xf14, xf15, xf16, xf17, xf18, xf19, xf20, xf21, xf22, xf23, xf24, xf25, xf26, xf27⟩ := rfs h02
      simp (disch := omega) only [x_out, s_seq, s_ite, s_ret, s_retZ, s_retV, s_iasg, s_aasg, s_lasg, s_inc, s_put, s_putop, s_ast, s_astop, s_exp, s_call, s_skip, s_brk, s_cont, s_oinit, e_lit, e_long, e_il, e_al, e_ll, e_bin, e_un, e_fld, e_ald, e_tern, e_call, e_alen, b_cmp, b_cmp0, b_lcmp, b_and, b_or, b_not, o_add, o_sub, o_mul, o_and, o_or, o_xor, o_shl, o_shr, o_neg, o_i2l, o_l2i, o_i2c, r_eq, r_ne, r_lt, r_ge, r_gt, r_le, r_eq0, r_ne0, r_lt0, r_ge0, r_gt0, r_le0, x_int, x_ref, x_long, x_args, x_nar, xKd, xst1, xst2, xlg, Option.bind_some, Option.bind_none, Option.map_some, Option.map_none, List.getElem?_cons_zero, List.getElem?_cons_succ, List.set_cons_zero, List.set_cons_succ, List.length_cons, List.length_nil, List.length_map, List.length_range, List.length_set, decide_eq_true_eq, if_true, if_false, reduceIte, reduceCtorEq, Bool.not_true, Bool.not_false, Bool.false_eq_true, x_ix_nI, ax_get, ax_set, e_aald, s_aast, true_and, and_true, ite_true, ite_false, ↓bI_01, bI_eq0, bI_eq1, bool_or, tern_pure, and_pure, or_pure, bI_def, bne_t, ndf, decide_not, Bool.decide_eq_true, Bool.decide_and, Bool.decide_or, Nat.reduceEqDiff, Nat.reduceAdd, Nat.reduceMul, Nat.reduceSub, Nat.reduceLT, Nat.reduceLeDiff, or_false, false_or, or_true, true_or, and_false, false_and, Bool.or_eq_true, Bool.and_eq_true, Bool.or_false, Bool.or_true, Bool.true_or, Bool.false_or, Bool.and_true, Bool.and_false, Bool.true_and, Bool.false_and, decide_true, decide_false, not_true_eq_false, not_false_eq_true, xf0, xf1, xf2, xf3, xf4, xf5, xf6, xf7, xf8, xf9, xf10, xf11, xf12, xf13, xf14, xf15, xf16, xf17, xf18, xf19, xf20, xf21, xf22, xf23, xf24, xf25, xf26, xf27, l10, nI_add, rw, w1, hlt]
    have s5 : (s_iasg 5 (e_ald 0 (e_fld 10 26 (e_al 0)) (e_bin o_add (e_bin o_mul (e_lit 8) (e_il 4)) (e_il 2)))) [some (.ref 106), some (.int (nI w)), some (.int (nI t)), some (.int (nI u)), some (.int (nI (tP (yS Y) w))), none, none] h2 = some (none, [some (.ref 106), some (.int (nI w)), some (.int (nI t)), some (.int (nI u)), some (.int (nI (tP (yS Y) w))), some (.int (nI (dsM (yP Y) (yS Y) (tP (yS Y) w) t))), none], h2) := by
      obtain ⟨xf0, xf1, xf2, xf3, xf4, xf5, xf6, xf7, xf8, xf9, xf10, xf11, xf12, xf13, xf14, xf15, xf16, xf17, xf18, xf19, xf20, xf21, xf22, xf23, xf24, xf25, xf26, xf27⟩ := rfs h02
      simp (disch := omega) only [x_out, s_seq, s_ite, s_ret, s_retZ, s_retV, s_iasg, s_aasg, s_lasg, s_inc, s_put, s_putop, s_ast, s_astop, s_exp, s_call, s_skip, s_brk, s_cont, s_oinit, e_lit, e_long, e_il, e_al, e_ll, e_bin, e_un, e_fld, e_ald, e_tern, e_call, e_alen, b_cmp, b_cmp0, b_lcmp, b_and, b_or, b_not, o_add, o_sub, o_mul, o_and, o_or, o_xor, o_shl, o_shr, o_neg, o_i2l, o_l2i, o_i2c, r_eq, r_ne, r_lt, r_ge, r_gt, r_le, r_eq0, r_ne0, r_lt0, r_ge0, r_gt0, r_le0, x_int, x_ref, x_long, x_args, x_nar, xKd, xst1, xst2, xlg, Option.bind_some, Option.bind_none, Option.map_some, Option.map_none, List.getElem?_cons_zero, List.getElem?_cons_succ, List.set_cons_zero, List.set_cons_succ, List.length_cons, List.length_nil, List.length_map, List.length_range, List.length_set, decide_eq_true_eq, if_true, if_false, reduceIte, reduceCtorEq, Bool.not_true, Bool.not_false, Bool.false_eq_true, x_ix_nI, ax_get, ax_set, e_aald, s_aast, true_and, and_true, ite_true, ite_false, ↓bI_01, bI_eq0, bI_eq1, bool_or, tern_pure, and_pure, or_pure, bI_def, bne_t, ndf, decide_not, Bool.decide_eq_true, Bool.decide_and, Bool.decide_or, Nat.reduceEqDiff, Nat.reduceAdd, Nat.reduceMul, Nat.reduceSub, Nat.reduceLT, Nat.reduceLeDiff, or_false, false_or, or_true, true_or, and_false, false_and, Bool.or_eq_true, Bool.and_eq_true, Bool.or_false, Bool.or_true, Bool.true_or, Bool.false_or, Bool.and_true, Bool.and_false, Bool.true_and, Bool.false_and, decide_true, decide_false, not_true_eq_false, not_false_eq_true, xf0, xf1, xf2, xf3, xf4, xf5, xf6, xf7, xf8, xf9, xf10, xf11, xf12, xf13, xf14, xf15, xf16, xf17, xf18, xf19, xf20, xf21, xf22, xf23, xf24, xf25, xf26, xf27, l8, nI_m, nI_add, rg, v1, hl1]
    refine ⟨h2, ?_, H2, F2.mono fun b hb => by unfold rC; omega⟩
    refine xM_run (env := [some (.ref 106), some (.int (nI w)), some (.int (nI t)), some (.int (nI u)), none, none, none]) h0 rfl rfl (Nat.le_of_ble_eq_true rfl) rfl ?_ rfl
    unfold bd_X10_way
    rw [s_seq_n ((s_ite_f c1).trans (skip_n _ _)), s_seq_n s2, s_seq_n s3, s_seq_n s4, s_seq_n s5]
    have n20 : (nI (dsM (yP Y) (yS Y) (tP (yS Y) w) t) = 20) = (dsM (yP Y) (yS Y) (tP (yS Y) w) t = 20) := by rw [l20]; exact propext (nI_eq (by omega) (by omega))
    by_cases q20 : dsM (yP Y) (yS Y) (tP (yS Y) w) t = 20
    · simp (disch := omega) only [x_out, s_seq, s_ite, s_ret, s_retZ, s_retV, s_iasg, s_aasg, s_lasg, s_inc, s_put, s_putop, s_ast, s_astop, s_exp, s_call, s_skip, s_brk, s_cont, s_oinit, e_lit, e_long, e_il, e_al, e_ll, e_bin, e_un, e_fld, e_ald, e_tern, e_call, e_alen, b_cmp, b_cmp0, b_lcmp, b_and, b_or, b_not, o_add, o_sub, o_mul, o_and, o_or, o_xor, o_shl, o_shr, o_neg, o_i2l, o_l2i, o_i2c, r_eq, r_ne, r_lt, r_ge, r_gt, r_le, r_eq0, r_ne0, r_lt0, r_ge0, r_gt0, r_le0, x_fld, x_int, x_ref, x_long, x_args, x_nar, xKd, xst1, xst2, xlg, Option.bind_some, Option.bind_none, Option.map_some, Option.map_none, List.getElem?_cons_zero, List.getElem?_cons_succ, List.set_cons_zero, List.set_cons_succ, List.length_cons, List.length_nil, List.length_map, List.length_range, List.length_set, decide_eq_true_eq, if_true, if_false, reduceIte, reduceCtorEq, Bool.not_true, Bool.not_false, Bool.false_eq_true, x_ix_nI, ax_get, ax_set, e_aald, s_aast, true_and, and_true, ite_true, ite_false, ↓bI_01, bI_eq0, bI_eq1, bool_or, tern_pure, and_pure, or_pure, bI_def, bne_t, ndf, decide_not, Bool.decide_eq_true, Bool.decide_and, Bool.decide_or, Nat.reduceEqDiff, Nat.reduceAdd, Nat.reduceMul, Nat.reduceSub, Nat.reduceLT, Nat.reduceLeDiff, or_false, false_or, or_true, true_or, and_false, false_and, Bool.or_eq_true, Bool.and_eq_true, Bool.or_false, Bool.or_true, Bool.true_or, Bool.false_or, Bool.and_true, Bool.and_false, Bool.true_and, Bool.false_and, decide_true, decide_false, not_true_eq_false, not_false_eq_true, n20, q20]
      rfl
    · rw [if_neg q20]
      by_cases qu : u = 0
      · subst qu
        simp (disch := omega) only [x_out, s_seq, s_ite, s_ret, s_retZ, s_retV, s_iasg, s_aasg, s_lasg, s_inc, s_put, s_putop, s_ast, s_astop, s_exp, s_call, s_skip, s_brk, s_cont, s_oinit, e_lit, e_long, e_il, e_al, e_ll, e_bin, e_un, e_fld, e_ald, e_tern, e_call, e_alen, b_cmp, b_cmp0, b_lcmp, b_and, b_or, b_not, o_add, o_sub, o_mul, o_and, o_or, o_xor, o_shl, o_shr, o_neg, o_i2l, o_l2i, o_i2c, r_eq, r_ne, r_lt, r_ge, r_gt, r_le, r_eq0, r_ne0, r_lt0, r_ge0, r_gt0, r_le0, x_fld, x_int, x_ref, x_long, x_args, x_nar, xKd, xst1, xst2, xlg, Option.bind_some, Option.bind_none, Option.map_some, Option.map_none, List.getElem?_cons_zero, List.getElem?_cons_succ, List.set_cons_zero, List.set_cons_succ, List.length_cons, List.length_nil, List.length_map, List.length_range, List.length_set, decide_eq_true_eq, if_true, if_false, reduceIte, reduceCtorEq, Bool.not_true, Bool.not_false, Bool.false_eq_true, x_ix_nI, ax_get, ax_set, e_aald, s_aast, true_and, and_true, ite_true, ite_false, ↓bI_01, bI_eq0, bI_eq1, bool_or, tern_pure, and_pure, or_pure, bI_def, bne_t, ndf, decide_not, Bool.decide_eq_true, Bool.decide_and, Bool.decide_or, Nat.reduceEqDiff, Nat.reduceAdd, Nat.reduceMul, Nat.reduceSub, Nat.reduceLT, Nat.reduceLeDiff, or_false, false_or, or_true, true_or, and_false, false_and, Bool.or_eq_true, Bool.and_eq_true, Bool.or_false, Bool.or_true, Bool.true_or, Bool.false_or, Bool.and_true, Bool.and_false, Bool.true_and, Bool.false_and, decide_true, decide_false, not_true_eq_false, not_false_eq_true, n20, q20, nI_small]
      · rw [if_neg qu]
        have t6 : (s_ite (b_cmp r_eq (e_il 5) (e_lit 20)) (s_ret (e_lit (-4))) s_skip) [some (.ref 106), some (.int (nI w)), some (.int (nI t)), some (.int (nI u)), some (.int (nI (tP (yS Y) w))), some (.int (nI (dsM (yP Y) (yS Y) (tP (yS Y) w) t))), none] h2 = some (none, [some (.ref 106), some (.int (nI w)), some (.int (nI t)), some (.int (nI u)), some (.int (nI (tP (yS Y) w))), some (.int (nI (dsM (yP Y) (yS Y) (tP (yS Y) w) t))), none], h2) := by
          simp (disch := omega) only [x_out, s_seq, s_ite, s_ret, s_retZ, s_retV, s_iasg, s_aasg, s_lasg, s_inc, s_put, s_putop, s_ast, s_astop, s_exp, s_call, s_skip, s_brk, s_cont, s_oinit, e_lit, e_long, e_il, e_al, e_ll, e_bin, e_un, e_fld, e_ald, e_tern, e_call, e_alen, b_cmp, b_cmp0, b_lcmp, b_and, b_or, b_not, o_add, o_sub, o_mul, o_and, o_or, o_xor, o_shl, o_shr, o_neg, o_i2l, o_l2i, o_i2c, r_eq, r_ne, r_lt, r_ge, r_gt, r_le, r_eq0, r_ne0, r_lt0, r_ge0, r_gt0, r_le0, x_fld, x_int, x_ref, x_long, x_args, x_nar, xKd, xst1, xst2, xlg, Option.bind_some, Option.bind_none, Option.map_some, Option.map_none, List.getElem?_cons_zero, List.getElem?_cons_succ, List.set_cons_zero, List.set_cons_succ, List.length_cons, List.length_nil, List.length_map, List.length_range, List.length_set, decide_eq_true_eq, if_true, if_false, reduceIte, reduceCtorEq, Bool.not_true, Bool.not_false, Bool.false_eq_true, x_ix_nI, ax_get, ax_set, e_aald, s_aast, true_and, and_true, ite_true, ite_false, ↓bI_01, bI_eq0, bI_eq1, bool_or, tern_pure, and_pure, or_pure, bI_def, bne_t, ndf, decide_not, Bool.decide_eq_true, Bool.decide_and, Bool.decide_or, Nat.reduceEqDiff, Nat.reduceAdd, Nat.reduceMul, Nat.reduceSub, Nat.reduceLT, Nat.reduceLeDiff, or_false, false_or, or_true, true_or, and_false, false_and, Bool.or_eq_true, Bool.and_eq_true, Bool.or_false, Bool.or_true, Bool.true_or, Bool.false_or, Bool.and_true, Bool.and_false, Bool.true_and, Bool.false_and, decide_true, decide_false, not_true_eq_false, not_false_eq_true, n20, q20]
        have t7 : (s_ite (b_cmp0 r_eq0 (e_il 3)) (s_ret (e_il 5)) s_skip) [some (.ref 106), some (.int (nI w)), some (.int (nI t)), some (.int (nI u)), some (.int (nI (tP (yS Y) w))), some (.int (nI (dsM (yP Y) (yS Y) (tP (yS Y) w) t))), none] h2 = some (none, [some (.ref 106), some (.int (nI w)), some (.int (nI t)), some (.int (nI u)), some (.int (nI (tP (yS Y) w))), some (.int (nI (dsM (yP Y) (yS Y) (tP (yS Y) w) t))), none], h2) := by
          simp (disch := omega) only [x_out, s_seq, s_ite, s_ret, s_retZ, s_retV, s_iasg, s_aasg, s_lasg, s_inc, s_put, s_putop, s_ast, s_astop, s_exp, s_call, s_skip, s_brk, s_cont, s_oinit, e_lit, e_long, e_il, e_al, e_ll, e_bin, e_un, e_fld, e_ald, e_tern, e_call, e_alen, b_cmp, b_cmp0, b_lcmp, b_and, b_or, b_not, o_add, o_sub, o_mul, o_and, o_or, o_xor, o_shl, o_shr, o_neg, o_i2l, o_l2i, o_i2c, r_eq, r_ne, r_lt, r_ge, r_gt, r_le, r_eq0, r_ne0, r_lt0, r_ge0, r_gt0, r_le0, x_fld, x_int, x_ref, x_long, x_args, x_nar, xKd, xst1, xst2, xlg, Option.bind_some, Option.bind_none, Option.map_some, Option.map_none, List.getElem?_cons_zero, List.getElem?_cons_succ, List.set_cons_zero, List.set_cons_succ, List.length_cons, List.length_nil, List.length_map, List.length_range, List.length_set, decide_eq_true_eq, if_true, if_false, reduceIte, reduceCtorEq, Bool.not_true, Bool.not_false, Bool.false_eq_true, x_ix_nI, ax_get, ax_set, e_aald, s_aast, true_and, and_true, ite_true, ite_false, ↓bI_01, bI_eq0, bI_eq1, bool_or, tern_pure, and_pure, or_pure, bI_def, bne_t, ndf, decide_not, Bool.decide_eq_true, Bool.decide_and, Bool.decide_or, Nat.reduceEqDiff, Nat.reduceAdd, Nat.reduceMul, Nat.reduceSub, Nat.reduceLT, Nat.reduceLeDiff, or_false, false_or, or_true, true_or, and_false, false_and, Bool.or_eq_true, Bool.and_eq_true, Bool.or_false, Bool.or_true, Bool.true_or, Bool.false_or, Bool.and_true, Bool.and_false, Bool.true_and, Bool.false_and, decide_true, decide_false, not_true_eq_false, not_false_eq_true, nI_small, qu]
        rw [s_seq_n t6, s_seq_n t7, s_seq_n (show (s_iasg 6 (e_lit 0)) _ h2 = some (none, [some (.ref 106), some (.int (nI w)), some (.int (nI t)), some (.int (nI u)), some (.int (nI (tP (yS Y) w))), some (.int (nI (dsM (yP Y) (yS Y) (tP (yS Y) w) t))), some (.int (nI 0))], h2) from rfl)]
        have DB := dsM_B (P := yP Y) (S := yS Y)
        generalize dsM (yP Y) (yS Y) = M at gv B0 v1 n20 q20 DB ⊢
        generalize hp : tP (yS Y) w = p at tp v1 hl1 B0 n20 q20 ⊢
        by_cases qz : M p t = 0
        · have hl : s_loop 1000 lc_X10_way_1 la_X10_way_1 lu_X10_way_1 [some (.ref 106), some (.int (nI w)), some (.int (nI t)), some (.int (nI u)), some (.int (nI p)), some (.int (nI (M p t))), some (.int (nI 0))] h2 = some (none, [some (.ref 106), some (.int (nI w)), some (.int (nI t)), some (.int (nI u)), some (.int (nI p)), some (.int (nI (M p t))), some (.int (nI 0))], h2) := by
            rw [show (1000 : Nat) = 999 + 1 from rfl, s_loop_step, s_step_end (h0 := h2)]
            · rfl
            · obtain ⟨xf0, xf1, xf2, xf3, xf4, xf5, xf6, xf7, xf8, xf9, xf10, xf11, xf12, xf13, xf14, xf15, xf16, xf17, xf18, xf19, xf20, xf21, xf22, xf23, xf24, xf25, xf26, xf27⟩ := rfs h02
              by_cases q9 : 0 < pN (yP Y) <;> simp (disch := omega) only [lc_X10_way_1, x_out, s_seq, s_ite, s_ret, s_retZ, s_retV, s_iasg, s_aasg, s_lasg, s_inc, s_put, s_putop, s_ast, s_astop, s_exp, s_call, s_skip, s_brk, s_cont, s_oinit, e_lit, e_long, e_il, e_al, e_ll, e_bin, e_un, e_fld, e_ald, e_tern, e_call, e_alen, b_cmp, b_cmp0, b_lcmp, b_and, b_or, b_not, o_add, o_sub, o_mul, o_and, o_or, o_xor, o_shl, o_shr, o_neg, o_i2l, o_l2i, o_i2c, r_eq, r_ne, r_lt, r_ge, r_gt, r_le, r_eq0, r_ne0, r_lt0, r_ge0, r_gt0, r_le0, x_int, x_ref, x_long, x_args, x_nar, xKd, xst1, xst2, xlg, Option.bind_some, Option.bind_none, Option.map_some, Option.map_none, List.getElem?_cons_zero, List.getElem?_cons_succ, List.set_cons_zero, List.set_cons_succ, List.length_cons, List.length_nil, List.length_map, List.length_range, List.length_set, decide_eq_true_eq, if_true, if_false, reduceIte, reduceCtorEq, Bool.not_true, Bool.not_false, Bool.false_eq_true, x_ix_nI, ax_get, ax_set, e_aald, s_aast, true_and, and_true, ite_true, ite_false, ↓bI_01, bI_eq0, bI_eq1, bool_or, tern_pure, and_pure, or_pure, bI_def, bne_t, ndf, decide_not, Bool.decide_eq_true, Bool.decide_and, Bool.decide_or, Nat.reduceEqDiff, Nat.reduceAdd, Nat.reduceMul, Nat.reduceSub, Nat.reduceLT, Nat.reduceLeDiff, or_false, false_or, or_true, true_or, and_false, false_and, Bool.or_eq_true, Bool.and_eq_true, Bool.or_false, Bool.or_true, Bool.true_or, Bool.false_or, Bool.and_true, Bool.and_false, Bool.true_and, Bool.false_and, decide_true, decide_false, not_true_eq_false, not_false_eq_true, xf0, xf1, xf2, xf3, xf4, xf5, xf6, xf7, xf8, xf9, xf10, xf11, xf12, xf13, xf14, xf15, xf16, xf17, xf18, xf19, xf20, xf21, xf22, xf23, xf24, xf25, xf26, xf27, nI_ltI, nI_gt0, qz, q9, Nat.lt_irrefl]
          have hn : (List.range (pN (yP Y))).find? (pFst (yP Y) (yS Y) M p t) = none := by
            rw [List.find?_eq_none]
            intro s hs
            unfold pFst
            simp [qz]
          rw [s_seq_n hl, hn]
          rfl
        · have hgt : 0 < M p t := by omega
          have hl := s_loop_find (c := lc_X10_way_1) (a := la_X10_way_1) (u := lu_X10_way_1) (fun i => ([some (.ref 106), some (.int (nI w)), some (.int (nI t)), some (.int (nI u)), some (.int (nI p)), some (.int (nI (M p t))), some (.int (nI i))], h2)) (pFst (yP Y) (yS Y) M p t) (fun i => (some (.inr (some (.int (nI i)))), [some (.ref 106), some (.int (nI w)), some (.int (nI t)), some (.int (nI u)), some (.int (nI p)), some (.int (nI (M p t))), some (.int (nI i))], h2)) (none, [some (.ref 106), some (.int (nI w)), some (.int (nI t)), some (.int (nI u)), some (.int (nI p)), some (.int (nI (M p t))), some (.int (nI (pN (yP Y))))], h2) (pN (yP Y)) 1000 (by omega)
            (fun i hi hq => by
              have a1 := isAt_r V2 O hi (g := p) (by omega)
              have a2 := isBroken_r (r := 0) V2 O (by omega) W2.1 T hi
              rw [nI_0] at a2
              have so : sOp (yP Y) (yS Y) p i = (pAt (yP Y) i p && !sBr (yP Y) (yS Y) i) := rfl
              unfold pFst at hq
              rw [so] at hq
              obtain ⟨xf0, xf1, xf2, xf3, xf4, xf5, xf6, xf7, xf8, xf9, xf10, xf11, xf12, xf13, xf14, xf15, xf16, xf17, xf18, xf19, xf20, xf21, xf22, xf23, xf24, xf25, xf26, xf27⟩ := rfs h02
              cases y1 : pAt (yP Y) i p with
              | false =>
                rw [y1] at a1
                simp (disch := omega) only [lc_X10_way_1, la_X10_way_1, lu_X10_way_1, s_step, x_out, s_seq, s_ite, s_ret, s_retZ, s_retV, s_iasg, s_aasg, s_lasg, s_inc, s_put, s_putop, s_ast, s_astop, s_exp, s_call, s_skip, s_brk, s_cont, s_oinit, e_lit, e_long, e_il, e_al, e_ll, e_bin, e_un, e_fld, e_ald, e_tern, e_call, e_alen, b_cmp, b_cmp0, b_lcmp, b_and, b_or, b_not, o_add, o_sub, o_mul, o_and, o_or, o_xor, o_shl, o_shr, o_neg, o_i2l, o_l2i, o_i2c, r_eq, r_ne, r_lt, r_ge, r_gt, r_le, r_eq0, r_ne0, r_lt0, r_ge0, r_gt0, r_le0, x_int, x_ref, x_long, x_args, x_nar, xKd, xst1, xst2, xlg, Option.bind_some, Option.bind_none, Option.map_some, Option.map_none, List.getElem?_cons_zero, List.getElem?_cons_succ, List.set_cons_zero, List.set_cons_succ, List.length_cons, List.length_nil, List.length_map, List.length_range, List.length_set, decide_eq_true_eq, if_true, if_false, reduceIte, reduceCtorEq, Bool.not_true, Bool.not_false, Bool.false_eq_true, x_ix_nI, ax_get, ax_set, e_aald, s_aast, true_and, and_true, ite_true, ite_false, ↓bI_01, bI_eq0, bI_eq1, bool_or, tern_pure, and_pure, or_pure, bI_def, bne_t, ndf, decide_not, Bool.decide_eq_true, Bool.decide_and, Bool.decide_or, Nat.reduceEqDiff, Nat.reduceAdd, Nat.reduceMul, Nat.reduceSub, Nat.reduceLT, Nat.reduceLeDiff, or_false, false_or, or_true, true_or, and_false, false_and, Bool.or_eq_true, Bool.and_eq_true, Bool.or_false, Bool.or_true, Bool.true_or, Bool.false_or, Bool.and_true, Bool.and_false, Bool.true_and, Bool.false_and, decide_true, decide_false, not_true_eq_false, not_false_eq_true, xf0, xf1, xf2, xf3, xf4, xf5, xf6, xf7, xf8, xf9, xf10, xf11, xf12, xf13, xf14, xf15, xf16, xf17, xf18, xf19, xf20, xf21, xf22, xf23, xf24, xf25, xf26, xf27, nI_ltI, nI_gt0, nI_1, hi, hgt, a1]
              | true =>
                rw [y1] at a1 hq
                cases y2 : sBr (yP Y) (yS Y) i with
                | true =>
                  rw [y2] at a2
                  simp (disch := omega) only [lc_X10_way_1, la_X10_way_1, lu_X10_way_1, s_step, x_out, s_seq, s_ite, s_ret, s_retZ, s_retV, s_iasg, s_aasg, s_lasg, s_inc, s_put, s_putop, s_ast, s_astop, s_exp, s_call, s_skip, s_brk, s_cont, s_oinit, e_lit, e_long, e_il, e_al, e_ll, e_bin, e_un, e_fld, e_ald, e_tern, e_call, e_alen, b_cmp, b_cmp0, b_lcmp, b_and, b_or, b_not, o_add, o_sub, o_mul, o_and, o_or, o_xor, o_shl, o_shr, o_neg, o_i2l, o_l2i, o_i2c, r_eq, r_ne, r_lt, r_ge, r_gt, r_le, r_eq0, r_ne0, r_lt0, r_ge0, r_gt0, r_le0, x_int, x_ref, x_long, x_args, x_nar, xKd, xst1, xst2, xlg, Option.bind_some, Option.bind_none, Option.map_some, Option.map_none, List.getElem?_cons_zero, List.getElem?_cons_succ, List.set_cons_zero, List.set_cons_succ, List.length_cons, List.length_nil, List.length_map, List.length_range, List.length_set, decide_eq_true_eq, if_true, if_false, reduceIte, reduceCtorEq, Bool.not_true, Bool.not_false, Bool.false_eq_true, x_ix_nI, ax_get, ax_set, e_aald, s_aast, true_and, and_true, ite_true, ite_false, ↓bI_01, bI_eq0, bI_eq1, bool_or, tern_pure, and_pure, or_pure, bI_def, bne_t, ndf, decide_not, Bool.decide_eq_true, Bool.decide_and, Bool.decide_or, Nat.reduceEqDiff, Nat.reduceAdd, Nat.reduceMul, Nat.reduceSub, Nat.reduceLT, Nat.reduceLeDiff, or_false, false_or, or_true, true_or, and_false, false_and, Bool.or_eq_true, Bool.and_eq_true, Bool.or_false, Bool.or_true, Bool.true_or, Bool.false_or, Bool.and_true, Bool.and_false, Bool.true_and, Bool.false_and, decide_true, decide_false, not_true_eq_false, not_false_eq_true, xf0, xf1, xf2, xf3, xf4, xf5, xf6, xf7, xf8, xf9, xf10, xf11, xf12, xf13, xf14, xf15, xf16, xf17, xf18, xf19, xf20, xf21, xf22, xf23, xf24, xf25, xf26, xf27, nI_ltI, nI_gt0, nI_1, hi, hgt, a1, a2]
                | false =>
                  rw [y2] at a2 hq
                  have a3 := otherEnd_r V2 O hi (g := p) (by omega)
                  have xl := pX_lt O hi p
                  have a4 := gv (pX (yP Y) i p) t xl ht
                  have l6 : 8 * pX (yP Y) i p + t < 64 := by omega
                  have B1 := DB (pX (yP Y) i p) t
                  have e4 : (nI (M (pX (yP Y) i p) t) = nI (M p t) - 1) = False := by rw [eq_pred (by omega) (by omega)]; simpa using hq
                  simp (disch := omega) only [lc_X10_way_1, la_X10_way_1, lu_X10_way_1, s_step, x_out, s_seq, s_ite, s_ret, s_retZ, s_retV, s_iasg, s_aasg, s_lasg, s_inc, s_put, s_putop, s_ast, s_astop, s_exp, s_call, s_skip, s_brk, s_cont, s_oinit, e_lit, e_long, e_il, e_al, e_ll, e_bin, e_un, e_fld, e_ald, e_tern, e_call, e_alen, b_cmp, b_cmp0, b_lcmp, b_and, b_or, b_not, o_add, o_sub, o_mul, o_and, o_or, o_xor, o_shl, o_shr, o_neg, o_i2l, o_l2i, o_i2c, r_eq, r_ne, r_lt, r_ge, r_gt, r_le, r_eq0, r_ne0, r_lt0, r_ge0, r_gt0, r_le0, x_int, x_ref, x_long, x_args, x_nar, xKd, xst1, xst2, xlg, Option.bind_some, Option.bind_none, Option.map_some, Option.map_none, List.getElem?_cons_zero, List.getElem?_cons_succ, List.set_cons_zero, List.set_cons_succ, List.length_cons, List.length_nil, List.length_map, List.length_range, List.length_set, decide_eq_true_eq, if_true, if_false, reduceIte, reduceCtorEq, Bool.not_true, Bool.not_false, Bool.false_eq_true, x_ix_nI, ax_get, ax_set, e_aald, s_aast, true_and, and_true, ite_true, ite_false, ↓bI_01, bI_eq0, bI_eq1, bool_or, tern_pure, and_pure, or_pure, bI_def, bne_t, ndf, decide_not, Bool.decide_eq_true, Bool.decide_and, Bool.decide_or, Nat.reduceEqDiff, Nat.reduceAdd, Nat.reduceMul, Nat.reduceSub, Nat.reduceLT, Nat.reduceLeDiff, or_false, false_or, or_true, true_or, and_false, false_and, Bool.or_eq_true, Bool.and_eq_true, Bool.or_false, Bool.or_true, Bool.true_or, Bool.false_or, Bool.and_true, Bool.and_false, Bool.true_and, Bool.false_and, decide_true, decide_false, not_true_eq_false, not_false_eq_true, xf0, xf1, xf2, xf3, xf4, xf5, xf6, xf7, xf8, xf9, xf10, xf11, xf12, xf13, xf14, xf15, xf16, xf17, xf18, xf19, xf20, xf21, xf22, xf23, xf24, xf25, xf26, xf27, l8, nI_m, nI_add, nI_ltI, nI_gt0, nI_1, hi, hgt, a1, a2, a3, a4, rg, l6, e4])
            (fun i hi hq => by
              have a1 := isAt_r V2 O hi (g := p) (by omega)
              have a2 := isBroken_r (r := 0) V2 O (by omega) W2.1 T hi
              rw [nI_0] at a2
              have so : sOp (yP Y) (yS Y) p i = (pAt (yP Y) i p && !sBr (yP Y) (yS Y) i) := rfl
              unfold pFst at hq
              rw [so] at hq
              simp only [Bool.and_eq_true, Bool.not_eq_true', decide_eq_true_eq] at hq
              obtain ⟨⟨y1, y2⟩, y3⟩ := hq
              rw [y1] at a1
              rw [y2] at a2
              have a3 := otherEnd_r V2 O hi (g := p) (by omega)
              have xl := pX_lt O hi p
              have a4 := gv (pX (yP Y) i p) t xl ht
              have l6 : 8 * pX (yP Y) i p + t < 64 := by omega
              have B1 := DB (pX (yP Y) i p) t
              have e4 : (nI (M (pX (yP Y) i p) t) = nI (M p t) - 1) = True := by rw [eq_pred (by omega) (by omega)]; exact eq_true y3
              obtain ⟨xf0, xf1, xf2, xf3, xf4, xf5, xf6, xf7, xf8, xf9, xf10, xf11, xf12, xf13, xf14, xf15, xf16, xf17, xf18, xf19, xf20, xf21, xf22, xf23, xf24, xf25, xf26, xf27⟩ := rfs h02
              simp (disch := omega) only [lc_X10_way_1, la_X10_way_1, lu_X10_way_1, s_step, x_out, s_seq, s_ite, s_ret, s_retZ, s_retV, s_iasg, s_aasg, s_lasg, s_inc, s_put, s_putop, s_ast, s_astop, s_exp, s_call, s_skip, s_brk, s_cont, s_oinit, e_lit, e_long, e_il, e_al, e_ll, e_bin, e_un, e_fld, e_ald, e_tern, e_call, e_alen, b_cmp, b_cmp0, b_lcmp, b_and, b_or, b_not, o_add, o_sub, o_mul, o_and, o_or, o_xor, o_shl, o_shr, o_neg, o_i2l, o_l2i, o_i2c, r_eq, r_ne, r_lt, r_ge, r_gt, r_le, r_eq0, r_ne0, r_lt0, r_ge0, r_gt0, r_le0, x_int, x_ref, x_long, x_args, x_nar, xKd, xst1, xst2, xlg, Option.bind_some, Option.bind_none, Option.map_some, Option.map_none, List.getElem?_cons_zero, List.getElem?_cons_succ, List.set_cons_zero, List.set_cons_succ, List.length_cons, List.length_nil, List.length_map, List.length_range, List.length_set, decide_eq_true_eq, if_true, if_false, reduceIte, reduceCtorEq, Bool.not_true, Bool.not_false, Bool.false_eq_true, x_ix_nI, ax_get, ax_set, e_aald, s_aast, true_and, and_true, ite_true, ite_false, ↓bI_01, bI_eq0, bI_eq1, bool_or, tern_pure, and_pure, or_pure, bI_def, bne_t, ndf, decide_not, Bool.decide_eq_true, Bool.decide_and, Bool.decide_or, Nat.reduceEqDiff, Nat.reduceAdd, Nat.reduceMul, Nat.reduceSub, Nat.reduceLT, Nat.reduceLeDiff, or_false, false_or, or_true, true_or, and_false, false_and, Bool.or_eq_true, Bool.and_eq_true, Bool.or_false, Bool.or_true, Bool.true_or, Bool.false_or, Bool.and_true, Bool.and_false, Bool.true_and, Bool.false_and, decide_true, decide_false, not_true_eq_false, not_false_eq_true, xf0, xf1, xf2, xf3, xf4, xf5, xf6, xf7, xf8, xf9, xf10, xf11, xf12, xf13, xf14, xf15, xf16, xf17, xf18, xf19, xf20, xf21, xf22, xf23, xf24, xf25, xf26, xf27, l8, nI_m, nI_add, nI_ltI, nI_gt0, nI_1, hi, hgt, a1, a2, a3, a4, rg, l6, e4])
            (by
              obtain ⟨xf0, xf1, xf2, xf3, xf4, xf5, xf6, xf7, xf8, xf9, xf10, xf11, xf12, xf13, xf14, xf15, xf16, xf17, xf18, xf19, xf20, xf21, xf22, xf23, xf24, xf25, xf26, xf27⟩ := rfs h02
              simp (disch := omega) only [lc_X10_way_1, la_X10_way_1, lu_X10_way_1, s_step, x_out, s_seq, s_ite, s_ret, s_retZ, s_retV, s_iasg, s_aasg, s_lasg, s_inc, s_put, s_putop, s_ast, s_astop, s_exp, s_call, s_skip, s_brk, s_cont, s_oinit, e_lit, e_long, e_il, e_al, e_ll, e_bin, e_un, e_fld, e_ald, e_tern, e_call, e_alen, b_cmp, b_cmp0, b_lcmp, b_and, b_or, b_not, o_add, o_sub, o_mul, o_and, o_or, o_xor, o_shl, o_shr, o_neg, o_i2l, o_l2i, o_i2c, r_eq, r_ne, r_lt, r_ge, r_gt, r_le, r_eq0, r_ne0, r_lt0, r_ge0, r_gt0, r_le0, x_int, x_ref, x_long, x_args, x_nar, xKd, xst1, xst2, xlg, Option.bind_some, Option.bind_none, Option.map_some, Option.map_none, List.getElem?_cons_zero, List.getElem?_cons_succ, List.set_cons_zero, List.set_cons_succ, List.length_cons, List.length_nil, List.length_map, List.length_range, List.length_set, decide_eq_true_eq, if_true, if_false, reduceIte, reduceCtorEq, Bool.not_true, Bool.not_false, Bool.false_eq_true, x_ix_nI, ax_get, ax_set, e_aald, s_aast, true_and, and_true, ite_true, ite_false, ↓bI_01, bI_eq0, bI_eq1, bool_or, tern_pure, and_pure, or_pure, bI_def, bne_t, ndf, decide_not, Bool.decide_eq_true, Bool.decide_and, Bool.decide_or, Nat.reduceEqDiff, Nat.reduceAdd, Nat.reduceMul, Nat.reduceSub, Nat.reduceLT, Nat.reduceLeDiff, or_false, false_or, or_true, true_or, and_false, false_and, Bool.or_eq_true, Bool.and_eq_true, Bool.or_false, Bool.or_true, Bool.true_or, Bool.false_or, Bool.and_true, Bool.and_false, Bool.true_and, Bool.false_and, decide_true, decide_false, not_true_eq_false, not_false_eq_true, xf0, xf1, xf2, xf3, xf4, xf5, xf6, xf7, xf8, xf9, xf10, xf11, xf12, xf13, xf14, xf15, xf16, xf17, xf18, xf19, xf20, xf21, xf22, xf23, xf24, xf25, xf26, xf27, nI_ltI, Nat.lt_irrefl])
          cases hf2 : (List.range (pN (yP Y))).find? (pFst (yP Y) (yS Y) M p t) with
          | none =>
            rw [hf2] at hl
            rw [s_seq_n hl]
            rfl
          | some k =>
            rw [hf2] at hl
            rw [s_seq_r hl]
            rfl
end WM
/-! what closing makes: the greatest table below that keeps the triangles -/
def dz (F : Nat) (M : XMx) : Prop := ∀ a, a < F → M a a = 0
theorem itr_mono {α : Type} {f : Nat → α → α} {p : Nat → α → Prop} (hf : ∀ i x, p i x → p (i + 1) (f i x)) : ∀ (n : Nat) (x : α), p 0 x → p n (itr f n x) := by
  intro n
  induction n with
  | zero => intro x hx; exact hx
  | succ n ih => intro x hx; exact hf n _ (ih x hx)
theorem rowM_eq {F o a : Nat} {M : XMx} (hz : M o o = 0) (ho : o < F) (x y : Nat) : rowM F o a M x y = if x = a ∧ y < F then min (M a y) (M a o + M o y) else M x y := by
  have key : ∀ n, ∀ x y, itr (fun b M => stM o a b M) n M x y = if x = a ∧ y < n then min (M a y) (M a o + M o y) else M x y := by
    intro n
    induction n with
    | zero => intro x y; rw [if_neg (by omega)]; rfl
    | succ n ih =>
      intro x y
      show stM o a n (itr (fun b M => stM o a b M) n M) x y = _
      generalize itr (fun b M => stM o a b M) n M = N at ih ⊢
      unfold stM updM
      rw [ih a n, ih a o, ih o n, ih x y, if_neg (c := a = a ∧ n < n) (by omega)]
      have e1 : (if a = a ∧ o < n then min (M a o) (M a o + M o o) else M a o) = M a o := by
        split
        · rw [hz]; omega
        · rfl
      have e2 : (if o = a ∧ n < n then min (M a n) (M a o + M o n) else M o n) = M o n := if_neg (by omega)
      rw [e1, e2]
      by_cases q : x = a ∧ y = n
      · obtain ⟨rfl, rfl⟩ := q
        simp
      · rw [if_neg q]
        by_cases q2 : x = a ∧ y < n
        · rw [if_pos q2, if_pos (by omega)]
        · rw [if_neg q2, if_neg (by omega)]
  exact key F x y
theorem shM_eq {F o : Nat} {M : XMx} (hz : M o o = 0) (ho : o < F) {x y : Nat} (hx : x < F) (hy : y < F) : shM F o M x y = min (M x y) (M x o + M o y) := by
  have key : ∀ n, n ≤ F → (itr (fun a M => rowM F o a M) n M o o = 0 ∧ ∀ x y, itr (fun a M => rowM F o a M) n M x y = if x < n ∧ y < F then min (M x y) (M x o + M o y) else M x y) := by
    intro n
    induction n with
    | zero => intro _; exact ⟨hz, fun x y => by rw [if_neg (by omega)]; rfl⟩
    | succ n ih =>
      intro hn
      obtain ⟨i1, i2⟩ := ih (by omega)
      have st : ∀ x y, itr (fun a M => rowM F o a M) (n + 1) M x y = if x < n + 1 ∧ y < F then min (M x y) (M x o + M o y) else M x y := fun x y => by
        show rowM F o n (itr (fun a M => rowM F o a M) n M) x y = _
        rw [rowM_eq i1 ho, i2 n y, i2 n o, i2 o y, i2 x y, if_neg (c := n < n ∧ y < F) (by omega), if_neg (c := n < n ∧ o < F) (by omega)]
        have e2 : (if o < n ∧ y < F then min (M o y) (M o o + M o y) else M o y) = M o y := by
          split
          · rw [hz]; omega
          · rfl
        rw [e2]
        by_cases q : x = n ∧ y < F
        · obtain ⟨rfl, q⟩ := q
          rw [if_pos ⟨rfl, q⟩, if_pos (by omega)]
        · rw [if_neg q]
          by_cases q2 : x < n ∧ y < F
          · rw [if_pos q2, if_pos (by omega)]
          · rw [if_neg q2, if_neg (by omega)]
      refine ⟨?_, st⟩
      rw [st o o]
      split
      · rw [hz]; rfl
      · exact hz
  have := (key F (Nat.le_refl _)).2 x y
  rw [if_pos ⟨hx, hy⟩] at this
  exact this
theorem shM_dz {F o : Nat} {M : XMx} (hz : dz F M) (ho : o < F) : dz F (shM F o M) := fun a ha => by
  rw [shM_eq (hz o ho) ho ha ha, hz a ha]
  omega
def tri (F n : Nat) (M : XMx) : Prop := ∀ a b o, a < F → b < F → o < n → M a b ≤ M a o + M o b
theorem clM_all {F : Nat} {M : XMx} (hz : dz F M) : dz F (clM F M) ∧ tri F F (clM F M) ∧ ∀ a b, a < F → b < F → clM F M a b ≤ M a b := by
  have key : ∀ n, n ≤ F → (dz F (itr (fun o M => shM F o M) n M) ∧ tri F n (itr (fun o M => shM F o M) n M) ∧ ∀ a b, a < F → b < F → itr (fun o M => shM F o M) n M a b ≤ M a b) := by
    intro n
    induction n with
    | zero => intro _; exact ⟨hz, fun a b o _ _ ho => absurd ho (by omega), fun a b _ _ => Nat.le_refl _⟩
    | succ n ih =>
      intro hn
      obtain ⟨i1, i2, i3⟩ := ih (by omega)
      show dz F (shM F n (itr (fun o M => shM F o M) n M)) ∧ tri F (n + 1) (shM F n (itr (fun o M => shM F o M) n M)) ∧ ∀ a b, a < F → b < F → shM F n (itr (fun o M => shM F o M) n M) a b ≤ M a b
      generalize itr (fun o M => shM F o M) n M = N at i1 i2 i3 ⊢
      have hn' : n < F := by omega
      have nn := i1 n hn'
      refine ⟨shM_dz i1 hn', fun a b o ha hb ho => ?_, fun a b ha hb => ?_⟩
      · have hoF : o < F := by omega
        rw [shM_eq nn hn' ha hb, shM_eq nn hn' ha hoF, shM_eq nn hn' hoF hb]
        by_cases q : o = n
        · subst q
          rw [nn]
          omega
        · have ho : o < n := by omega
          have t1 := i2 a b o ha hb ho
          have t2 := i2 a n o ha hn' ho
          have t3 := i2 n b o hn' hb ho
          omega
      · rw [shM_eq nn hn' ha hb]
        have := i3 a b ha hb
        omega
  exact key F (Nat.le_refl _)
theorem clM_ge {F : Nat} {M N : XMx} (hz : dz F M) (hN : tri F F N) (h : ∀ a b, a < F → b < F → N a b ≤ M a b) : ∀ a b, a < F → b < F → N a b ≤ clM F M a b := by
  have key : ∀ n, n ≤ F → (dz F (itr (fun o M => shM F o M) n M) ∧ ∀ a b, a < F → b < F → N a b ≤ itr (fun o M => shM F o M) n M a b) := by
    intro n
    induction n with
    | zero => intro _; exact ⟨hz, h⟩
    | succ n ih =>
      intro hn
      obtain ⟨i1, i2⟩ := ih (by omega)
      have hn' : n < F := by omega
      refine ⟨shM_dz i1 hn', fun a b ha hb => ?_⟩
      show N a b ≤ shM F n (itr (fun o M => shM F o M) n M) a b
      rw [shM_eq (i1 n hn') hn' ha hb]
      have t1 := i2 a b ha hb
      have t2 := i2 a n ha hn'
      have t3 := i2 n b hn' hb
      have t4 := hN a b n ha hb hn'
      omega
  exact (key F (Nat.le_refl _)).2
theorem edM_dz {P : XP} {S : XT} (O : POK P) {F : Nat} : dz F (edM P S (pN P) idM) := by
  have key : ∀ n, n ≤ pN P → dz F (edM P S n idM) := by
    intro n
    induction n with
    | zero => intro _ a ha; simp [edM, itr, idM]
    | succ n ih =>
      intro hn
      have i1 := ih (by omega)
      have o := O.2.2.2.2.2.2.1 n (by omega)
      intro a ha
      show (if sBr P S n = true then edM P S n idM else updM (updM (edM P S n idM) (pA P n) (pZ P n) 1) (pZ P n) (pA P n) 1) a a = 0
      split
      · exact i1 a ha
      · unfold updM
        rw [if_neg (fun z => o.2.2.2 (z.2.symm.trans z.1)), if_neg (fun z => o.2.2.2 (z.1.symm.trans z.2))]
        exact i1 a ha
  exact key _ (Nat.le_refl _)
/-- one stile more -/
theorem cl_new {F : Nat} {E : XMx} (hz : dz F E) {c d : Nat} (hc : c < F) (hd : d < F) (hcd : c ≠ d) {x y : Nat} (hx : x < F) (hy : y < F) (h1 : ∀ a b, E a b ≠ 0 ∨ a = b) : clM F (updM (updM E c d 1) d c 1) x y = wiM (clM F E) c d x y := by
  have hz' : dz F (updM (updM E c d 1) d c 1) := fun a ha => by
    unfold updM
    rw [if_neg (by omega), if_neg (by omega)]
    exact hz a ha
  obtain ⟨D0, D1, D2⟩ := clM_all hz
  obtain ⟨N0, N1, N2⟩ := clM_all hz'
  have en : ∀ a b, a < F → b < F → updM (updM E c d 1) d c 1 a b ≤ E a b := fun a b ha hb => by
    unfold updM
    have := h1 a b
    split
    · rename_i q
      rcases this with h | h
      · omega
      · omega
    · split
      · rcases this with h | h
        · omega
        · omega
      · exact Nat.le_refl _
  have ed : updM (updM E c d 1) d c 1 d c = 1 := by unfold updM; rw [if_pos ⟨rfl, rfl⟩]
  have ec : updM (updM E c d 1) d c 1 c d = 1 := by unfold updM; rw [if_neg (by omega), if_pos ⟨rfl, rfl⟩]
  apply Nat.le_antisymm
  · -- not more
    have le : ∀ a b, a < F → b < F → clM F (updM (updM E c d 1) d c 1) a b ≤ clM F E a b := clM_ge hz N1 (fun a b ha hb => Nat.le_trans (N2 a b ha hb) (en a b ha hb))
    have n1 := N2 c d hc hd
    have n2 := N2 d c hd hc
    rw [ec] at n1
    rw [ed] at n2
    have a1 := N1 x y c hx hy hc
    have a2 := N1 c y d hc hy hd
    have a3 := N1 x y d hx hy hd
    have a4 := N1 d y c hd hy hc
    have b1 := le x y hx hy
    have b2 := le x c hx hc
    have b3 := le d y hd hy
    have b4 := le x d hx hd
    have b5 := le c y hc hy
    unfold wiM
    omega
  · -- not less
    refine clM_ge (N := wiM (clM F E) c d) hz' (fun a b o ha hb ho => ?_) (fun a b ha hb => ?_) x y hx hy
    · generalize hD : clM F E = D at D0 D1 D2
      have t1 := D1 a b o ha hb ho
      have t2 := D1 a c o ha hc ho
      have t3 := D1 a d o ha hd ho
      have t4 := D1 d b o hd hb ho
      have t5 := D1 c b o hc hb ho
      have t6 := D1 a b c ha hb hc
      have t7 := D1 a b d ha hb hd
      unfold wiM
      omega
    · have d1 := D2 a b ha hb
      have c0 := D0 c hc
      have d0 := D0 d hd
      unfold wiM updM
      split
      · rename_i q
        obtain ⟨rfl, rfl⟩ := q
        omega
      · split
        · rename_i q
          obtain ⟨rfl, rfl⟩ := q
          omega
        · omega
theorem edM_nz {P : XP} {S : XT} (n : Nat) : ∀ a b, edM P S n idM a b ≠ 0 ∨ a = b := by
  induction n with
  | zero =>
    intro a b
    by_cases q : a = b
    · exact Or.inr q
    · left
      simp [edM, itr, idM, q]
  | succ n ih =>
    intro a b
    show (if sBr P S n = true then edM P S n idM else updM (updM (edM P S n idM) (pA P n) (pZ P n) 1) (pZ P n) (pA P n) 1) a b ≠ 0 ∨ a = b
    split
    · exact ih a b
    · unfold updM
      split
      · left; omega
      · split
        · left; omega
        · exact ih a b
theorem alS_congr {G H : XMx} {F : Nat} (h : ∀ a b, a < F → b < F → G a b = H a b) : alS G F = alS H F := by
  have row : ∀ a, a < F → ∀ acc, rwS G F a acc = rwS H F a acc := fun a ha acc => by
    have key : ∀ n, n ≤ F - (a + 1) → itr (fun i acc => acc + G a (a + 1 + i)) n acc = itr (fun i acc => acc + H a (a + 1 + i)) n acc := by
      intro n
      induction n with
      | zero => intro _; rfl
      | succ n ih =>
        intro hn
        show itr (fun i acc => acc + G a (a + 1 + i)) n acc + G a (a + 1 + n) = itr (fun i acc => acc + H a (a + 1 + i)) n acc + H a (a + 1 + n)
        rw [ih (by omega), h a (a + 1 + n) ha (by omega)]
    exact key _ (Nat.le_refl _)
  have key : ∀ n, n ≤ F → itr (fun a acc => rwS G F a acc) n 0 = itr (fun a acc => rwS H F a acc) n 0 := by
    intro n
    induction n with
    | zero => intro _; rfl
    | succ n ih =>
      intro hn
      show rwS G F n (itr (fun a acc => rwS G F a acc) n 0) = rwS H F n (itr (fun a acc => rwS H F a acc) n 0)
      rw [ih (by omega), row n (by omega)]
  exact key F (Nat.le_refl _)
