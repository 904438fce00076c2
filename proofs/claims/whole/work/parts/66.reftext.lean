/-! the reference reads the text: its letters, a number -/
def pZ0 (q k : Nat) (P : XP) (sn tx pl nm : Nat) (T : XP) (ot : Bool) : XC := .inl (10, [.ref 107, .int (nI q), .int (nI k), .int (nI (pF P)), .int (nI (pN P)), .ref 108, .ref 109, .ref 110, .int (nI (pM P)), .ref 111, .ref 112, .int (nI (pB P)), .int (nI sn), .ref 113, .ref 114, .ref 115, .int (nI tx), .int (nI pl), .int (nI nm), .int (nI (pF T)), .int (nI (pN T)), .ref 116, .int (nI (pM T)), .ref 117, .int (nI (pB T)), .int (bI ot), .ref 118, .ref 119])
/-- what is read so far -/
def RPa (h : XH) (q k : Nat) (P : XP) (sn : Nat) (l : List Nat) (pl nm : Nat) (T : XP) (ot : Bool) : Prop := h[106]? = some (pZ0 q k P sn l.length pl nm T ot) ∧ (∃ f, h[116]? = some (arr 27 f) ∧ ∀ s, s < pN T → f (3 * s) = nI (pK T s) ∧ f (3 * s + 1) = nI (pA T s) ∧ f (3 * s + 2) = nI (pZ T s)) ∧ (∃ f, h[117]? = some (arr 12 f) ∧ ∀ w, w < pM T → f (3 * w) = nI (wK T w) ∧ f (3 * w + 1) = nI (wP T w) ∧ f (3 * w + 2) = nI (wG T w)) ∧ RT h l
def lA (l : List Nat) (p : Nat) : Int32 := if p < l.length then nI (lt l p) else -1
section RN
variable {h : XH} {q k sn pl nm : Nat} {P T : XP} {l : List Nat} {ot : Bool}
/-- place, number, the mark anew -/
theorem RPa.put (H : RPa h q k P sn l pl nm T ot) (pl' nm' : Nat) (ot' : Bool) : ∃ h', h' = h.set 106 (pZ0 q k P sn l.length pl' nm' T ot') ∧ RPa h' q k P sn l pl' nm' T ot' ∧ xFr (fun b => b = 106) h h' := by
  obtain ⟨h0, ⟨f1, p1, v1⟩, ⟨f2, p2, v2⟩, t⟩ := H
  have F := xFr.set h0 (c' := pZ0 q k P sn l.length pl' nm' T ot') (by rfl)
  exact ⟨_, rfl, ⟨set_at h0, ⟨f1, (F.2.2 116 (by omega)).trans p1, v1⟩, ⟨f2, (F.2.2 117 (by omega)).trans p2, v2⟩, t.same (F.2.2 115 (by omega))⟩, F⟩
theorem letterAt_r (H : RPa h q k P sn l pl nm T ot) (hl : l.length ≤ 200) {p : Nat} (hp : p ≤ 1000) : m_X10_letterAt [.ref 106, .int (nI p)] h = some (some (.int (lA l p)), h) := by
  obtain ⟨h0, -, -, f, t1, t2⟩ := H
  have h0 : h[106]? = some (.inl (10, _)) := h0
  have rt := ax_row t1
  unfold lA
  refine xM_run (env := [some (.ref 106), some (.int (nI p))]) h0 rfl rfl (Nat.le_of_ble_eq_true rfl) rfl ?_ rfl
  obtain ⟨xf0, xf1, xf2, xf3, xf4, xf5, xf6, xf7, xf8, xf9, xf10, xf11, xf12, xf13, xf14, xf15, xf16, xf17, xf18, xf19, xf20, xf21, xf22, xf23, xf24, xf25, xf26, xf27⟩ := rfs h0
  by_cases y : p < l.length
  · have e := t2 p y
    have hp2 : p < 200 := by omega
    rw [if_pos y]
    simp (disch := omega) only [bd_X10_letterAt, x_out, s_seq, s_ite, s_ret, s_retZ, s_retV, s_iasg, s_aasg, s_lasg, s_inc, s_put, s_putop, s_ast, s_astop, s_exp, s_call, s_skip, s_brk, s_cont, s_oinit, e_lit, e_long, e_il, e_al, e_ll, e_bin, e_un, e_fld, e_ald, e_tern, e_call, e_alen, b_cmp, b_cmp0, b_lcmp, b_and, b_or, b_not, o_add, o_sub, o_mul, o_and, o_or, o_xor, o_shl, o_shr, o_neg, o_i2l, o_l2i, o_i2c, r_eq, r_ne, r_lt, r_ge, r_gt, r_le, r_eq0, r_ne0, r_lt0, r_ge0, r_gt0, r_le0, x_int, x_ref, x_long, x_args, x_nar, xKd, xst1, xst2, xlg, Option.bind_some, Option.bind_none, Option.map_some, Option.map_none, List.getElem?_cons_zero, List.getElem?_cons_succ, List.set_cons_zero, List.set_cons_succ, List.length_cons, List.length_nil, List.length_map, List.length_range, List.length_set, decide_eq_true_eq, if_true, if_false, reduceIte, reduceCtorEq, Bool.not_true, Bool.not_false, Bool.false_eq_true, x_ix_nI, ax_get, ax_set, e_aald, s_aast, true_and, and_true, ite_true, ite_false, ↓bI_01, bI_eq0, bI_eq1, bool_or, tern_pure, and_pure, or_pure, bI_def, bne_t, ndf, decide_not, Bool.decide_eq_true, Bool.decide_and, Bool.decide_or, Nat.reduceEqDiff, Nat.reduceAdd, Nat.reduceMul, Nat.reduceSub, Nat.reduceLT, Nat.reduceLeDiff, or_false, false_or, or_true, true_or, and_false, false_and, Bool.or_eq_true, Bool.and_eq_true, Bool.or_false, Bool.or_true, Bool.true_or, Bool.false_or, Bool.and_true, Bool.and_false, Bool.true_and, Bool.false_and, decide_true, decide_false, not_true_eq_false, not_false_eq_true, xf0, xf1, xf2, xf3, xf4, xf5, xf6, xf7, xf8, xf9, xf10, xf11, xf12, xf13, xf14, xf15, xf16, xf17, xf18, xf19, xf20, xf21, xf22, xf23, xf24, xf25, xf26, xf27, nI_ltI, y, rt, hp2, e]
    rfl
  · rw [if_neg y]
    simp (disch := omega) only [bd_X10_letterAt, x_out, s_seq, s_ite, s_ret, s_retZ, s_retV, s_iasg, s_aasg, s_lasg, s_inc, s_put, s_putop, s_ast, s_astop, s_exp, s_call, s_skip, s_brk, s_cont, s_oinit, e_lit, e_long, e_il, e_al, e_ll, e_bin, e_un, e_fld, e_ald, e_tern, e_call, e_alen, b_cmp, b_cmp0, b_lcmp, b_and, b_or, b_not, o_add, o_sub, o_mul, o_and, o_or, o_xor, o_shl, o_shr, o_neg, o_i2l, o_l2i, o_i2c, r_eq, r_ne, r_lt, r_ge, r_gt, r_le, r_eq0, r_ne0, r_lt0, r_ge0, r_gt0, r_le0, x_int, x_ref, x_long, x_args, x_nar, xKd, xst1, xst2, xlg, Option.bind_some, Option.bind_none, Option.map_some, Option.map_none, List.getElem?_cons_zero, List.getElem?_cons_succ, List.set_cons_zero, List.set_cons_succ, List.length_cons, List.length_nil, List.length_map, List.length_range, List.length_set, decide_eq_true_eq, if_true, if_false, reduceIte, reduceCtorEq, Bool.not_true, Bool.not_false, Bool.false_eq_true, x_ix_nI, ax_get, ax_set, e_aald, s_aast, true_and, and_true, ite_true, ite_false, ↓bI_01, bI_eq0, bI_eq1, bool_or, tern_pure, and_pure, or_pure, bI_def, bne_t, ndf, decide_not, Bool.decide_eq_true, Bool.decide_and, Bool.decide_or, Nat.reduceEqDiff, Nat.reduceAdd, Nat.reduceMul, Nat.reduceSub, Nat.reduceLT, Nat.reduceLeDiff, or_false, false_or, or_true, true_or, and_false, false_and, Bool.or_eq_true, Bool.and_eq_true, Bool.or_false, Bool.or_true, Bool.true_or, Bool.false_or, Bool.and_true, Bool.and_false, Bool.true_and, Bool.false_and, decide_true, decide_false, not_true_eq_false, not_false_eq_true, xf0, xf1, xf2, xf3, xf4, xf5, xf6, xf7, xf8, xf9, xf10, xf11, xf12, xf13, xf14, xf15, xf16, xf17, xf18, xf19, xf20, xf21, xf22, xf23, xf24, xf25, xf26, xf27, nI_ltI, y]
theorem lA_dg {l : List Nat} (ha : ∀ x, x ∈ l → 32 ≤ x ∧ x ≤ 126) (p : Nat) : (decide ((48 : Int32) ≤ lA l p) && decide (lA l p ≤ 57)) = dg (lt l p) := by
  have hle := lt_le ha p
  unfold lA
  by_cases y : p < l.length
  · rw [if_pos y]
    unfold dg
    have e1 : ((48 : Int32) ≤ nI (lt l p)) = (48 ≤ lt l p) := propext (nI_leI (a := 48) (by omega) (by omega))
    have e2 : (nI (lt l p) ≤ (57 : Int32)) = (lt l p ≤ 57) := propext (nI_leI (b := 57) (by omega) (by omega))
    simp only [e1, e2]
  · rw [if_neg y, lt_out (by omega)]
    decide
theorem lA_eq {l : List Nat} (ha : ∀ x, x ∈ l → 32 ≤ x ∧ x ≤ 126) (p : Nat) {sg : Nat} (h0 : 0 < sg) (h1 : sg ≤ 126) : (lA l p = nI sg) = (lt l p = sg) := by
  have hle := lt_le ha p
  unfold lA
  by_cases y : p < l.length
  · rw [if_pos y]
    exact propext (nI_eq (by omega) (by omega))
  · rw [if_neg y, lt_out (by omega)]
    have key : ∀ n : Nat, n < 127 → ¬ (-1 : Int32) = nI n := by decide +kernel
    apply propext
    exact ⟨fun z => absurd z (key sg (by omega)), fun z => by omega⟩
/-- the loop's test: a figure, and fewer than two so far -/
theorem tn_test (H : RPa h q k P sn l pl nm T ot) (hl : l.length ≤ 200) (ha : ∀ x, x ∈ l → 32 ≤ x ∧ x ≤ 126) {st : Nat} (h1 : st ≤ pl) (h2 : pl ≤ 1000) (a b c : Option Value) : lc_X10_takesNumber_1 [some (.ref 106), a, b, c, some (.int (nI st))] h = some (decide (pl - st < 2) && dg (lt l pl), h) := by
  have e1 := letterAt_r H hl h2
  have e2 := in_x h (lA l pl) 48 57
  rw [lA_dg ha] at e2
  have e2 : m_X10_in [.long (lA l pl).toInt64, .long 48, .long 57] h = some (some (.int (bI (dg (lt l pl)))), h) := e2
  obtain ⟨h0, -⟩ := H
  have h0 : h[106]? = some (.inl (10, _)) := h0
  have sb : nI pl - nI st = nI (pl - st) := pk_sub h1
  obtain ⟨xf0, xf1, xf2, xf3, xf4, xf5, xf6, xf7, xf8, xf9, xf10, xf11, xf12, xf13, xf14, xf15, xf16, xf17, xf18, xf19, xf20, xf21, xf22, xf23, xf24, xf25, xf26, xf27⟩ := rfs h0
  exact b_and_p (by simp (disch := omega) only [x_out, s_seq, s_ite, s_ret, s_retZ, s_retV, s_iasg, s_aasg, s_lasg, s_inc, s_put, s_putop, s_ast, s_astop, s_exp, s_call, s_skip, s_brk, s_cont, s_oinit, e_lit, e_long, e_il, e_al, e_ll, e_bin, e_un, e_fld, e_ald, e_tern, e_call, e_alen, b_cmp, b_cmp0, b_lcmp, b_and, b_or, b_not, o_add, o_sub, o_mul, o_and, o_or, o_xor, o_shl, o_shr, o_neg, o_i2l, o_l2i, o_i2c, r_eq, r_ne, r_lt, r_ge, r_gt, r_le, r_eq0, r_ne0, r_lt0, r_ge0, r_gt0, r_le0, x_int, x_ref, x_long, x_args, x_nar, xKd, xst1, xst2, xlg, Option.bind_some, Option.bind_none, Option.map_some, Option.map_none, List.getElem?_cons_zero, List.getElem?_cons_succ, List.set_cons_zero, List.set_cons_succ, List.length_cons, List.length_nil, List.length_map, List.length_range, List.length_set, decide_eq_true_eq, if_true, if_false, reduceIte, reduceCtorEq, Bool.not_true, Bool.not_false, Bool.false_eq_true, x_ix_nI, ax_get, ax_set, e_aald, s_aast, true_and, and_true, ite_true, ite_false, ↓bI_01, bI_eq0, bI_eq1, bool_or, tern_pure, and_pure, or_pure, bI_def, bne_t, ndf, decide_not, Bool.decide_eq_true, Bool.decide_and, Bool.decide_or, Nat.reduceEqDiff, Nat.reduceAdd, Nat.reduceMul, Nat.reduceSub, Nat.reduceLT, Nat.reduceLeDiff, or_false, false_or, or_true, true_or, and_false, false_and, Bool.or_eq_true, Bool.and_eq_true, Bool.or_false, Bool.or_true, Bool.true_or, Bool.false_or, Bool.and_true, Bool.and_false, Bool.true_and, Bool.false_and, decide_true, decide_false, not_true_eq_false, not_false_eq_true, xf0, xf1, xf2, xf3, xf4, xf5, xf6, xf7, xf8, xf9, xf10, xf11, xf12, xf13, xf14, xf15, xf16, xf17, xf18, xf19, xf20, xf21, xf22, xf23, xf24, xf25, xf26, xf27, sb, l2, nI_ltI]) (fun _ => by simp only [x_out, s_seq, s_ite, s_ret, s_retZ, s_retV, s_iasg, s_aasg, s_lasg, s_inc, s_put, s_putop, s_ast, s_astop, s_exp, s_call, s_skip, s_brk, s_cont, s_oinit, e_lit, e_long, e_il, e_al, e_ll, e_bin, e_un, e_fld, e_ald, e_tern, e_call, e_alen, b_cmp, b_cmp0, b_lcmp, b_and, b_or, b_not, o_add, o_sub, o_mul, o_and, o_or, o_xor, o_shl, o_shr, o_neg, o_i2l, o_l2i, o_i2c, r_eq, r_ne, r_lt, r_ge, r_gt, r_le, r_eq0, r_ne0, r_lt0, r_ge0, r_gt0, r_le0, x_int, x_ref, x_long, x_args, x_nar, xKd, xst1, xst2, xlg, Option.bind_some, Option.bind_none, Option.map_some, Option.map_none, List.getElem?_cons_zero, List.getElem?_cons_succ, List.set_cons_zero, List.set_cons_succ, List.length_cons, List.length_nil, List.length_map, List.length_range, List.length_set, decide_eq_true_eq, if_true, if_false, reduceIte, reduceCtorEq, Bool.not_true, Bool.not_false, Bool.false_eq_true, x_ix_nI, ax_get, ax_set, e_aald, s_aast, true_and, and_true, ite_true, ite_false, ↓bI_01, bI_eq0, bI_eq1, bool_or, tern_pure, and_pure, or_pure, bI_def, bne_t, ndf, decide_not, Bool.decide_eq_true, Bool.decide_and, Bool.decide_or, Nat.reduceEqDiff, Nat.reduceAdd, Nat.reduceMul, Nat.reduceSub, Nat.reduceLT, Nat.reduceLeDiff, or_false, false_or, or_true, true_or, and_false, false_and, Bool.or_eq_true, Bool.and_eq_true, Bool.or_false, Bool.or_true, Bool.true_or, Bool.false_or, Bool.and_true, Bool.and_false, Bool.true_and, Bool.false_and, decide_true, decide_false, not_true_eq_false, not_false_eq_true, xf0, xf1, xf2, xf3, xf4, xf5, xf6, xf7, xf8, xf9, xf10, xf11, xf12, xf13, xf14, xf15, xf16, xf17, xf18, xf19, xf20, xf21, xf22, xf23, xf24, xf25, xf26, xf27, e1, e2])
theorem tn_step (H : RPa h q k P sn l pl nm T ot) (hl : l.length ≤ 200) (ha : ∀ x, x ∈ l → 32 ≤ x ∧ x ≤ 126) {st : Nat} (h1 : st ≤ pl) (h2 : pl ≤ 1000) (h3 : pl - st < 2) (hd : dg (lt l pl) = true) (a b c : Option Value) : ∃ h', RPa h' q k P sn l (pl + 1) (10 * nm + (lt l pl - 48)) T ot ∧ xFr (fun b => b = 106) h h' ∧ s_step lc_X10_takesNumber_1 la_X10_takesNumber_1 lu_X10_takesNumber_1 [some (.ref 106), a, b, c, some (.int (nI st))] h = some (.inr ([some (.ref 106), a, b, c, some (.int (nI st))], h')) := by
  have c0 := tn_test H hl ha h1 h2 a b c
  rw [decide_eq_true h3, hd] at c0
  have hd2 := dg_iff.mp hd
  have hp : pl < l.length := lt_in (by omega)
  have e1 := letterAt_r H hl h2
  have la : lA l pl = nI (lt l pl) := by unfold lA; rw [if_pos hp]
  rw [la] at e1
  obtain ⟨h1', d1, H1, F1⟩ := H.put pl (10 * nm + (lt l pl - 48)) ot
  obtain ⟨h2', d2, H2, F2⟩ := H1.put (pl + 1) (10 * nm + (lt l pl - 48)) ot
  have ev : (10 : Int32) * nI nm + nI (lt l pl) - 48 = nI (10 * nm + (lt l pl - 48)) := by
    rw [show (10 : Int32) = nI 10 from rfl, show (48 : Int32) = nI 48 from rfl, nI_m, nI_add, pk_sub (by omega)]
    congr 1
    omega
  have s1 : (s_put 10 18 0 (e_al 0) (e_bin o_sub (e_bin o_add (e_bin o_mul (e_lit 10) (e_fld 10 18 (e_al 0))) (e_call m_X10_letterAt [(e_al 0), (e_fld 10 17 (e_al 0))])) (e_lit 48))) [some (.ref 106), a, b, c, some (.int (nI st))] h = some (none, [some (.ref 106), a, b, c, some (.int (nI st))], h1') := by
    have h0 : h[106]? = some (.inl (10, _)) := H.1
    obtain ⟨xf0, xf1, xf2, xf3, xf4, xf5, xf6, xf7, xf8, xf9, xf10, xf11, xf12, xf13, xf14, xf15, xf16, xf17, xf18, xf19, xf20, xf21, xf22, xf23, xf24, xf25, xf26, xf27⟩ := rfs h0
    rw [d1]
    simp (disch := omega) only [x_out, s_seq, s_ite, s_ret, s_retZ, s_retV, s_iasg, s_aasg, s_lasg, s_inc, s_put, s_putop, s_ast, s_astop, s_exp, s_call, s_skip, s_brk, s_cont, s_oinit, e_lit, e_long, e_il, e_al, e_ll, e_bin, e_un, e_fld, e_ald, e_tern, e_call, e_alen, b_cmp, b_cmp0, b_lcmp, b_and, b_or, b_not, o_add, o_sub, o_mul, o_and, o_or, o_xor, o_shl, o_shr, o_neg, o_i2l, o_l2i, o_i2c, r_eq, r_ne, r_lt, r_ge, r_gt, r_le, r_eq0, r_ne0, r_lt0, r_ge0, r_gt0, r_le0, x_int, x_ref, x_long, x_args, x_nar, xKd, xst1, xst2, xlg, Option.bind_some, Option.bind_none, Option.map_some, Option.map_none, List.getElem?_cons_zero, List.getElem?_cons_succ, List.set_cons_zero, List.set_cons_succ, List.length_cons, List.length_nil, List.length_map, List.length_range, List.length_set, decide_eq_true_eq, if_true, if_false, reduceIte, reduceCtorEq, Bool.not_true, Bool.not_false, Bool.false_eq_true, x_ix_nI, ax_get, ax_set, e_aald, s_aast, true_and, and_true, ite_true, ite_false, ↓bI_01, bI_eq0, bI_eq1, bool_or, tern_pure, and_pure, or_pure, bI_def, bne_t, ndf, decide_not, Bool.decide_eq_true, Bool.decide_and, Bool.decide_or, Nat.reduceEqDiff, Nat.reduceAdd, Nat.reduceMul, Nat.reduceSub, Nat.reduceLT, Nat.reduceLeDiff, or_false, false_or, or_true, true_or, and_false, false_and, Bool.or_eq_true, Bool.and_eq_true, Bool.or_false, Bool.or_true, Bool.true_or, Bool.false_or, Bool.and_true, Bool.and_false, Bool.true_and, Bool.false_and, decide_true, decide_false, not_true_eq_false, not_false_eq_true, xf0, xf1, xf2, xf3, xf4, xf5, xf6, xf7, xf8, xf9, xf10, xf11, xf12, xf13, xf14, xf15, xf16, xf17, xf18, xf19, xf20, xf21, xf22, xf23, xf24, xf25, xf26, xf27, h0, e1, ev]
    rfl
  have s2 : (s_putop 10 17 o_add (e_al 0) (e_lit 1)) [some (.ref 106), a, b, c, some (.int (nI st))] h1' = some (none, [some (.ref 106), a, b, c, some (.int (nI st))], h2') := by
    have h0 : h1'[106]? = some (.inl (10, _)) := H1.1
    obtain ⟨xf0, xf1, xf2, xf3, xf4, xf5, xf6, xf7, xf8, xf9, xf10, xf11, xf12, xf13, xf14, xf15, xf16, xf17, xf18, xf19, xf20, xf21, xf22, xf23, xf24, xf25, xf26, xf27⟩ := rfs h0
    rw [d2]
    simp (disch := omega) only [x_out, s_seq, s_ite, s_ret, s_retZ, s_retV, s_iasg, s_aasg, s_lasg, s_inc, s_put, s_putop, s_ast, s_astop, s_exp, s_call, s_skip, s_brk, s_cont, s_oinit, e_lit, e_long, e_il, e_al, e_ll, e_bin, e_un, e_fld, e_ald, e_tern, e_call, e_alen, b_cmp, b_cmp0, b_lcmp, b_and, b_or, b_not, o_add, o_sub, o_mul, o_and, o_or, o_xor, o_shl, o_shr, o_neg, o_i2l, o_l2i, o_i2c, r_eq, r_ne, r_lt, r_ge, r_gt, r_le, r_eq0, r_ne0, r_lt0, r_ge0, r_gt0, r_le0, x_int, x_ref, x_long, x_args, x_nar, xKd, xst1, xst2, xlg, Option.bind_some, Option.bind_none, Option.map_some, Option.map_none, List.getElem?_cons_zero, List.getElem?_cons_succ, List.set_cons_zero, List.set_cons_succ, List.length_cons, List.length_nil, List.length_map, List.length_range, List.length_set, decide_eq_true_eq, if_true, if_false, reduceIte, reduceCtorEq, Bool.not_true, Bool.not_false, Bool.false_eq_true, x_ix_nI, ax_get, ax_set, e_aald, s_aast, true_and, and_true, ite_true, ite_false, ↓bI_01, bI_eq0, bI_eq1, bool_or, tern_pure, and_pure, or_pure, bI_def, bne_t, ndf, decide_not, Bool.decide_eq_true, Bool.decide_and, Bool.decide_or, Nat.reduceEqDiff, Nat.reduceAdd, Nat.reduceMul, Nat.reduceSub, Nat.reduceLT, Nat.reduceLeDiff, or_false, false_or, or_true, true_or, and_false, false_and, Bool.or_eq_true, Bool.and_eq_true, Bool.or_false, Bool.or_true, Bool.true_or, Bool.false_or, Bool.and_true, Bool.and_false, Bool.true_and, Bool.false_and, decide_true, decide_false, not_true_eq_false, not_false_eq_true, xf0, xf1, xf2, xf3, xf4, xf5, xf6, xf7, xf8, xf9, xf10, xf11, xf12, xf13, xf14, xf15, xf16, xf17, xf18, xf19, xf20, xf21, xf22, xf23, xf24, xf25, xf26, xf27, h0, nI_1]
    rfl
  exact ⟨h2', H2, (F1.trans F2).mono fun b hb => hb.elim id id, s_step_on c0 ((s_seq_n s1).trans s2) rfl⟩
theorem tn_loop (H : RPa h q k P sn l pl 0 T ot) (hl : l.length ≤ 200) (ha : ∀ x, x ∈ l → 32 ≤ x ∧ x ≤ 126) (h2 : pl ≤ 900) (a b c : Option Value) : ∃ h', RPa h' q k P sn l (pl + nD l pl) (nV l pl) T ot ∧ xFr (fun b => b = 106) h h' ∧ lpR 2 lc_X10_takesNumber_1 la_X10_takesNumber_1 lu_X10_takesNumber_1 [some (.ref 106), a, b, c, some (.int (nI pl))] h (none, [some (.ref 106), a, b, c, some (.int (nI pl))], h') := by
  by_cases d1 : dg (lt l pl) = true
  · obtain ⟨h1', H1, F1, s1⟩ := tn_step H hl ha (st := pl) (Nat.le_refl _) (by omega) (by omega) d1 a b c
    by_cases d2 : dg (lt l (pl + 1)) = true
    · obtain ⟨h2', H2, F2, s2⟩ := tn_step H1 hl ha (st := pl) (by omega) (by omega) (by omega) d2 a b c
      have n1 : nD l pl = 2 := by unfold nD; rw [if_pos d1, if_pos d2]
      have n2 : nV l pl = 10 * (10 * 0 + (lt l pl - 48)) + (lt l (pl + 1) - 48) := by unfold nV; rw [if_pos d1, if_pos d2]; omega
      have c0 := tn_test H2 hl ha (st := pl) (by omega) (by omega) a b c
      rw [decide_eq_false (by omega), Bool.false_and] at c0
      rw [n1, n2]
      exact ⟨h2', H2, (F1.trans F2).mono fun b hb => hb.elim id id, lpR_step s1 (lpR_step s2 (lpR_out (s_step_end c0)))⟩
    · have n1 : nD l pl = 1 := by unfold nD; rw [if_pos d1, if_neg d2]
      have n2 : nV l pl = 10 * 0 + (lt l pl - 48) := by unfold nV; rw [if_pos d1, if_neg d2]; omega
      have d2 : dg (lt l (pl + 1)) = false := by simpa using d2
      have c0 := tn_test H1 hl ha (st := pl) (by omega) (by omega) a b c
      rw [d2, Bool.and_false] at c0
      rw [n1, n2]
      exact ⟨h1', H1, F1, lpR_mono (lpR_step s1 (lpR_out (s_step_end c0))) (by omega)⟩
  · have n1 : nD l pl = 0 := by unfold nD; rw [if_neg d1]
    have n2 : nV l pl = 0 := by unfold nV; rw [if_neg d1]
    have d1 : dg (lt l pl) = false := by simpa using d1
    have c0 := tn_test H hl ha (st := pl) (Nat.le_refl _) (by omega) a b c
    rw [d1, Bool.and_false] at c0
    rw [n1, n2]
    exact ⟨h, H, xFr.rf _ _, lpR_mono (lpR_out (s_step_end c0)) (by omega)⟩
/-- a number between lo and hi with its sign -/
def tkB (l : List Nat) (p lo hi sg : Nat) : Option (Nat × Nat) := match tk l p sg with
  | some (v, j) => if lo ≤ v ∧ v ≤ hi then some (v, j) else none
  | none => none
theorem takesNumber_r (H : RPa h q k P sn l pl nm T ot) (hl : l.length ≤ 200) (ha : ∀ x, x ∈ l → 32 ≤ x ∧ x ≤ 126) (h2 : pl ≤ 900) {lo hi sg : Nat} (hlo : lo ≤ 1000) (hhi : hi ≤ 1000) (hsg : 0 < sg) (hsg2 : sg ≤ 126) : ∃ h' pl' nm', m_X10_takesNumber [.ref 106, .int (nI lo), .int (nI hi), .int (nI sg)] h = some (some (.int (bI (tkB l pl lo hi sg).isSome)), h') ∧ RPa h' q k P sn l pl' nm' T ot ∧ xFr (fun b => b = 106) h h' ∧ ∀ v j, tkB l pl lo hi sg = some (v, j) → pl' = j ∧ nm' = v := by
  have h00 : h[106]? = some (.inl (10, _)) := H.1
  obtain ⟨h1, d1, H1, F1⟩ := H.put pl 0 ot
  have s1 : (s_iasg 4 (e_fld 10 17 (e_al 0))) [some (.ref 106), some (.int (nI lo)), some (.int (nI hi)), some (.int (nI sg)), none] h = some (none, [some (.ref 106), some (.int (nI lo)), some (.int (nI hi)), some (.int (nI sg)), some (.int (nI pl))], h) := by
    obtain ⟨xf0, xf1, xf2, xf3, xf4, xf5, xf6, xf7, xf8, xf9, xf10, xf11, xf12, xf13, xf14, xf15, xf16, xf17, xf18, xf19, xf20, xf21, xf22, xf23, xf24, xf25, xf26, xf27⟩ := rfs h00
    simp only [x_out, s_seq, s_ite, s_ret, s_retZ, s_retV, s_iasg, s_aasg, s_lasg, s_inc, s_put, s_putop, s_ast, s_astop, s_exp, s_call, s_skip, s_brk, s_cont, s_oinit, e_lit, e_long, e_il, e_al, e_ll, e_bin, e_un, e_fld, e_ald, e_tern, e_call, e_alen, b_cmp, b_cmp0, b_lcmp, b_and, b_or, b_not, o_add, o_sub, o_mul, o_and, o_or, o_xor, o_shl, o_shr, o_neg, o_i2l, o_l2i, o_i2c, r_eq, r_ne, r_lt, r_ge, r_gt, r_le, r_eq0, r_ne0, r_lt0, r_ge0, r_gt0, r_le0, x_int, x_ref, x_long, x_args, x_nar, xKd, xst1, xst2, xlg, Option.bind_some, Option.bind_none, Option.map_some, Option.map_none, List.getElem?_cons_zero, List.getElem?_cons_succ, List.set_cons_zero, List.set_cons_succ, List.length_cons, List.length_nil, List.length_map, List.length_range, List.length_set, decide_eq_true_eq, if_true, if_false, reduceIte, reduceCtorEq, Bool.not_true, Bool.not_false, Bool.false_eq_true, x_ix_nI, ax_get, ax_set, e_aald, s_aast, true_and, and_true, ite_true, ite_false, ↓bI_01, bI_eq0, bI_eq1, bool_or, tern_pure, and_pure, or_pure, bI_def, bne_t, ndf, decide_not, Bool.decide_eq_true, Bool.decide_and, Bool.decide_or, Nat.reduceEqDiff, Nat.reduceAdd, Nat.reduceMul, Nat.reduceSub, Nat.reduceLT, Nat.reduceLeDiff, or_false, false_or, or_true, true_or, and_false, false_and, Bool.or_eq_true, Bool.and_eq_true, Bool.or_false, Bool.or_true, Bool.true_or, Bool.false_or, Bool.and_true, Bool.and_false, Bool.true_and, Bool.false_and, decide_true, decide_false, not_true_eq_false, not_false_eq_true, xf0, xf1, xf2, xf3, xf4, xf5, xf6, xf7, xf8, xf9, xf10, xf11, xf12, xf13, xf14, xf15, xf16, xf17, xf18, xf19, xf20, xf21, xf22, xf23, xf24, xf25, xf26, xf27]
  have s2 : (s_put 10 18 0 (e_al 0) (e_lit 0)) [some (.ref 106), some (.int (nI lo)), some (.int (nI hi)), some (.int (nI sg)), some (.int (nI pl))] h = some (none, [some (.ref 106), some (.int (nI lo)), some (.int (nI hi)), some (.int (nI sg)), some (.int (nI pl))], h1) := by
    rw [d1]
    simp (disch := omega) only [x_out, s_seq, s_ite, s_ret, s_retZ, s_retV, s_iasg, s_aasg, s_lasg, s_inc, s_put, s_putop, s_ast, s_astop, s_exp, s_call, s_skip, s_brk, s_cont, s_oinit, e_lit, e_long, e_il, e_al, e_ll, e_bin, e_un, e_fld, e_ald, e_tern, e_call, e_alen, b_cmp, b_cmp0, b_lcmp, b_and, b_or, b_not, o_add, o_sub, o_mul, o_and, o_or, o_xor, o_shl, o_shr, o_neg, o_i2l, o_l2i, o_i2c, r_eq, r_ne, r_lt, r_ge, r_gt, r_le, r_eq0, r_ne0, r_lt0, r_ge0, r_gt0, r_le0, x_fld, x_int, x_ref, x_long, x_args, x_nar, xKd, xst1, xst2, xlg, Option.bind_some, Option.bind_none, Option.map_some, Option.map_none, List.getElem?_cons_zero, List.getElem?_cons_succ, List.set_cons_zero, List.set_cons_succ, List.length_cons, List.length_nil, List.length_map, List.length_range, List.length_set, decide_eq_true_eq, if_true, if_false, reduceIte, reduceCtorEq, Bool.not_true, Bool.not_false, Bool.false_eq_true, x_ix_nI, ax_get, ax_set, e_aald, s_aast, true_and, and_true, ite_true, ite_false, ↓bI_01, bI_eq0, bI_eq1, bool_or, tern_pure, and_pure, or_pure, bI_def, bne_t, ndf, decide_not, Bool.decide_eq_true, Bool.decide_and, Bool.decide_or, Nat.reduceEqDiff, Nat.reduceAdd, Nat.reduceMul, Nat.reduceSub, Nat.reduceLT, Nat.reduceLeDiff, or_false, false_or, or_true, true_or, and_false, false_and, Bool.or_eq_true, Bool.and_eq_true, Bool.or_false, Bool.or_true, Bool.true_or, Bool.false_or, Bool.and_true, Bool.and_false, Bool.true_and, Bool.false_and, decide_true, decide_false, not_true_eq_false, not_false_eq_true, h00]
    rfl
  obtain ⟨h2', H2, F2, lp⟩ := tn_loop H1 hl ha h2 (some (.int (nI lo))) (some (.int (nI hi))) (some (.int (nI sg)))
  have lp := lp 1000 (by omega)
  have hD := nD_le l pl
  have hV := nV_le l pl
  have e1 := letterAt_r H2 hl (p := pl + nD l pl) (by omega)
  have h02 : h2'[106]? = some (.inl (10, _)) := H2.1
  have ei := in_x h2' (nI (nV l pl)) (nI lo) (nI hi)
  have n1 : (nI (pl + nD l pl) = nI pl) = (nD l pl = 0) := by
    rw [nI_eq (by omega) (by omega)]
    apply propext
    omega
  have n2 : (nI lo ≤ nI (nV l pl)) = (lo ≤ nV l pl) := propext (nI_leI (by omega) (by omega))
  have n3 : (nI (nV l pl) ≤ nI hi) = (nV l pl ≤ hi) := propext (nI_leI (by omega) (by omega))
  simp only [n2, n3] at ei
  have n4 := lA_eq ha (pl + nD l pl) hsg hsg2
  have c1 : (b_or (b_or (b_cmp r_eq (e_fld 10 17 (e_al 0)) (e_il 4)) (b_not (b_cmp0 r_ne0 (e_call m_X10_in [(e_un o_i2l (e_fld 10 18 (e_al 0))), (e_un o_i2l (e_il 1)), (e_un o_i2l (e_il 2))])))) (b_cmp r_ne (e_call m_X10_letterAt [(e_al 0), (e_fld 10 17 (e_al 0))]) (e_il 3))) [some (.ref 106), some (.int (nI lo)), some (.int (nI hi)), some (.int (nI sg)), some (.int (nI pl))] h2' = some ((decide (nD l pl = 0) || !(decide (lo ≤ nV l pl) && decide (nV l pl ≤ hi))) || decide (¬ lt l (pl + nD l pl) = sg), h2') := by
    obtain ⟨xf0, xf1, xf2, xf3, xf4, xf5, xf6, xf7, xf8, xf9, xf10, xf11, xf12, xf13, xf14, xf15, xf16, xf17, xf18, xf19, xf20, xf21, xf22, xf23, xf24, xf25, xf26, xf27⟩ := rfs h02
    exact b_or_p (b_or_p (by simp only [x_out, s_seq, s_ite, s_ret, s_retZ, s_retV, s_iasg, s_aasg, s_lasg, s_inc, s_put, s_putop, s_ast, s_astop, s_exp, s_call, s_skip, s_brk, s_cont, s_oinit, e_lit, e_long, e_il, e_al, e_ll, e_bin, e_un, e_fld, e_ald, e_tern, e_call, e_alen, b_cmp, b_cmp0, b_lcmp, b_and, b_or, b_not, o_add, o_sub, o_mul, o_and, o_or, o_xor, o_shl, o_shr, o_neg, o_i2l, o_l2i, o_i2c, r_eq, r_ne, r_lt, r_ge, r_gt, r_le, r_eq0, r_ne0, r_lt0, r_ge0, r_gt0, r_le0, x_int, x_ref, x_long, x_args, x_nar, xKd, xst1, xst2, xlg, Option.bind_some, Option.bind_none, Option.map_some, Option.map_none, List.getElem?_cons_zero, List.getElem?_cons_succ, List.set_cons_zero, List.set_cons_succ, List.length_cons, List.length_nil, List.length_map, List.length_range, List.length_set, decide_eq_true_eq, if_true, if_false, reduceIte, reduceCtorEq, Bool.not_true, Bool.not_false, Bool.false_eq_true, x_ix_nI, ax_get, ax_set, e_aald, s_aast, true_and, and_true, ite_true, ite_false, ↓bI_01, bI_eq0, bI_eq1, bool_or, tern_pure, and_pure, or_pure, bI_def, bne_t, ndf, decide_not, Bool.decide_eq_true, Bool.decide_and, Bool.decide_or, Nat.reduceEqDiff, Nat.reduceAdd, Nat.reduceMul, Nat.reduceSub, Nat.reduceLT, Nat.reduceLeDiff, or_false, false_or, or_true, true_or, and_false, false_and, Bool.or_eq_true, Bool.and_eq_true, Bool.or_false, Bool.or_true, Bool.true_or, Bool.false_or, Bool.and_true, Bool.and_false, Bool.true_and, Bool.false_and, decide_true, decide_false, not_true_eq_false, not_false_eq_true, xf0, xf1, xf2, xf3, xf4, xf5, xf6, xf7, xf8, xf9, xf10, xf11, xf12, xf13, xf14, xf15, xf16, xf17, xf18, xf19, xf20, xf21, xf22, xf23, xf24, xf25, xf26, xf27, n1]) (fun _ => by simp only [x_out, s_seq, s_ite, s_ret, s_retZ, s_retV, s_iasg, s_aasg, s_lasg, s_inc, s_put, s_putop, s_ast, s_astop, s_exp, s_call, s_skip, s_brk, s_cont, s_oinit, e_lit, e_long, e_il, e_al, e_ll, e_bin, e_un, e_fld, e_ald, e_tern, e_call, e_alen, b_cmp, b_cmp0, b_lcmp, b_and, b_or, b_not, o_add, o_sub, o_mul, o_and, o_or, o_xor, o_shl, o_shr, o_neg, o_i2l, o_l2i, o_i2c, r_eq, r_ne, r_lt, r_ge, r_gt, r_le, r_eq0, r_ne0, r_lt0, r_ge0, r_gt0, r_le0, x_int, x_ref, x_long, x_args, x_nar, xKd, xst1, xst2, xlg, Option.bind_some, Option.bind_none, Option.map_some, Option.map_none, List.getElem?_cons_zero, List.getElem?_cons_succ, List.set_cons_zero, List.set_cons_succ, List.length_cons, List.length_nil, List.length_map, List.length_range, List.length_set, decide_eq_true_eq, if_true, if_false, reduceIte, reduceCtorEq, Bool.not_true, Bool.not_false, Bool.false_eq_true, x_ix_nI, ax_get, ax_set, e_aald, s_aast, true_and, and_true, ite_true, ite_false, ↓bI_01, bI_eq0, bI_eq1, bool_or, tern_pure, and_pure, or_pure, bI_def, bne_t, ndf, decide_not, Bool.decide_eq_true, Bool.decide_and, Bool.decide_or, Nat.reduceEqDiff, Nat.reduceAdd, Nat.reduceMul, Nat.reduceSub, Nat.reduceLT, Nat.reduceLeDiff, or_false, false_or, or_true, true_or, and_false, false_and, Bool.or_eq_true, Bool.and_eq_true, Bool.or_false, Bool.or_true, Bool.true_or, Bool.false_or, Bool.and_true, Bool.and_false, Bool.true_and, Bool.false_and, decide_true, decide_false, not_true_eq_false, not_false_eq_true, xf0, xf1, xf2, xf3, xf4, xf5, xf6, xf7, xf8, xf9, xf10, xf11, xf12, xf13, xf14, xf15, xf16, xf17, xf18, xf19, xf20, xf21, xf22, xf23, xf24, xf25, xf26, xf27, ei])) (fun _ => by simp only [x_out, s_seq, s_ite, s_ret, s_retZ, s_retV, s_iasg, s_aasg, s_lasg, s_inc, s_put, s_putop, s_ast, s_astop, s_exp, s_call, s_skip, s_brk, s_cont, s_oinit, e_lit, e_long, e_il, e_al, e_ll, e_bin, e_un, e_fld, e_ald, e_tern, e_call, e_alen, b_cmp, b_cmp0, b_lcmp, b_and, b_or, b_not, o_add, o_sub, o_mul, o_and, o_or, o_xor, o_shl, o_shr, o_neg, o_i2l, o_l2i, o_i2c, r_eq, r_ne, r_lt, r_ge, r_gt, r_le, r_eq0, r_ne0, r_lt0, r_ge0, r_gt0, r_le0, x_int, x_ref, x_long, x_args, x_nar, xKd, xst1, xst2, xlg, Option.bind_some, Option.bind_none, Option.map_some, Option.map_none, List.getElem?_cons_zero, List.getElem?_cons_succ, List.set_cons_zero, List.set_cons_succ, List.length_cons, List.length_nil, List.length_map, List.length_range, List.length_set, decide_eq_true_eq, if_true, if_false, reduceIte, reduceCtorEq, Bool.not_true, Bool.not_false, Bool.false_eq_true, x_ix_nI, ax_get, ax_set, e_aald, s_aast, true_and, and_true, ite_true, ite_false, ↓bI_01, bI_eq0, bI_eq1, bool_or, tern_pure, and_pure, or_pure, bI_def, bne_t, ndf, decide_not, Bool.decide_eq_true, Bool.decide_and, Bool.decide_or, Nat.reduceEqDiff, Nat.reduceAdd, Nat.reduceMul, Nat.reduceSub, Nat.reduceLT, Nat.reduceLeDiff, or_false, false_or, or_true, true_or, and_false, false_and, Bool.or_eq_true, Bool.and_eq_true, Bool.or_false, Bool.or_true, Bool.true_or, Bool.false_or, Bool.and_true, Bool.and_false, Bool.true_and, Bool.false_and, decide_true, decide_false, not_true_eq_false, not_false_eq_true, xf0, xf1, xf2, xf3, xf4, xf5, xf6, xf7, xf8, xf9, xf10, xf11, xf12, xf13, xf14, xf15, xf16, xf17, xf18, xf19, xf20, xf21, xf22, xf23, xf24, xf25, xf26, xf27, e1, n4])
  have pre : ∀ rest : XS, (s_seq (s_iasg 4 (e_fld 10 17 (e_al 0))) (s_seq (s_put 10 18 0 (e_al 0) (e_lit 0)) (s_seq (s_loop 1000 (lc_X10_takesNumber_1) (la_X10_takesNumber_1) (lu_X10_takesNumber_1)) rest))) [some (.ref 106), some (.int (nI lo)), some (.int (nI hi)), some (.int (nI sg)), none] h = rest [some (.ref 106), some (.int (nI lo)), some (.int (nI hi)), some (.int (nI sg)), some (.int (nI pl))] h2' := fun rest => by
    rw [s_seq_n s1, s_seq_n s2, s_seq_n lp]
  have Fr2 : xFr (fun b => b = 106) h h2' := (F1.trans F2).mono fun b hb => hb.elim id id
  unfold tkB tk
  by_cases y0 : nD l pl = 0
  · rw [decide_eq_true y0] at c1
    rw [if_pos y0]
    refine ⟨h2', _, _, ?_, H2, Fr2, fun v j e => by cases e⟩
    refine xM_run (env := [some (.ref 106), some (.int (nI lo)), some (.int (nI hi)), some (.int (nI sg)), none]) h00 rfl rfl (Nat.le_of_ble_eq_true rfl) rfl ?_ rfl
    unfold bd_X10_takesNumber
    rw [pre, s_seq_r ((s_ite_t c1).trans (ret_Z0 _ _))]
    rfl
  · rw [decide_eq_false y0, Bool.false_or] at c1
    rw [if_neg y0]
    by_cases y1 : lt l (pl + nD l pl) = sg
    · rw [if_pos y1]
      rw [decide_eq_false (show ¬ ¬ lt l (pl + nD l pl) = sg from fun z => z y1), Bool.or_false] at c1
      by_cases y2 : lo ≤ nV l pl ∧ nV l pl ≤ hi
      · rw [decide_eq_true y2.1, decide_eq_true y2.2] at c1
        obtain ⟨h3, d3, H3, F3⟩ := H2.put (pl + nD l pl + 1) (nV l pl) ot
        have s5 : (s_putop 10 17 o_add (e_al 0) (e_lit 1)) [some (.ref 106), some (.int (nI lo)), some (.int (nI hi)), some (.int (nI sg)), some (.int (nI pl))] h2' = some (none, [some (.ref 106), some (.int (nI lo)), some (.int (nI hi)), some (.int (nI sg)), some (.int (nI pl))], h3) := by
          obtain ⟨xf0, xf1, xf2, xf3, xf4, xf5, xf6, xf7, xf8, xf9, xf10, xf11, xf12, xf13, xf14, xf15, xf16, xf17, xf18, xf19, xf20, xf21, xf22, xf23, xf24, xf25, xf26, xf27⟩ := rfs h02
          rw [d3]
          simp (disch := omega) only [x_out, s_seq, s_ite, s_ret, s_retZ, s_retV, s_iasg, s_aasg, s_lasg, s_inc, s_put, s_putop, s_ast, s_astop, s_exp, s_call, s_skip, s_brk, s_cont, s_oinit, e_lit, e_long, e_il, e_al, e_ll, e_bin, e_un, e_fld, e_ald, e_tern, e_call, e_alen, b_cmp, b_cmp0, b_lcmp, b_and, b_or, b_not, o_add, o_sub, o_mul, o_and, o_or, o_xor, o_shl, o_shr, o_neg, o_i2l, o_l2i, o_i2c, r_eq, r_ne, r_lt, r_ge, r_gt, r_le, r_eq0, r_ne0, r_lt0, r_ge0, r_gt0, r_le0, x_int, x_ref, x_long, x_args, x_nar, xKd, xst1, xst2, xlg, Option.bind_some, Option.bind_none, Option.map_some, Option.map_none, List.getElem?_cons_zero, List.getElem?_cons_succ, List.set_cons_zero, List.set_cons_succ, List.length_cons, List.length_nil, List.length_map, List.length_range, List.length_set, decide_eq_true_eq, if_true, if_false, reduceIte, reduceCtorEq, Bool.not_true, Bool.not_false, Bool.false_eq_true, x_ix_nI, ax_get, ax_set, e_aald, s_aast, true_and, and_true, ite_true, ite_false, ↓bI_01, bI_eq0, bI_eq1, bool_or, tern_pure, and_pure, or_pure, bI_def, bne_t, ndf, decide_not, Bool.decide_eq_true, Bool.decide_and, Bool.decide_or, Nat.reduceEqDiff, Nat.reduceAdd, Nat.reduceMul, Nat.reduceSub, Nat.reduceLT, Nat.reduceLeDiff, or_false, false_or, or_true, true_or, and_false, false_and, Bool.or_eq_true, Bool.and_eq_true, Bool.or_false, Bool.or_true, Bool.true_or, Bool.false_or, Bool.and_true, Bool.and_false, Bool.true_and, Bool.false_and, decide_true, decide_false, not_true_eq_false, not_false_eq_true, xf0, xf1, xf2, xf3, xf4, xf5, xf6, xf7, xf8, xf9, xf10, xf11, xf12, xf13, xf14, xf15, xf16, xf17, xf18, xf19, xf20, xf21, xf22, xf23, xf24, xf25, xf26, xf27, h02, nI_1]
          rfl
        refine ⟨h3, _, _, ?_, H3, (Fr2.trans F3).mono fun b hb => hb.elim id id, fun v j e => ?_⟩
        · refine xM_run (env := [some (.ref 106), some (.int (nI lo)), some (.int (nI hi)), some (.int (nI sg)), none]) h00 rfl rfl (Nat.le_of_ble_eq_true rfl) rfl ?_ rfl
          unfold bd_X10_takesNumber
          rw [pre, s_seq_n ((s_ite_f c1).trans (skip_n _ _)), s_seq_n s5, ret_Z1]
          dsimp only
          rw [if_pos y2]
          rfl
        · dsimp only at e
          rw [if_pos y2] at e
          cases e
          exact ⟨rfl, rfl⟩
      · have : (!(decide (lo ≤ nV l pl) && decide (nV l pl ≤ hi))) = true := by
          rw [← Bool.decide_and, decide_eq_false y2]
          rfl
        rw [this] at c1
        refine ⟨h2', _, _, ?_, H2, Fr2, fun v j e => ?_⟩
        · refine xM_run (env := [some (.ref 106), some (.int (nI lo)), some (.int (nI hi)), some (.int (nI sg)), none]) h00 rfl rfl (Nat.le_of_ble_eq_true rfl) rfl ?_ rfl
          unfold bd_X10_takesNumber
          rw [pre, s_seq_r ((s_ite_t c1).trans (ret_Z0 _ _))]
          dsimp only
          rw [if_neg y2]
          rfl
        · dsimp only at e
          rw [if_neg y2] at e
          cases e
    · rw [if_neg y1]
      rw [decide_eq_true y1, Bool.or_true] at c1
      refine ⟨h2', _, _, ?_, H2, Fr2, fun v j e => by cases e⟩
      refine xM_run (env := [some (.ref 106), some (.int (nI lo)), some (.int (nI hi)), some (.int (nI sg)), none]) h00 rfl rfl (Nat.le_of_ble_eq_true rfl) rfl ?_ rfl
      unfold bd_X10_takesNumber
      rw [pre, s_seq_r ((s_ite_t c1).trans (ret_Z0 _ _))]
      rfl
end RN
