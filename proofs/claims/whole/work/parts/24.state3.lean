/-! a state: a stile replaced, a tread, a copy, a beginning -/
theorem set_same {h : XH} {a : Nat} {c : XC} (hh : h[a]? = some c) : h.set a c = h := by
  apply List.ext_getElem?
  intro j
  by_cases hj : a = j
  · subst hj
    rw [set_at hh, hh]
  · rw [set_ne hj]
theorem SAt.val {h : XH} {a : Nat} {S S' : XT} (H : SAt h a S) (e0 : tT S = tT S') (e1 : ∀ i, i < 9 → tW S i = tW S' i) (e2 : ∀ i, i < 4 → tP S i = tP S' i) (e3 : ∀ i, i < 4 → tC S i = tC S' i) (e4 : ∀ i, i < 4 → tL S i = tL S' i) (e5 : ∀ i, i < 36 → tA S i = tA S' i) : SAt h a S' := by
  obtain ⟨h0, h1, h2, h3, h4, h5⟩ := H
  exact ⟨by rw [h0, e0], by rw [h1]; exact congrArg some (ax_ext fun i hi => by rw [e1 i hi]), by rw [h2]; exact congrArg some (ax_ext fun i hi => by rw [e2 i hi]), by rw [h3]; exact congrArg some (ax_ext fun i hi => e3 i hi), by rw [h4]; exact congrArg some (ax_ext fun i hi => e4 i hi), by rw [h5]; exact congrArg some (ax_ext fun i hi => by rw [e5 i hi])⟩
theorem oI_add (x y : Int) : Int32.ofInt x + Int32.ofInt y = Int32.ofInt (x + y) := (Int32.ofInt_add x y).symm
section ST3
variable {h : XH} {a c : Nat} {P : XP} {S : XT}
def sRenew (S : XT) (s : Nat) : XT := (tT S, fun i => if i = s then 0 else tW S i, tP S, tC S, tL S, fun i => if i % 9 = s then 0 else tA S i)
theorem renew_x (H : SAt h a S) {s : Nat} (hs : s < 9) : ∃ h', m_X6_renew [.ref a, .int (nI s)] h = some (none, h') ∧ SAt h' a (sRenew S s) ∧ xFr (sCells a) h h' := by
  have H0 := H
  have hlen := H.len
  have r1 := ax_row H.2.1
  have h0 := H.1
  have K := H.setW (f := upd (fun i => nI (tW S i)) s 0) (g := fun i => if i = s then 0 else tW S i) (fun i hi => by unfold upd; split <;> rfl)
  have F1 : xFr (sCells a) h (h.set (a + 1) (arr 9 (upd (fun i => nI (tW S i)) s 0))) := (xFr.set H.2.1 (by simp [arr, xSz])).mono (fun b hb => by subst hb; exact ⟨by omega, by omega⟩)
  generalize hh1 : h.set (a + 1) (arr 9 (upd (fun i => nI (tW S i)) s 0)) = h1 at K F1
  have k0 := K.1
  have k5 := K.2.2.2.2.2
  have klen := K.len
  have hl := s_loop_run (c := lc_X6_renew_1) (a := la_X6_renew_1) (u := lu_X6_renew_1) (fun i => ([some (.ref a), some (.int (nI s)), some (.int (nI i))], h1.set (a + 5) (arr 36 fun j => Int32.ofInt (if j % 9 = s ∧ j / 9 < i then 0 else tA S j)))) (none, [some (.ref a), some (.int (nI s)), some (.int (nI 4))], h1.set (a + 5) (arr 36 fun j => Int32.ofInt (if j % 9 = s ∧ j / 9 < 4 then 0 else tA S j))) 4 1000 (by omega)
    (fun i hi => by
      have r5 : x_row 0 (.ref (a + 5)) (h1.set (a + 5) (arr 36 fun j => Int32.ofInt (if j % 9 = s ∧ j / 9 < i then 0 else tA S j))) = some (a + 5, (List.range 36).map fun j => Int32.ofInt (if j % 9 = s ∧ j / 9 < i then 0 else tA S j)) := x_row_self klen
      have f0 : (h1.set (a + 5) (arr 36 fun j => Int32.ofInt (if j % 9 = s ∧ j / 9 < i then 0 else tA S j)))[a]? = _ := (set_ne (by omega)).trans k0
      simp (disch := omega) only [lc_X6_renew_1, la_X6_renew_1, lu_X6_renew_1, s_step, x_out, s_seq, s_ite, s_ret, s_retZ, s_retV, s_iasg, s_aasg, s_lasg, s_inc, s_put, s_putop, s_ast, s_astop, s_exp, s_call, s_skip, s_brk, s_cont, s_oinit, e_lit, e_long, e_il, e_al, e_ll, e_bin, e_un, e_fld, e_ald, e_tern, e_call, e_alen, b_cmp, b_cmp0, b_lcmp, b_and, b_or, b_not, o_add, o_sub, o_mul, o_and, o_or, o_xor, o_shl, o_shr, o_neg, o_i2l, o_l2i, o_i2c, r_eq, r_ne, r_lt, r_ge, r_gt, r_le, r_eq0, r_ne0, r_lt0, r_ge0, r_gt0, r_le0, x_fld, x_int, x_ref, x_long, x_args, x_nar, xKd, xst1, xst2, xlg, Option.bind_some, Option.bind_none, Option.map_some, Option.map_none, List.getElem?_cons_zero, List.getElem?_cons_succ, List.set_cons_zero, List.set_cons_succ, List.length_cons, List.length_nil, List.length_map, List.length_range, List.length_set, decide_eq_true_eq, if_true, if_false, reduceIte, reduceCtorEq, Bool.not_true, Bool.not_false, Bool.false_eq_true, x_ix_nI, ax_get, ax_set, e_aald, s_aast, true_and, and_true, ite_true, ite_false, ↓bI_01, bI_eq0, bI_eq1, bool_or, tern_pure, and_pure, or_pure, bI_def, bne_t, ndf, decide_not, Bool.decide_eq_true, Bool.decide_and, Bool.decide_or, Nat.reduceEqDiff, Nat.reduceAdd, Nat.reduceMul, Nat.reduceSub, Nat.reduceLT, Nat.reduceLeDiff, or_false, false_or, or_true, true_or, and_false, false_and, Bool.or_eq_true, Bool.and_eq_true, Bool.or_false, Bool.or_true, Bool.true_or, Bool.false_or, Bool.and_true, Bool.and_false, Bool.true_and, Bool.false_and, decide_true, decide_false, not_true_eq_false, not_false_eq_true, l4, l9, nI_ltI, nI_m, nI_add, nI_1, hi, f0, r5, ax_def, List.set_set]
      refine congrArg (fun z => (some (Sum.inr (_, List.set h1 (a + 5) z)) : Option ((XO × XE × XH) ⊕ (XE × XH)))) (ax_ext fun j hj => ?_)
      show upd _ _ _ j = Int32.ofInt _
      unfold upd
      by_cases q : j = i * 9 + s
      · rw [if_pos q, if_pos (by omega)]; rfl
      · rw [if_neg q]
        show Int32.ofInt _ = Int32.ofInt _
        by_cases q2 : j % 9 = s ∧ j / 9 < i
        · rw [if_pos q2, if_pos (by omega)]
        · rw [if_neg q2, if_neg (by omega)])
    (by
      have f0 : (h1.set (a + 5) (arr 36 fun j => Int32.ofInt (if j % 9 = s ∧ j / 9 < 4 then 0 else tA S j)))[a]? = _ := (set_ne (by omega)).trans k0
      simp (disch := omega) only [lc_X6_renew_1, la_X6_renew_1, lu_X6_renew_1, s_step, x_out, s_seq, s_ite, s_ret, s_retZ, s_retV, s_iasg, s_aasg, s_lasg, s_inc, s_put, s_putop, s_ast, s_astop, s_exp, s_call, s_skip, s_brk, s_cont, s_oinit, e_lit, e_long, e_il, e_al, e_ll, e_bin, e_un, e_fld, e_ald, e_tern, e_call, e_alen, b_cmp, b_cmp0, b_lcmp, b_and, b_or, b_not, o_add, o_sub, o_mul, o_and, o_or, o_xor, o_shl, o_shr, o_neg, o_i2l, o_l2i, o_i2c, r_eq, r_ne, r_lt, r_ge, r_gt, r_le, r_eq0, r_ne0, r_lt0, r_ge0, r_gt0, r_le0, x_fld, x_int, x_ref, x_long, x_args, x_nar, xKd, xst1, xst2, xlg, Option.bind_some, Option.bind_none, Option.map_some, Option.map_none, List.getElem?_cons_zero, List.getElem?_cons_succ, List.set_cons_zero, List.set_cons_succ, List.length_cons, List.length_nil, List.length_map, List.length_range, List.length_set, decide_eq_true_eq, if_true, if_false, reduceIte, reduceCtorEq, Bool.not_true, Bool.not_false, Bool.false_eq_true, x_ix_nI, ax_get, ax_set, e_aald, s_aast, true_and, and_true, ite_true, ite_false, ↓bI_01, bI_eq0, bI_eq1, bool_or, tern_pure, and_pure, or_pure, bI_def, bne_t, ndf, decide_not, Bool.decide_eq_true, Bool.decide_and, Bool.decide_or, Nat.reduceEqDiff, Nat.reduceAdd, Nat.reduceMul, Nat.reduceSub, Nat.reduceLT, Nat.reduceLeDiff, or_false, false_or, or_true, true_or, and_false, false_and, Bool.or_eq_true, Bool.and_eq_true, Bool.or_false, Bool.or_true, Bool.true_or, Bool.false_or, Bool.and_true, Bool.and_false, Bool.true_and, Bool.false_and, decide_true, decide_false, not_true_eq_false, not_false_eq_true, l4, nI_ltI, Nat.lt_irrefl, f0])
  have hz : h1.set (a + 5) (arr 36 fun j => Int32.ofInt (if j % 9 = s ∧ j / 9 < 0 then 0 else tA S j)) = h1 := by
    have : (arr 36 fun j => Int32.ofInt (if j % 9 = s ∧ j / 9 < 0 then 0 else tA S j)) = arr 36 fun j => Int32.ofInt (tA S j) := ax_ext fun j hj => by rw [if_neg (by omega)]
    rw [this]
    exact set_same k5
  simp only [hz, nI_0] at hl
  refine ⟨_, ?_, (K.setA (g := fun i => if i % 9 = s then 0 else tA S i) (f := fun j => Int32.ofInt (if j % 9 = s ∧ j / 9 < 4 then 0 else tA S j)) (fun i hi => ?_)), ?_⟩
  · refine xM_run (env := [some (.ref a), some (.int (nI s)), none]) h0 rfl rfl (Nat.le_of_ble_eq_true rfl) rfl ?_ rfl
    simp (disch := omega) only [bd_X6_renew, x_out, s_seq, s_ite, s_ret, s_retZ, s_retV, s_iasg, s_aasg, s_lasg, s_inc, s_put, s_putop, s_ast, s_astop, s_exp, s_call, s_skip, s_brk, s_cont, s_oinit, e_lit, e_long, e_il, e_al, e_ll, e_bin, e_un, e_fld, e_ald, e_tern, e_call, e_alen, b_cmp, b_cmp0, b_lcmp, b_and, b_or, b_not, o_add, o_sub, o_mul, o_and, o_or, o_xor, o_shl, o_shr, o_neg, o_i2l, o_l2i, o_i2c, r_eq, r_ne, r_lt, r_ge, r_gt, r_le, r_eq0, r_ne0, r_lt0, r_ge0, r_gt0, r_le0, x_fld, x_int, x_ref, x_long, x_args, x_nar, xKd, xst1, xst2, xlg, Option.bind_some, Option.bind_none, Option.map_some, Option.map_none, List.getElem?_cons_zero, List.getElem?_cons_succ, List.set_cons_zero, List.set_cons_succ, List.length_cons, List.length_nil, List.length_map, List.length_range, List.length_set, decide_eq_true_eq, if_true, if_false, reduceIte, reduceCtorEq, Bool.not_true, Bool.not_false, Bool.false_eq_true, x_ix_nI, ax_get, ax_set, e_aald, s_aast, true_and, and_true, ite_true, ite_false, ↓bI_01, bI_eq0, bI_eq1, bool_or, tern_pure, and_pure, or_pure, bI_def, bne_t, ndf, decide_not, Bool.decide_eq_true, Bool.decide_and, Bool.decide_or, Nat.reduceEqDiff, Nat.reduceAdd, Nat.reduceMul, Nat.reduceSub, Nat.reduceLT, Nat.reduceLeDiff, or_false, false_or, or_true, true_or, and_false, false_and, Bool.or_eq_true, Bool.and_eq_true, Bool.or_false, Bool.or_true, Bool.true_or, Bool.false_or, Bool.and_true, Bool.and_false, Bool.true_and, Bool.false_and, decide_true, decide_false, not_true_eq_false, not_false_eq_true, h0, r1, ax_def, hh1, hl]
  · by_cases q : i % 9 = s
    · rw [if_pos ⟨q, by omega⟩]; simp [q]
    · rw [if_neg (fun z => q z.1)]; simp [q]
  · exact (F1.trans ((xFr.set k5 (by simp [arr, xSz])).mono (J := sCells a) (fun b hb => by subst hb; exact ⟨by omega, by omega⟩))).mono (fun b hb => hb.elim id id)
def sGo (P : XP) (S : XT) (w s : Nat) : XT := (tT S + 1, fun i => if i = s then min (tW S s + pW P w s) 999 else tW S i, fun i => if i = w then pX P s (tP S w) else tP S i, fun i => if i = w then tC S w + nI (pG P w s) else tC S i, fun i => if i = w then nI s else tL S i, fun i => if i = 9 * w + s then tA S i + (if pA P s = tP S w then 1 else -1) else tA S i)
theorem goOver_x (HP : PAt h 11 P) (O : POK P) (ha : 17 < a) (H : SAt h a S) (T : TOK P c S) {w s : Nat} (hw : w < pM P) (hs : s < pN P) : ∃ h', m_X6_goOver [.ref a, .int (nI w), .int (nI s)] h = some (none, h') ∧ SAt h' a (sGo P S w s) ∧ xFr (sCells a) h h' := by
  have o5 := O.2.2.2.2.1
  have o6 := O.2.2.2.2.2.1
  have o2 := O.2.1
  have t2 := T.2.1 w hw
  have t1 := T.1 s (by omega)
  obtain ⟨q1, q2, q3, q4⟩ := O.2.2.2.2.2.2.1 s hs
  have keep : ∀ h' : XH, xFr (sCells a) h h' → PAt h' 11 P := fun h' F => HP.same (fun b h1 h2 => F.2.2 b (fun z => by have := z.1; omega))
  -- the account
  have r5 := ax_row H.2.2.2.2.2
  have r2 := ax_row H.2.2.1
  have p0 := HP.1
  have pr2 := ax_row HP.2.2.1
  have h0 := H.1
  have s1 : (s_astop o_add (e_fld 6 5 (e_al 0)) (e_bin o_add (e_bin o_mul (e_il 1) (e_lit 9)) (e_il 2)) (e_tern (b_cmp r_eq (e_ald 0 (e_fld 4 5 (e_fld 6 6 (e_al 0))) (e_il 2)) (e_ald 0 (e_fld 6 2 (e_al 0)) (e_il 1))) (e_lit 1) (e_lit (-1)))) [some (.ref a), some (.int (nI w)), some (.int (nI s))] h = some (none, [some (.ref a), some (.int (nI w)), some (.int (nI s))], h.set (a + 5) (arr 36 (upd (fun i => Int32.ofInt (tA S i)) (w * 9 + s) (Int32.ofInt (tA S (w * 9 + s)) + (if pA P s = tP S w then 1 else -1))))) := by
    simp (disch := omega) only [x_out, s_seq, s_ite, s_ret, s_retZ, s_retV, s_iasg, s_aasg, s_lasg, s_inc, s_put, s_putop, s_ast, s_astop, s_exp, s_call, s_skip, s_brk, s_cont, s_oinit, e_lit, e_long, e_il, e_al, e_ll, e_bin, e_un, e_fld, e_ald, e_tern, e_call, e_alen, b_cmp, b_cmp0, b_lcmp, b_and, b_or, b_not, o_add, o_sub, o_mul, o_and, o_or, o_xor, o_shl, o_shr, o_neg, o_i2l, o_l2i, o_i2c, r_eq, r_ne, r_lt, r_ge, r_gt, r_le, r_eq0, r_ne0, r_lt0, r_ge0, r_gt0, r_le0, x_fld, x_int, x_ref, x_long, x_args, x_nar, xKd, xst1, xst2, xlg, Option.bind_some, Option.bind_none, Option.map_some, Option.map_none, List.getElem?_cons_zero, List.getElem?_cons_succ, List.set_cons_zero, List.set_cons_succ, List.length_cons, List.length_nil, List.length_map, List.length_range, List.length_set, decide_eq_true_eq, if_true, if_false, reduceIte, reduceCtorEq, Bool.not_true, Bool.not_false, Bool.false_eq_true, x_ix_nI, ax_get, ax_set, e_aald, s_aast, true_and, and_true, ite_true, ite_false, ↓bI_01, bI_eq0, bI_eq1, bool_or, tern_pure, and_pure, or_pure, bI_def, bne_t, ndf, decide_not, Bool.decide_eq_true, Bool.decide_and, Bool.decide_or, Nat.reduceEqDiff, Nat.reduceAdd, Nat.reduceMul, Nat.reduceSub, Nat.reduceLT, Nat.reduceLeDiff, or_false, false_or, or_true, true_or, and_false, false_and, Bool.or_eq_true, Bool.and_eq_true, Bool.or_false, Bool.or_true, Bool.true_or, Bool.false_or, Bool.and_true, Bool.and_false, Bool.true_and, Bool.false_and, decide_true, decide_false, not_true_eq_false, not_false_eq_true, l9, nI_m, nI_add, nI_eq, h0, p0, pr2, r2, r5, ax_def]
    rw [if_pos (by omega)]
  have K1 := H.setA (f := upd (fun i => Int32.ofInt (tA S i)) (w * 9 + s) (Int32.ofInt (tA S (w * 9 + s)) + (if pA P s = tP S w then 1 else -1))) (g := fun i => if i = 9 * w + s then tA S i + (if pA P s = tP S w then 1 else -1) else tA S i) (fun i hi => by
    unfold upd
    rw [show w * 9 + s = 9 * w + s by omega]
    by_cases q : i = 9 * w + s
    · subst q
      simp only [if_true]
      rw [← oI_add]
      congr 1
      split <;> rfl
    · simp only [if_neg q])
  have F1 : xFr (sCells a) h (h.set (a + 5) (arr 36 (upd (fun i => Int32.ofInt (tA S i)) (w * 9 + s) (Int32.ofInt (tA S (w * 9 + s)) + (if pA P s = tP S w then 1 else -1))))) := (xFr.set H.2.2.2.2.2 (by simp [arr, xSz])).mono (fun b hb => by subst hb; exact ⟨by omega, by omega⟩)
  generalize h.set (a + 5) (arr 36 (upd (fun i => Int32.ofInt (tA S i)) (w * 9 + s) (Int32.ofInt (tA S (w * 9 + s)) + (if pA P s = tP S w then 1 else -1)))) = h1 at s1 K1 F1
  -- the field
  have HP1 := keep h1 F1
  have e2 := across_x HP1 O hs (f := tP S w) (by omega)
  have k0 : h1[a]? = some (.inl (6, [.int (tT S), .ref (a + 1), .ref (a + 2), .ref (a + 3), .ref (a + 4), .ref (a + 5), .ref 11])) := K1.1
  have r2 : x_row 0 (.ref (a + 2)) h1 = some (a + 2, (List.range 4).map fun i => nI (tP S i)) := ax_row K1.2.2.1
  have s2 : (s_ast 0 (e_fld 6 2 (e_al 0)) (e_il 1) (e_call m_X4_across [(e_fld 6 6 (e_al 0)), (e_il 2), (e_ald 0 (e_fld 6 2 (e_al 0)) (e_il 1))])) [some (.ref a), some (.int (nI w)), some (.int (nI s))] h1 = some (none, [some (.ref a), some (.int (nI w)), some (.int (nI s))], h1.set (a + 2) (arr 4 (upd (fun i => nI (tP S i)) w (nI (pX P s (tP S w)))))) := by
    simp (disch := omega) only [x_out, s_seq, s_ite, s_ret, s_retZ, s_retV, s_iasg, s_aasg, s_lasg, s_inc, s_put, s_putop, s_ast, s_astop, s_exp, s_call, s_skip, s_brk, s_cont, s_oinit, e_lit, e_long, e_il, e_al, e_ll, e_bin, e_un, e_fld, e_ald, e_tern, e_call, e_alen, b_cmp, b_cmp0, b_lcmp, b_and, b_or, b_not, o_add, o_sub, o_mul, o_and, o_or, o_xor, o_shl, o_shr, o_neg, o_i2l, o_l2i, o_i2c, r_eq, r_ne, r_lt, r_ge, r_gt, r_le, r_eq0, r_ne0, r_lt0, r_ge0, r_gt0, r_le0, x_fld, x_int, x_ref, x_long, x_args, x_nar, xKd, xst1, xst2, xlg, Option.bind_some, Option.bind_none, Option.map_some, Option.map_none, List.getElem?_cons_zero, List.getElem?_cons_succ, List.set_cons_zero, List.set_cons_succ, List.length_cons, List.length_nil, List.length_map, List.length_range, List.length_set, decide_eq_true_eq, if_true, if_false, reduceIte, reduceCtorEq, Bool.not_true, Bool.not_false, Bool.false_eq_true, x_ix_nI, ax_get, ax_set, e_aald, s_aast, true_and, and_true, ite_true, ite_false, ↓bI_01, bI_eq0, bI_eq1, bool_or, tern_pure, and_pure, or_pure, bI_def, bne_t, ndf, decide_not, Bool.decide_eq_true, Bool.decide_and, Bool.decide_or, Nat.reduceEqDiff, Nat.reduceAdd, Nat.reduceMul, Nat.reduceSub, Nat.reduceLT, Nat.reduceLeDiff, or_false, false_or, or_true, true_or, and_false, false_and, Bool.or_eq_true, Bool.and_eq_true, Bool.or_false, Bool.or_true, Bool.true_or, Bool.false_or, Bool.and_true, Bool.and_false, Bool.true_and, Bool.false_and, decide_true, decide_false, not_true_eq_false, not_false_eq_true, k0, r2, e2, ax_def]
  have K2 := K1.setP (f := upd (fun i => nI (tP S i)) w (nI (pX P s (tP S w)))) (g := fun i => if i = w then pX P s (tP S w) else tP S i) (fun i hi => by unfold upd; split <;> rfl)
  have F2 : xFr (sCells a) h1 (h1.set (a + 2) (arr 4 (upd (fun i => nI (tP S i)) w (nI (pX P s (tP S w)))))) := (xFr.set K1.2.2.1 (by simp [arr, xSz])).mono (fun b hb => by subst hb; exact ⟨by omega, by omega⟩)
  generalize h1.set (a + 2) (arr 4 (upd (fun i => nI (tP S i)) w (nI (pX P s (tP S w))))) = h2 at s2 K2 F2
  have F2 := (F1.trans F2).mono (J := sCells a) (fun b hb => hb.elim id id)
  -- the latest
  have k0 : h2[a]? = some (.inl (6, [.int (tT S), .ref (a + 1), .ref (a + 2), .ref (a + 3), .ref (a + 4), .ref (a + 5), .ref 11])) := K2.1
  have r4 : x_row 0 (.ref (a + 4)) h2 = some (a + 4, (List.range 4).map (tL S)) := ax_row K2.2.2.2.2.1
  have s3 : (s_ast 0 (e_fld 6 4 (e_al 0)) (e_il 1) (e_il 2)) [some (.ref a), some (.int (nI w)), some (.int (nI s))] h2 = some (none, [some (.ref a), some (.int (nI w)), some (.int (nI s))], h2.set (a + 4) (arr 4 (upd (tL S) w (nI s)))) := by
    simp (disch := omega) only [x_out, s_seq, s_ite, s_ret, s_retZ, s_retV, s_iasg, s_aasg, s_lasg, s_inc, s_put, s_putop, s_ast, s_astop, s_exp, s_call, s_skip, s_brk, s_cont, s_oinit, e_lit, e_long, e_il, e_al, e_ll, e_bin, e_un, e_fld, e_ald, e_tern, e_call, e_alen, b_cmp, b_cmp0, b_lcmp, b_and, b_or, b_not, o_add, o_sub, o_mul, o_and, o_or, o_xor, o_shl, o_shr, o_neg, o_i2l, o_l2i, o_i2c, r_eq, r_ne, r_lt, r_ge, r_gt, r_le, r_eq0, r_ne0, r_lt0, r_ge0, r_gt0, r_le0, x_fld, x_int, x_ref, x_long, x_args, x_nar, xKd, xst1, xst2, xlg, Option.bind_some, Option.bind_none, Option.map_some, Option.map_none, List.getElem?_cons_zero, List.getElem?_cons_succ, List.set_cons_zero, List.set_cons_succ, List.length_cons, List.length_nil, List.length_map, List.length_range, List.length_set, decide_eq_true_eq, if_true, if_false, reduceIte, reduceCtorEq, Bool.not_true, Bool.not_false, Bool.false_eq_true, x_ix_nI, ax_get, ax_set, e_aald, s_aast, true_and, and_true, ite_true, ite_false, ↓bI_01, bI_eq0, bI_eq1, bool_or, tern_pure, and_pure, or_pure, bI_def, bne_t, ndf, decide_not, Bool.decide_eq_true, Bool.decide_and, Bool.decide_or, Nat.reduceEqDiff, Nat.reduceAdd, Nat.reduceMul, Nat.reduceSub, Nat.reduceLT, Nat.reduceLeDiff, or_false, false_or, or_true, true_or, and_false, false_and, Bool.or_eq_true, Bool.and_eq_true, Bool.or_false, Bool.or_true, Bool.true_or, Bool.false_or, Bool.and_true, Bool.and_false, Bool.true_and, Bool.false_and, decide_true, decide_false, not_true_eq_false, not_false_eq_true, k0, r4, ax_def]
  have K3 := K2.setL (f := upd (tL S) w (nI s)) (g := fun i => if i = w then nI s else tL S i) (fun i hi => by unfold upd; rfl)
  have F3 : xFr (sCells a) h2 (h2.set (a + 4) (arr 4 (upd (tL S) w (nI s)))) := (xFr.set K2.2.2.2.2.1 (by simp [arr, xSz])).mono (fun b hb => by subst hb; exact ⟨by omega, by omega⟩)
  generalize h2.set (a + 4) (arr 4 (upd (tL S) w (nI s))) = h3 at s3 K3 F3
  have F3 := (F2.trans F3).mono (J := sCells a) (fun b hb => hb.elim id id)
  -- the credit
  have HP3 := keep h3 F3
  have e4 := gainOf_x HP3 O hw hs
  have k0 : h3[a]? = some (.inl (6, [.int (tT S), .ref (a + 1), .ref (a + 2), .ref (a + 3), .ref (a + 4), .ref (a + 5), .ref 11])) := K3.1
  have r3 : x_row 0 (.ref (a + 3)) h3 = some (a + 3, (List.range 4).map (tC S)) := ax_row K3.2.2.2.1
  have s4 : (s_astop o_add (e_fld 6 3 (e_al 0)) (e_il 1) (e_call m_X4_gainOf [(e_fld 6 6 (e_al 0)), (e_il 1), (e_il 2)])) [some (.ref a), some (.int (nI w)), some (.int (nI s))] h3 = some (none, [some (.ref a), some (.int (nI w)), some (.int (nI s))], h3.set (a + 3) (arr 4 (upd (tC S) w (tC S w + nI (pG P w s))))) := by
    simp (disch := omega) only [x_out, s_seq, s_ite, s_ret, s_retZ, s_retV, s_iasg, s_aasg, s_lasg, s_inc, s_put, s_putop, s_ast, s_astop, s_exp, s_call, s_skip, s_brk, s_cont, s_oinit, e_lit, e_long, e_il, e_al, e_ll, e_bin, e_un, e_fld, e_ald, e_tern, e_call, e_alen, b_cmp, b_cmp0, b_lcmp, b_and, b_or, b_not, o_add, o_sub, o_mul, o_and, o_or, o_xor, o_shl, o_shr, o_neg, o_i2l, o_l2i, o_i2c, r_eq, r_ne, r_lt, r_ge, r_gt, r_le, r_eq0, r_ne0, r_lt0, r_ge0, r_gt0, r_le0, x_fld, x_int, x_ref, x_long, x_args, x_nar, xKd, xst1, xst2, xlg, Option.bind_some, Option.bind_none, Option.map_some, Option.map_none, List.getElem?_cons_zero, List.getElem?_cons_succ, List.set_cons_zero, List.set_cons_succ, List.length_cons, List.length_nil, List.length_map, List.length_range, List.length_set, decide_eq_true_eq, if_true, if_false, reduceIte, reduceCtorEq, Bool.not_true, Bool.not_false, Bool.false_eq_true, x_ix_nI, ax_get, ax_set, e_aald, s_aast, true_and, and_true, ite_true, ite_false, ↓bI_01, bI_eq0, bI_eq1, bool_or, tern_pure, and_pure, or_pure, bI_def, bne_t, ndf, decide_not, Bool.decide_eq_true, Bool.decide_and, Bool.decide_or, Nat.reduceEqDiff, Nat.reduceAdd, Nat.reduceMul, Nat.reduceSub, Nat.reduceLT, Nat.reduceLeDiff, or_false, false_or, or_true, true_or, and_false, false_and, Bool.or_eq_true, Bool.and_eq_true, Bool.or_false, Bool.or_true, Bool.true_or, Bool.false_or, Bool.and_true, Bool.and_false, Bool.true_and, Bool.false_and, decide_true, decide_false, not_true_eq_false, not_false_eq_true, k0, r3, e4, ax_def]
    rw [if_pos (by omega)]
  have K4 := K3.setC (f := upd (tC S) w (tC S w + nI (pG P w s))) (g := fun i => if i = w then tC S w + nI (pG P w s) else tC S i) (fun i hi => by unfold upd; rfl)
  have F4 : xFr (sCells a) h3 (h3.set (a + 3) (arr 4 (upd (tC S) w (tC S w + nI (pG P w s))))) := (xFr.set K3.2.2.2.1 (by simp [arr, xSz])).mono (fun b hb => by subst hb; exact ⟨by omega, by omega⟩)
  generalize h3.set (a + 3) (arr 4 (upd (tC S) w (tC S w + nI (pG P w s)))) = h4 at s4 K4 F4
  have F4 := (F3.trans F4).mono (J := sCells a) (fun b hb => hb.elim id id)
  -- the wear
  have HP4 := keep h4 F4
  have e5 := wearOf_x HP4 O hw hs
  have hpw : pW P w s < 2 ^ 20 := by
    obtain ⟨u1, u2, u3, u4⟩ := O.2.2.2.2.2.2.2 w hw
    unfold pW
    split
    · decide
    · split <;> split <;> omega
  have k0 : h4[a]? = some (.inl (6, [.int (tT S), .ref (a + 1), .ref (a + 2), .ref (a + 3), .ref (a + 4), .ref (a + 5), .ref 11])) := K4.1
  obtain ⟨h5, e6, K5, F5⟩ := wearBy_x K4 (s := s) (k := pW P w s) t1 (by omega) hpw
  have s5 : (s_call m_X6_wearBy [(e_al 0), (e_il 2), (e_call m_X4_wearOf [(e_fld 6 6 (e_al 0)), (e_il 1), (e_il 2)])]) [some (.ref a), some (.int (nI w)), some (.int (nI s))] h4 = some (none, [some (.ref a), some (.int (nI w)), some (.int (nI s))], h5) := by
    simp (disch := omega) only [x_out, s_seq, s_ite, s_ret, s_retZ, s_retV, s_iasg, s_aasg, s_lasg, s_inc, s_put, s_putop, s_ast, s_astop, s_exp, s_call, s_skip, s_brk, s_cont, s_oinit, e_lit, e_long, e_il, e_al, e_ll, e_bin, e_un, e_fld, e_ald, e_tern, e_call, e_alen, b_cmp, b_cmp0, b_lcmp, b_and, b_or, b_not, o_add, o_sub, o_mul, o_and, o_or, o_xor, o_shl, o_shr, o_neg, o_i2l, o_l2i, o_i2c, r_eq, r_ne, r_lt, r_ge, r_gt, r_le, r_eq0, r_ne0, r_lt0, r_ge0, r_gt0, r_le0, x_fld, x_int, x_ref, x_long, x_args, x_nar, xKd, xst1, xst2, xlg, Option.bind_some, Option.bind_none, Option.map_some, Option.map_none, List.getElem?_cons_zero, List.getElem?_cons_succ, List.set_cons_zero, List.set_cons_succ, List.length_cons, List.length_nil, List.length_map, List.length_range, List.length_set, decide_eq_true_eq, if_true, if_false, reduceIte, reduceCtorEq, Bool.not_true, Bool.not_false, Bool.false_eq_true, x_ix_nI, ax_get, ax_set, e_aald, s_aast, true_and, and_true, ite_true, ite_false, ↓bI_01, bI_eq0, bI_eq1, bool_or, tern_pure, and_pure, or_pure, bI_def, bne_t, ndf, decide_not, Bool.decide_eq_true, Bool.decide_and, Bool.decide_or, Nat.reduceEqDiff, Nat.reduceAdd, Nat.reduceMul, Nat.reduceSub, Nat.reduceLT, Nat.reduceLeDiff, or_false, false_or, or_true, true_or, and_false, false_and, Bool.or_eq_true, Bool.and_eq_true, Bool.or_false, Bool.or_true, Bool.true_or, Bool.false_or, Bool.and_true, Bool.and_false, Bool.true_and, Bool.false_and, decide_true, decide_false, not_true_eq_false, not_false_eq_true, k0, e5, e6]
  have F5 := (F4.trans F5).mono (J := sCells a) (fun b hb => hb.elim id id)
  have k0 : h5[a]? = some (.inl (6, [.int (tT S), .ref (a + 1), .ref (a + 2), .ref (a + 3), .ref (a + 4), .ref (a + 5), .ref 11])) := K5.1
  have s6 : (s_putop 6 0 o_add (e_al 0) (e_lit 1)) [some (.ref a), some (.int (nI w)), some (.int (nI s))] h5 = some (none, [some (.ref a), some (.int (nI w)), some (.int (nI s))], h5.set a (.inl (6, [.int (tT S + 1), .ref (a + 1), .ref (a + 2), .ref (a + 3), .ref (a + 4), .ref (a + 5), .ref 11]))) := by
    simp (disch := omega) only [s_putop, x_out, s_seq, s_ite, s_ret, s_retZ, s_retV, s_iasg, s_aasg, s_lasg, s_inc, s_put, s_putop, s_ast, s_astop, s_exp, s_call, s_skip, s_brk, s_cont, s_oinit, e_lit, e_long, e_il, e_al, e_ll, e_bin, e_un, e_fld, e_ald, e_tern, e_call, e_alen, b_cmp, b_cmp0, b_lcmp, b_and, b_or, b_not, o_add, o_sub, o_mul, o_and, o_or, o_xor, o_shl, o_shr, o_neg, o_i2l, o_l2i, o_i2c, r_eq, r_ne, r_lt, r_ge, r_gt, r_le, r_eq0, r_ne0, r_lt0, r_ge0, r_gt0, r_le0, x_fld, x_int, x_ref, x_long, x_args, x_nar, xKd, xst1, xst2, xlg, Option.bind_some, Option.bind_none, Option.map_some, Option.map_none, List.getElem?_cons_zero, List.getElem?_cons_succ, List.set_cons_zero, List.set_cons_succ, List.length_cons, List.length_nil, List.length_map, List.length_range, List.length_set, decide_eq_true_eq, if_true, if_false, reduceIte, reduceCtorEq, Bool.not_true, Bool.not_false, Bool.false_eq_true, x_ix_nI, ax_get, ax_set, e_aald, s_aast, true_and, and_true, ite_true, ite_false, ↓bI_01, bI_eq0, bI_eq1, bool_or, tern_pure, and_pure, or_pure, bI_def, bne_t, ndf, decide_not, Bool.decide_eq_true, Bool.decide_and, Bool.decide_or, Nat.reduceEqDiff, Nat.reduceAdd, Nat.reduceMul, Nat.reduceSub, Nat.reduceLT, Nat.reduceLeDiff, or_false, false_or, or_true, true_or, and_false, false_and, Bool.or_eq_true, Bool.and_eq_true, Bool.or_false, Bool.or_true, Bool.true_or, Bool.false_or, Bool.and_true, Bool.and_false, Bool.true_and, Bool.false_and, decide_true, decide_false, not_true_eq_false, not_false_eq_true, k0]
  have K6 := K5.setT (tT S + 1)
  have F6 : xFr (sCells a) h5 (h5.set a (.inl (6, [.int (tT S + 1), .ref (a + 1), .ref (a + 2), .ref (a + 3), .ref (a + 4), .ref (a + 5), .ref 11]))) := (xFr.set k0 (by rfl)).mono (J := sCells a) (fun b hb => by subst hb; exact ⟨by omega, by omega⟩)
  refine ⟨_, ?_, K6, (F5.trans F6).mono (fun b hb => hb.elim id id)⟩
  refine xM_run (env := [some (.ref a), some (.int (nI w)), some (.int (nI s))]) h0 rfl rfl (Nat.le_of_ble_eq_true rfl) rfl ?_ rfl
  simp only [bd_X6_goOver, s_seq, s1, s2, s3, s4, s5, s6, s_retV, Option.bind_some, x_out, Option.map_some]
end ST3
