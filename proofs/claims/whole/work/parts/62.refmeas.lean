/-! the reference: bits; measuring -/
def b1 (c : Bool) : Nat := if c = true then 1 else 0
theorem has_all : ∀ n : Nat, n < 512 → ∀ k : Nat, k < 9 → ((nI n >>> (nI k &&& 31)) &&& 1) = nI (b1 (n.testBit k)) := by decide +kernel
theorem has_x (h : XH) {n k : Nat} (hn : n < 512) (hk : k < 9) : m_X10_has [.int (nI n), .int (nI k)] h = some (some (.int (bI (n.testBit k))), h) := by
  have e := has_all n hn k hk
  refine xMS_run (env := [some (.int (nI n)), some (.int (nI k))]) rfl (Nat.le_of_ble_eq_true rfl) rfl ?_ rfl
  cases q : n.testBit k <;> (rw [q] at e; simp only [bd_X10_has, x_out, s_seq, s_ite, s_ret, s_retZ, s_retV, s_iasg, s_aasg, s_lasg, s_inc, s_put, s_putop, s_ast, s_astop, s_exp, s_call, s_skip, s_brk, s_cont, s_oinit, e_lit, e_long, e_il, e_al, e_ll, e_bin, e_un, e_fld, e_ald, e_tern, e_call, e_alen, b_cmp, b_cmp0, b_lcmp, b_and, b_or, b_not, o_add, o_sub, o_mul, o_and, o_or, o_xor, o_shl, o_shr, o_neg, o_i2l, o_l2i, o_i2c, r_eq, r_ne, r_lt, r_ge, r_gt, r_le, r_eq0, r_ne0, r_lt0, r_ge0, r_gt0, r_le0, x_fld, x_int, x_ref, x_long, x_args, x_nar, xKd, xst1, xst2, xlg, Option.bind_some, Option.bind_none, Option.map_some, Option.map_none, List.getElem?_cons_zero, List.getElem?_cons_succ, List.set_cons_zero, List.set_cons_succ, List.length_cons, List.length_nil, List.length_map, List.length_range, List.length_set, decide_eq_true_eq, if_true, if_false, reduceIte, reduceCtorEq, Bool.not_true, Bool.not_false, Bool.false_eq_true, x_ix_nI, ax_get, ax_set, e_aald, s_aast, true_and, and_true, ite_true, ite_false, ↓bI_01, bI_eq0, bI_eq1, bool_or, tern_pure, and_pure, or_pure, bI_def, bne_t, ndf, decide_not, Bool.decide_eq_true, Bool.decide_and, Bool.decide_or, Nat.reduceEqDiff, Nat.reduceAdd, Nat.reduceMul, Nat.reduceSub, Nat.reduceLT, Nat.reduceLeDiff, or_false, false_or, or_true, true_or, and_false, false_and, Bool.or_eq_true, Bool.and_eq_true, Bool.or_false, Bool.or_true, Bool.true_or, Bool.false_or, Bool.and_true, Bool.and_false, Bool.true_and, Bool.false_and, decide_true, decide_false, not_true_eq_false, not_false_eq_true, e]) <;> rfl
theorem ones_x (h : XH) {n : Nat} (hn : n < 512) : m_X10_ones [.int (nI n)] h = some (some (.int (nI (pop n))), h) := by
  have hl := s_loop_run (c := lc_X10_ones_1) (a := la_X10_ones_1) (u := lu_X10_ones_1) (fun i => ([some (.int (nI n)), some (.int (nI (cnt (fun k => n.testBit k) i))), some (.int (nI i))], h)) (none, [some (.int (nI n)), some (.int (nI (cnt (fun k => n.testBit k) 9))), some (.int (nI 9))], h) 9 1000 (by omega)
    (fun i hi => by
      have e := has_all n hn i hi
      have st : cnt (fun k => n.testBit k) (i + 1) = cnt (fun k => n.testBit k) i + b1 (n.testBit i) := rfl
      simp (disch := omega) only [lc_X10_ones_1, la_X10_ones_1, lu_X10_ones_1, s_step, x_out, s_seq, s_ite, s_ret, s_retZ, s_retV, s_iasg, s_aasg, s_lasg, s_inc, s_put, s_putop, s_ast, s_astop, s_exp, s_call, s_skip, s_brk, s_cont, s_oinit, e_lit, e_long, e_il, e_al, e_ll, e_bin, e_un, e_fld, e_ald, e_tern, e_call, e_alen, b_cmp, b_cmp0, b_lcmp, b_and, b_or, b_not, o_add, o_sub, o_mul, o_and, o_or, o_xor, o_shl, o_shr, o_neg, o_i2l, o_l2i, o_i2c, r_eq, r_ne, r_lt, r_ge, r_gt, r_le, r_eq0, r_ne0, r_lt0, r_ge0, r_gt0, r_le0, x_fld, x_int, x_ref, x_long, x_args, x_nar, xKd, xst1, xst2, xlg, Option.bind_some, Option.bind_none, Option.map_some, Option.map_none, List.getElem?_cons_zero, List.getElem?_cons_succ, List.set_cons_zero, List.set_cons_succ, List.length_cons, List.length_nil, List.length_map, List.length_range, List.length_set, decide_eq_true_eq, if_true, if_false, reduceIte, reduceCtorEq, Bool.not_true, Bool.not_false, Bool.false_eq_true, x_ix_nI, ax_get, ax_set, e_aald, s_aast, true_and, and_true, ite_true, ite_false, ↓bI_01, bI_eq0, bI_eq1, bool_or, tern_pure, and_pure, or_pure, bI_def, bne_t, ndf, decide_not, Bool.decide_eq_true, Bool.decide_and, Bool.decide_or, Nat.reduceEqDiff, Nat.reduceAdd, Nat.reduceMul, Nat.reduceSub, Nat.reduceLT, Nat.reduceLeDiff, or_false, false_or, or_true, true_or, and_false, false_and, Bool.or_eq_true, Bool.and_eq_true, Bool.or_false, Bool.or_true, Bool.true_or, Bool.false_or, Bool.and_true, Bool.and_false, Bool.true_and, Bool.false_and, decide_true, decide_false, not_true_eq_false, not_false_eq_true, l9, nI_ltI, nI_1, hi, e, nI_add, st])
    (by simp (disch := omega) only [lc_X10_ones_1, la_X10_ones_1, lu_X10_ones_1, s_step, x_out, s_seq, s_ite, s_ret, s_retZ, s_retV, s_iasg, s_aasg, s_lasg, s_inc, s_put, s_putop, s_ast, s_astop, s_exp, s_call, s_skip, s_brk, s_cont, s_oinit, e_lit, e_long, e_il, e_al, e_ll, e_bin, e_un, e_fld, e_ald, e_tern, e_call, e_alen, b_cmp, b_cmp0, b_lcmp, b_and, b_or, b_not, o_add, o_sub, o_mul, o_and, o_or, o_xor, o_shl, o_shr, o_neg, o_i2l, o_l2i, o_i2c, r_eq, r_ne, r_lt, r_ge, r_gt, r_le, r_eq0, r_ne0, r_lt0, r_ge0, r_gt0, r_le0, x_fld, x_int, x_ref, x_long, x_args, x_nar, xKd, xst1, xst2, xlg, Option.bind_some, Option.bind_none, Option.map_some, Option.map_none, List.getElem?_cons_zero, List.getElem?_cons_succ, List.set_cons_zero, List.set_cons_succ, List.length_cons, List.length_nil, List.length_map, List.length_range, List.length_set, decide_eq_true_eq, if_true, if_false, reduceIte, reduceCtorEq, Bool.not_true, Bool.not_false, Bool.false_eq_true, x_ix_nI, ax_get, ax_set, e_aald, s_aast, true_and, and_true, ite_true, ite_false, ↓bI_01, bI_eq0, bI_eq1, bool_or, tern_pure, and_pure, or_pure, bI_def, bne_t, ndf, decide_not, Bool.decide_eq_true, Bool.decide_and, Bool.decide_or, Nat.reduceEqDiff, Nat.reduceAdd, Nat.reduceMul, Nat.reduceSub, Nat.reduceLT, Nat.reduceLeDiff, or_false, false_or, or_true, true_or, and_false, false_and, Bool.or_eq_true, Bool.and_eq_true, Bool.or_false, Bool.or_true, Bool.true_or, Bool.false_or, Bool.and_true, Bool.and_false, Bool.true_and, Bool.false_and, decide_true, decide_false, not_true_eq_false, not_false_eq_true, l9, nI_ltI, nI_1, Nat.lt_irrefl])
  simp only [cnt, nI_0] at hl
  refine xMS_run (env := [some (.int (nI n)), none, none]) rfl (Nat.le_of_ble_eq_true rfl) rfl ?_ rfl
  simp (disch := omega) only [bd_X10_ones, x_out, s_seq, s_ite, s_ret, s_retZ, s_retV, s_iasg, s_aasg, s_lasg, s_inc, s_put, s_putop, s_ast, s_astop, s_exp, s_call, s_skip, s_brk, s_cont, s_oinit, e_lit, e_long, e_il, e_al, e_ll, e_bin, e_un, e_fld, e_ald, e_tern, e_call, e_alen, b_cmp, b_cmp0, b_lcmp, b_and, b_or, b_not, o_add, o_sub, o_mul, o_and, o_or, o_xor, o_shl, o_shr, o_neg, o_i2l, o_l2i, o_i2c, r_eq, r_ne, r_lt, r_ge, r_gt, r_le, r_eq0, r_ne0, r_lt0, r_ge0, r_gt0, r_le0, x_fld, x_int, x_ref, x_long, x_args, x_nar, xKd, xst1, xst2, xlg, Option.bind_some, Option.bind_none, Option.map_some, Option.map_none, List.getElem?_cons_zero, List.getElem?_cons_succ, List.set_cons_zero, List.set_cons_succ, List.length_cons, List.length_nil, List.length_map, List.length_range, List.length_set, decide_eq_true_eq, if_true, if_false, reduceIte, reduceCtorEq, Bool.not_true, Bool.not_false, Bool.false_eq_true, x_ix_nI, ax_get, ax_set, e_aald, s_aast, true_and, and_true, ite_true, ite_false, ↓bI_01, bI_eq0, bI_eq1, bool_or, tern_pure, and_pure, or_pure, bI_def, bne_t, ndf, decide_not, Bool.decide_eq_true, Bool.decide_and, Bool.decide_or, Nat.reduceEqDiff, Nat.reduceAdd, Nat.reduceMul, Nat.reduceSub, Nat.reduceLT, Nat.reduceLeDiff, or_false, false_or, or_true, true_or, and_false, false_and, Bool.or_eq_true, Bool.and_eq_true, Bool.or_false, Bool.or_true, Bool.true_or, Bool.false_or, Bool.and_true, Bool.and_false, Bool.true_and, Bool.false_and, decide_true, decide_false, not_true_eq_false, not_false_eq_true, hl]
  rfl
theorem mk_land {p : Nat → Bool} {n set : Nat} : (mk p n &&& set = 0) ↔ ∀ s, s < n → (p s && set.testBit s) = false := by
  constructor
  · intro h s hs
    have := congrArg (fun x => x.testBit s) h
    simp only [Nat.testBit_and, mk_bit hs, Nat.zero_testBit] at this
    exact this
  · intro h
    apply Nat.eq_of_testBit_eq
    intro k
    rw [Nat.testBit_and, mk_tb, Nat.zero_testBit]
    by_cases q : k < n
    · have := h k q
      simp [q, this]
    · simp [q]
theorem find_isNone_iff {p : Nat → Bool} {n : Nat} : ((List.range n).find? p).isNone = true ↔ ∀ i, i < n → p i = false := by
  constructor
  · intro h i hi
    cases hf : (List.range n).find? p with
    | none => exact find_none hf i hi
    | some k => rw [hf] at h; cases h
  · intro h
    cases hf : (List.range n).find? p with
    | none => rfl
    | some k =>
      obtain ⟨g1, g2, -⟩ := find_some hf
      rw [h k g1] at g2
      cases g2
section MM
variable {h : XH} {Y : XSy} {c : Nat} {P : XP} {S : XT} {f : Nat → Int32}
theorem meets_r (V : RV h P f) (O : POK P) (B : Bk f 0 P S) (T : TOK P c S) (hc : c ≤ 1000) {w set : Nat} (hw : w < pM P) (hs : set < 512) : m_X10_meets [.ref 106, .int (nI w), .int (nI set)] h = some (some (.int (bI (meT P S set w))), h) := by
  obtain ⟨⟨q, k, sn, tx, z, h0⟩, hr, -⟩ := id V
  have h0 : h[106]? = some (.inl (10, _)) := h0
  obtain ⟨xf0, xf1, xf2, xf3, xf4, xf5, xf6, xf7, xf8, xf9, xf10, xf11, xf12, xf13, xf14, xf15, xf16, xf17, xf18, xf19, xf20, xf21, xf22, xf23, xf24, xf25, xf26, xf27⟩ := rfs h0
  have o5 := O.2.2.2.2.1
  have o6 := O.2.2.2.2.2.1
  have rw := ax_row hr
  have lv := isLevel_r V O B T hc hw
  have hl := s_loop_run (c := lc_X10_meets_1) (a := la_X10_meets_1) (u := lu_X10_meets_1) (fun i => ([some (.ref 106), some (.int (nI w)), some (.int (nI set)), some (.int (bI (sLv P S w || !((List.range i).find? fun s => sUn S w s && set.testBit s).isNone))), some (.int (nI i))], h)) (none, [some (.ref 106), some (.int (nI w)), some (.int (nI set)), some (.int (bI (sLv P S w || !((List.range (pN P)).find? fun s => sUn S w s && set.testBit s).isNone))), some (.int (nI (pN P)))], h) (pN P) 1000 (by omega)
    (fun i hi => by
      have b1 := B.2.2.2.2.2 w hw i hi
      rw [Nat.zero_add] at b1
      have t3 := T.2.2 (9 * w + i) (by omega)
      have e3 := oI_eq0 (x := tA S (9 * w + i)) (by omega) (by omega)
      have hlt : 22 + 9 * w + i < 696 := by omega
      have hs1 := has_x h hs (k := i) (by omega)
      have st := find_isNone (p := fun s => sUn S w s && set.testBit s) (n := i)
      generalize ((List.range (i + 1)).find? fun s => sUn S w s && set.testBit s).isNone = x' at st ⊢
      generalize ((List.range i).find? fun s => sUn S w s && set.testBit s).isNone = x at st ⊢
      have su : sUn S w i = decide (¬ tA S (9 * w + i) = 0) := rfl
      generalize sLv P S w = lvl at *
      generalize set.testBit i = tb at *
      have c1 : lc_X10_meets_1 [some (.ref 106), some (.int (nI w)), some (.int (nI set)), some (.int (bI (lvl || !x))), some (.int (nI i))] h = some (true, h) := by
        simp (disch := omega) only [lc_X10_meets_1, x_out, s_seq, s_ite, s_ret, s_retZ, s_retV, s_iasg, s_aasg, s_lasg, s_inc, s_put, s_putop, s_ast, s_astop, s_exp, s_call, s_skip, s_brk, s_cont, s_oinit, e_lit, e_long, e_il, e_al, e_ll, e_bin, e_un, e_fld, e_ald, e_tern, e_call, e_alen, b_cmp, b_cmp0, b_lcmp, b_and, b_or, b_not, o_add, o_sub, o_mul, o_and, o_or, o_xor, o_shl, o_shr, o_neg, o_i2l, o_l2i, o_i2c, r_eq, r_ne, r_lt, r_ge, r_gt, r_le, r_eq0, r_ne0, r_lt0, r_ge0, r_gt0, r_le0, x_int, x_ref, x_long, x_args, x_nar, xKd, xst1, xst2, xlg, Option.bind_some, Option.bind_none, Option.map_some, Option.map_none, List.getElem?_cons_zero, List.getElem?_cons_succ, List.set_cons_zero, List.set_cons_succ, List.length_cons, List.length_nil, List.length_map, List.length_range, List.length_set, decide_eq_true_eq, if_true, if_false, reduceIte, reduceCtorEq, Bool.not_true, Bool.not_false, Bool.false_eq_true, x_ix_nI, ax_get, ax_set, e_aald, s_aast, true_and, and_true, ite_true, ite_false, ↓bI_01, bI_eq0, bI_eq1, bool_or, tern_pure, and_pure, or_pure, bI_def, bne_t, ndf, decide_not, Bool.decide_eq_true, Bool.decide_and, Bool.decide_or, Nat.reduceEqDiff, Nat.reduceAdd, Nat.reduceMul, Nat.reduceSub, Nat.reduceLT, Nat.reduceLeDiff, or_false, false_or, or_true, true_or, and_false, false_and, Bool.or_eq_true, Bool.and_eq_true, Bool.or_false, Bool.or_true, Bool.true_or, Bool.false_or, Bool.and_true, Bool.and_false, Bool.true_and, Bool.false_and, decide_true, decide_false, not_true_eq_false, not_false_eq_true, xf0, xf1, xf2, xf3, xf4, xf5, xf6, xf7, xf8, xf9, xf10, xf11, xf12, xf13, xf14, xf15, xf16, xf17, xf18, xf19, xf20, xf21, xf22, xf23, xf24, xf25, xf26, xf27, nI_ltI, hi]
      have c2 : (b_or (b_cmp0 r_ne0 (e_il 3)) (b_and (b_cmp0 r_ne0 (e_call m_X10_has [(e_il 2), (e_il 4)])) (b_cmp0 r_ne0 (e_ald 0 (e_fld 10 0 (e_al 0)) (e_bin o_add (e_bin o_add (e_lit 22) (e_bin o_mul (e_lit 9) (e_il 1))) (e_il 4)))))) [some (.ref 106), some (.int (nI w)), some (.int (nI set)), some (.int (bI (lvl || !x))), some (.int (nI i))] h = some ((lvl || !x) || (tb && decide (¬ tA S (9 * w + i) = 0)), h) :=
        b_or_p (by cases lvl <;> cases x <;> simp only [x_out, s_seq, s_ite, s_ret, s_retZ, s_retV, s_iasg, s_aasg, s_lasg, s_inc, s_put, s_putop, s_ast, s_astop, s_exp, s_call, s_skip, s_brk, s_cont, s_oinit, e_lit, e_long, e_il, e_al, e_ll, e_bin, e_un, e_fld, e_ald, e_tern, e_call, e_alen, b_cmp, b_cmp0, b_lcmp, b_and, b_or, b_not, o_add, o_sub, o_mul, o_and, o_or, o_xor, o_shl, o_shr, o_neg, o_i2l, o_l2i, o_i2c, r_eq, r_ne, r_lt, r_ge, r_gt, r_le, r_eq0, r_ne0, r_lt0, r_ge0, r_gt0, r_le0, x_int, x_ref, x_long, x_args, x_nar, xKd, xst1, xst2, xlg, Option.bind_some, Option.bind_none, Option.map_some, Option.map_none, List.getElem?_cons_zero, List.getElem?_cons_succ, List.set_cons_zero, List.set_cons_succ, List.length_cons, List.length_nil, List.length_map, List.length_range, List.length_set, decide_eq_true_eq, if_true, if_false, reduceIte, reduceCtorEq, Bool.not_true, Bool.not_false, Bool.false_eq_true, x_ix_nI, ax_get, ax_set, e_aald, s_aast, true_and, and_true, ite_true, ite_false, ↓bI_01, bI_eq0, bI_eq1, bool_or, tern_pure, and_pure, or_pure, bI_def, bne_t, ndf, decide_not, Bool.decide_eq_true, Bool.decide_and, Bool.decide_or, Nat.reduceEqDiff, Nat.reduceAdd, Nat.reduceMul, Nat.reduceSub, Nat.reduceLT, Nat.reduceLeDiff, or_false, false_or, or_true, true_or, and_false, false_and, Bool.or_eq_true, Bool.and_eq_true, Bool.or_false, Bool.or_true, Bool.true_or, Bool.false_or, Bool.and_true, Bool.and_false, Bool.true_and, Bool.false_and, decide_true, decide_false, not_true_eq_false, not_false_eq_true, xf0, xf1, xf2, xf3, xf4, xf5, xf6, xf7, xf8, xf9, xf10, xf11, xf12, xf13, xf14, xf15, xf16, xf17, xf18, xf19, xf20, xf21, xf22, xf23, xf24, xf25, xf26, xf27] <;> rfl) (fun _ => b_and_p (by simp (disch := omega) only [x_out, s_seq, s_ite, s_ret, s_retZ, s_retV, s_iasg, s_aasg, s_lasg, s_inc, s_put, s_putop, s_ast, s_astop, s_exp, s_call, s_skip, s_brk, s_cont, s_oinit, e_lit, e_long, e_il, e_al, e_ll, e_bin, e_un, e_fld, e_ald, e_tern, e_call, e_alen, b_cmp, b_cmp0, b_lcmp, b_and, b_or, b_not, o_add, o_sub, o_mul, o_and, o_or, o_xor, o_shl, o_shr, o_neg, o_i2l, o_l2i, o_i2c, r_eq, r_ne, r_lt, r_ge, r_gt, r_le, r_eq0, r_ne0, r_lt0, r_ge0, r_gt0, r_le0, x_int, x_ref, x_long, x_args, x_nar, xKd, xst1, xst2, xlg, Option.bind_some, Option.bind_none, Option.map_some, Option.map_none, List.getElem?_cons_zero, List.getElem?_cons_succ, List.set_cons_zero, List.set_cons_succ, List.length_cons, List.length_nil, List.length_map, List.length_range, List.length_set, decide_eq_true_eq, if_true, if_false, reduceIte, reduceCtorEq, Bool.not_true, Bool.not_false, Bool.false_eq_true, x_ix_nI, ax_get, ax_set, e_aald, s_aast, true_and, and_true, ite_true, ite_false, ↓bI_01, bI_eq0, bI_eq1, bool_or, tern_pure, and_pure, or_pure, bI_def, bne_t, ndf, decide_not, Bool.decide_eq_true, Bool.decide_and, Bool.decide_or, Nat.reduceEqDiff, Nat.reduceAdd, Nat.reduceMul, Nat.reduceSub, Nat.reduceLT, Nat.reduceLeDiff, or_false, false_or, or_true, true_or, and_false, false_and, Bool.or_eq_true, Bool.and_eq_true, Bool.or_false, Bool.or_true, Bool.true_or, Bool.false_or, Bool.and_true, Bool.and_false, Bool.true_and, Bool.false_and, decide_true, decide_false, not_true_eq_false, not_false_eq_true, xf0, xf1, xf2, xf3, xf4, xf5, xf6, xf7, xf8, xf9, xf10, xf11, xf12, xf13, xf14, xf15, xf16, xf17, xf18, xf19, xf20, xf21, xf22, xf23, xf24, xf25, xf26, xf27, hs1]) (fun _ => by simp (disch := omega) only [x_out, s_seq, s_ite, s_ret, s_retZ, s_retV, s_iasg, s_aasg, s_lasg, s_inc, s_put, s_putop, s_ast, s_astop, s_exp, s_call, s_skip, s_brk, s_cont, s_oinit, e_lit, e_long, e_il, e_al, e_ll, e_bin, e_un, e_fld, e_ald, e_tern, e_call, e_alen, b_cmp, b_cmp0, b_lcmp, b_and, b_or, b_not, o_add, o_sub, o_mul, o_and, o_or, o_xor, o_shl, o_shr, o_neg, o_i2l, o_l2i, o_i2c, r_eq, r_ne, r_lt, r_ge, r_gt, r_le, r_eq0, r_ne0, r_lt0, r_ge0, r_gt0, r_le0, x_int, x_ref, x_long, x_args, x_nar, xKd, xst1, xst2, xlg, Option.bind_some, Option.bind_none, Option.map_some, Option.map_none, List.getElem?_cons_zero, List.getElem?_cons_succ, List.set_cons_zero, List.set_cons_succ, List.length_cons, List.length_nil, List.length_map, List.length_range, List.length_set, decide_eq_true_eq, if_true, if_false, reduceIte, reduceCtorEq, Bool.not_true, Bool.not_false, Bool.false_eq_true, x_ix_nI, ax_get, ax_set, e_aald, s_aast, true_and, and_true, ite_true, ite_false, ↓bI_01, bI_eq0, bI_eq1, bool_or, tern_pure, and_pure, or_pure, bI_def, bne_t, ndf, decide_not, Bool.decide_eq_true, Bool.decide_and, Bool.decide_or, Nat.reduceEqDiff, Nat.reduceAdd, Nat.reduceMul, Nat.reduceSub, Nat.reduceLT, Nat.reduceLeDiff, or_false, false_or, or_true, true_or, and_false, false_and, Bool.or_eq_true, Bool.and_eq_true, Bool.or_false, Bool.or_true, Bool.true_or, Bool.false_or, Bool.and_true, Bool.and_false, Bool.true_and, Bool.false_and, decide_true, decide_false, not_true_eq_false, not_false_eq_true, xf0, xf1, xf2, xf3, xf4, xf5, xf6, xf7, xf8, xf9, xf10, xf11, xf12, xf13, xf14, xf15, xf16, xf17, xf18, xf19, xf20, xf21, xf22, xf23, xf24, xf25, xf26, xf27, l9, l22, nI_m, nI_add, rw, hlt, b1, e3]))
      have ev : ((lvl || !x) || (tb && decide (¬ tA S (9 * w + i) = 0))) = (lvl || !x') := by
        rw [st, su]
        cases lvl <;> cases x <;> cases tb <;> simp
      rw [ev] at c2
      refine s_step_on c1 (env1 := [some (.ref 106), some (.int (nI w)), some (.int (nI set)), some (.int (bI (lvl || !x'))), some (.int (nI i))]) (h1 := h) ?_ ?_
      · unfold la_X10_meets_1
        generalize (lvl || !x') = bb at c2 ⊢
        cases bb <;> simp only [s_iasg, e_tern, c2, Option.bind_some, if_true, Bool.false_eq_true, if_false, e_lit, x_int, xst1] <;> rfl
      · simp only [lu_X10_meets_1, x_out, s_seq, s_ite, s_ret, s_retZ, s_retV, s_iasg, s_aasg, s_lasg, s_inc, s_put, s_putop, s_ast, s_astop, s_exp, s_call, s_skip, s_brk, s_cont, s_oinit, e_lit, e_long, e_il, e_al, e_ll, e_bin, e_un, e_fld, e_ald, e_tern, e_call, e_alen, b_cmp, b_cmp0, b_lcmp, b_and, b_or, b_not, o_add, o_sub, o_mul, o_and, o_or, o_xor, o_shl, o_shr, o_neg, o_i2l, o_l2i, o_i2c, r_eq, r_ne, r_lt, r_ge, r_gt, r_le, r_eq0, r_ne0, r_lt0, r_ge0, r_gt0, r_le0, x_fld, x_int, x_ref, x_long, x_args, x_nar, xKd, xst1, xst2, xlg, Option.bind_some, Option.bind_none, Option.map_some, Option.map_none, List.getElem?_cons_zero, List.getElem?_cons_succ, List.set_cons_zero, List.set_cons_succ, List.length_cons, List.length_nil, List.length_map, List.length_range, List.length_set, decide_eq_true_eq, if_true, if_false, reduceIte, reduceCtorEq, Bool.not_true, Bool.not_false, Bool.false_eq_true, x_ix_nI, ax_get, ax_set, e_aald, s_aast, true_and, and_true, ite_true, ite_false, ↓bI_01, bI_eq0, bI_eq1, bool_or, tern_pure, and_pure, or_pure, bI_def, bne_t, ndf, decide_not, Bool.decide_eq_true, Bool.decide_and, Bool.decide_or, Nat.reduceEqDiff, Nat.reduceAdd, Nat.reduceMul, Nat.reduceSub, Nat.reduceLT, Nat.reduceLeDiff, or_false, false_or, or_true, true_or, and_false, false_and, Bool.or_eq_true, Bool.and_eq_true, Bool.or_false, Bool.or_true, Bool.true_or, Bool.false_or, Bool.and_true, Bool.and_false, Bool.true_and, Bool.false_and, decide_true, decide_false, not_true_eq_false, not_false_eq_true, nI_1])
    (by simp (disch := omega) only [lc_X10_meets_1, la_X10_meets_1, lu_X10_meets_1, s_step, x_out, s_seq, s_ite, s_ret, s_retZ, s_retV, s_iasg, s_aasg, s_lasg, s_inc, s_put, s_putop, s_ast, s_astop, s_exp, s_call, s_skip, s_brk, s_cont, s_oinit, e_lit, e_long, e_il, e_al, e_ll, e_bin, e_un, e_fld, e_ald, e_tern, e_call, e_alen, b_cmp, b_cmp0, b_lcmp, b_and, b_or, b_not, o_add, o_sub, o_mul, o_and, o_or, o_xor, o_shl, o_shr, o_neg, o_i2l, o_l2i, o_i2c, r_eq, r_ne, r_lt, r_ge, r_gt, r_le, r_eq0, r_ne0, r_lt0, r_ge0, r_gt0, r_le0, x_int, x_ref, x_long, x_args, x_nar, xKd, xst1, xst2, xlg, Option.bind_some, Option.bind_none, Option.map_some, Option.map_none, List.getElem?_cons_zero, List.getElem?_cons_succ, List.set_cons_zero, List.set_cons_succ, List.length_cons, List.length_nil, List.length_map, List.length_range, List.length_set, decide_eq_true_eq, if_true, if_false, reduceIte, reduceCtorEq, Bool.not_true, Bool.not_false, Bool.false_eq_true, x_ix_nI, ax_get, ax_set, e_aald, s_aast, true_and, and_true, ite_true, ite_false, ↓bI_01, bI_eq0, bI_eq1, bool_or, tern_pure, and_pure, or_pure, bI_def, bne_t, ndf, decide_not, Bool.decide_eq_true, Bool.decide_and, Bool.decide_or, Nat.reduceEqDiff, Nat.reduceAdd, Nat.reduceMul, Nat.reduceSub, Nat.reduceLT, Nat.reduceLeDiff, or_false, false_or, or_true, true_or, and_false, false_and, Bool.or_eq_true, Bool.and_eq_true, Bool.or_false, Bool.or_true, Bool.true_or, Bool.false_or, Bool.and_true, Bool.and_false, Bool.true_and, Bool.false_and, decide_true, decide_false, not_true_eq_false, not_false_eq_true, xf0, xf1, xf2, xf3, xf4, xf5, xf6, xf7, xf8, xf9, xf10, xf11, xf12, xf13, xf14, xf15, xf16, xf17, xf18, xf19, xf20, xf21, xf22, xf23, xf24, xf25, xf26, xf27, nI_ltI, Nat.lt_irrefl])
  have z1 : (sLv P S w || !((List.range 0).find? fun s => sUn S w s && set.testBit s).isNone) = sLv P S w := by simp
  rw [z1, nI_0] at hl
  have ee : meT P S set w = (sLv P S w || !((List.range (pN P)).find? fun s => sUn S w s && set.testBit s).isNone) := by
    have e2 : decide (mk (sUn S w) (pN P) &&& set = 0) = ((List.range (pN P)).find? fun s => sUn S w s && set.testBit s).isNone := by
      rw [Bool.eq_iff_iff, decide_eq_true_eq, mk_land, find_isNone_iff]
    unfold meT sLv
    rw [e2]
  rw [ee]
  refine xM_run (env := [some (.ref 106), some (.int (nI w)), some (.int (nI set)), none, none]) h0 rfl rfl (Nat.le_of_ble_eq_true rfl) rfl ?_ rfl
  generalize (sLv P S w || !((List.range (pN P)).find? fun s => sUn S w s && set.testBit s).isNone) = bb at hl ⊢
  simp (disch := omega) only [bd_X10_meets, x_out, s_seq, s_ite, s_ret, s_retZ, s_retV, s_iasg, s_aasg, s_lasg, s_inc, s_put, s_putop, s_ast, s_astop, s_exp, s_call, s_skip, s_brk, s_cont, s_oinit, e_lit, e_long, e_il, e_al, e_ll, e_bin, e_un, e_fld, e_ald, e_tern, e_call, e_alen, b_cmp, b_cmp0, b_lcmp, b_and, b_or, b_not, o_add, o_sub, o_mul, o_and, o_or, o_xor, o_shl, o_shr, o_neg, o_i2l, o_l2i, o_i2c, r_eq, r_ne, r_lt, r_ge, r_gt, r_le, r_eq0, r_ne0, r_lt0, r_ge0, r_gt0, r_le0, x_fld, x_int, x_ref, x_long, x_args, x_nar, xKd, xst1, xst2, xlg, Option.bind_some, Option.bind_none, Option.map_some, Option.map_none, List.getElem?_cons_zero, List.getElem?_cons_succ, List.set_cons_zero, List.set_cons_succ, List.length_cons, List.length_nil, List.length_map, List.length_range, List.length_set, decide_eq_true_eq, if_true, if_false, reduceIte, reduceCtorEq, Bool.not_true, Bool.not_false, Bool.false_eq_true, x_ix_nI, ax_get, ax_set, e_aald, s_aast, true_and, and_true, ite_true, ite_false, ↓bI_01, bI_eq0, bI_eq1, bool_or, tern_pure, and_pure, or_pure, bI_def, bne_t, ndf, decide_not, Bool.decide_eq_true, Bool.decide_and, Bool.decide_or, Nat.reduceEqDiff, Nat.reduceAdd, Nat.reduceMul, Nat.reduceSub, Nat.reduceLT, Nat.reduceLeDiff, or_false, false_or, or_true, true_or, and_false, false_and, Bool.or_eq_true, Bool.and_eq_true, Bool.or_false, Bool.or_true, Bool.true_or, Bool.false_or, Bool.and_true, Bool.and_false, Bool.true_and, Bool.false_and, decide_true, decide_false, not_true_eq_false, not_false_eq_true, lv, hl]
/-- the best set so far, none at first -/
def rb (P : XP) (S : XT) : Nat → Option Nat
  | 0 => none
  | n + 1 => if (∀ b, rb P S n = some b → pop n < pop b) ∧ meA P S n = true then some n else rb P S n
theorem rb_lt {P : XP} {S : XT} : ∀ {n b : Nat}, rb P S n = some b → b < n := by
  intro n
  induction n with
  | zero => intro b h; cases h
  | succ n ih =>
    intro b h
    simp only [rb] at h
    split at h
    · cases h; omega
    · have := ih h; omega
theorem measure1_m (V : RV h P f) (O : POK P) (B : Bk f 0 P S) (T : TOK P c S) (hc : c ≤ 1000) {set : Nat} (hs : set < 512) (x1 x2 : Int32) (i0 : Bool) : s_loop 1000 lc_X10_measure_1 la_X10_measure_1 lu_X10_measure_1 [some (.ref 106), some (.int x1), some (.int x2), some (.int (nI set)), some (.int (bI i0)), some (.int 0)] h = some (none, [some (.ref 106), some (.int x1), some (.int x2), some (.int (nI set)), some (.int (bI (i0 && meA P S set))), some (.int (nI (pM P)))], h) := by
  obtain ⟨⟨q, k, sn, tx, z, h0⟩, hr, -⟩ := id V
  have h0 : h[106]? = some (.inl (10, _)) := h0
  obtain ⟨xf0, xf1, xf2, xf3, xf4, xf5, xf6, xf7, xf8, xf9, xf10, xf11, xf12, xf13, xf14, xf15, xf16, xf17, xf18, xf19, xf20, xf21, xf22, xf23, xf24, xf25, xf26, xf27⟩ := rfs h0
  have o6 := O.2.2.2.2.2.1
  have hl := s_loop_run (c := lc_X10_measure_1) (a := la_X10_measure_1) (u := lu_X10_measure_1) (fun i => ([some (.ref 106), some (.int x1), some (.int x2), some (.int (nI set)), some (.int (bI (i0 && ((List.range i).find? fun w => !meT P S set w).isNone))), some (.int (nI i))], h)) (none, [some (.ref 106), some (.int x1), some (.int x2), some (.int (nI set)), some (.int (bI (i0 && ((List.range (pM P)).find? fun w => !meT P S set w).isNone))), some (.int (nI (pM P)))], h) (pM P) 1000 (by omega)
    (fun i hi => by
      have e1 := meets_r V O B T hc hi hs
      have st := find_isNone (p := fun w => !meT P S set w) (n := i)
      generalize ((List.range (i + 1)).find? fun w => !meT P S set w).isNone = x' at st ⊢
      generalize ((List.range i).find? fun w => !meT P S set w).isNone = x at st ⊢
      generalize meT P S set i = tb at *
      have c1 : lc_X10_measure_1 [some (.ref 106), some (.int x1), some (.int x2), some (.int (nI set)), some (.int (bI (i0 && x))), some (.int (nI i))] h = some (true, h) := by
        simp (disch := omega) only [lc_X10_measure_1, x_out, s_seq, s_ite, s_ret, s_retZ, s_retV, s_iasg, s_aasg, s_lasg, s_inc, s_put, s_putop, s_ast, s_astop, s_exp, s_call, s_skip, s_brk, s_cont, s_oinit, e_lit, e_long, e_il, e_al, e_ll, e_bin, e_un, e_fld, e_ald, e_tern, e_call, e_alen, b_cmp, b_cmp0, b_lcmp, b_and, b_or, b_not, o_add, o_sub, o_mul, o_and, o_or, o_xor, o_shl, o_shr, o_neg, o_i2l, o_l2i, o_i2c, r_eq, r_ne, r_lt, r_ge, r_gt, r_le, r_eq0, r_ne0, r_lt0, r_ge0, r_gt0, r_le0, x_int, x_ref, x_long, x_args, x_nar, xKd, xst1, xst2, xlg, Option.bind_some, Option.bind_none, Option.map_some, Option.map_none, List.getElem?_cons_zero, List.getElem?_cons_succ, List.set_cons_zero, List.set_cons_succ, List.length_cons, List.length_nil, List.length_map, List.length_range, List.length_set, decide_eq_true_eq, if_true, if_false, reduceIte, reduceCtorEq, Bool.not_true, Bool.not_false, Bool.false_eq_true, x_ix_nI, ax_get, ax_set, e_aald, s_aast, true_and, and_true, ite_true, ite_false, ↓bI_01, bI_eq0, bI_eq1, bool_or, tern_pure, and_pure, or_pure, bI_def, bne_t, ndf, decide_not, Bool.decide_eq_true, Bool.decide_and, Bool.decide_or, Nat.reduceEqDiff, Nat.reduceAdd, Nat.reduceMul, Nat.reduceSub, Nat.reduceLT, Nat.reduceLeDiff, or_false, false_or, or_true, true_or, and_false, false_and, Bool.or_eq_true, Bool.and_eq_true, Bool.or_false, Bool.or_true, Bool.true_or, Bool.false_or, Bool.and_true, Bool.and_false, Bool.true_and, Bool.false_and, decide_true, decide_false, not_true_eq_false, not_false_eq_true, xf0, xf1, xf2, xf3, xf4, xf5, xf6, xf7, xf8, xf9, xf10, xf11, xf12, xf13, xf14, xf15, xf16, xf17, xf18, xf19, xf20, xf21, xf22, xf23, xf24, xf25, xf26, xf27, nI_ltI, hi]
      have c2 : (b_and (b_cmp0 r_ne0 (e_il 4)) (b_cmp0 r_ne0 (e_call m_X10_meets [(e_al 0), (e_il 5), (e_il 3)]))) [some (.ref 106), some (.int x1), some (.int x2), some (.int (nI set)), some (.int (bI (i0 && x))), some (.int (nI i))] h = some ((i0 && x) && tb, h) :=
        b_and_p (by cases i0 <;> cases x <;> simp only [x_out, s_seq, s_ite, s_ret, s_retZ, s_retV, s_iasg, s_aasg, s_lasg, s_inc, s_put, s_putop, s_ast, s_astop, s_exp, s_call, s_skip, s_brk, s_cont, s_oinit, e_lit, e_long, e_il, e_al, e_ll, e_bin, e_un, e_fld, e_ald, e_tern, e_call, e_alen, b_cmp, b_cmp0, b_lcmp, b_and, b_or, b_not, o_add, o_sub, o_mul, o_and, o_or, o_xor, o_shl, o_shr, o_neg, o_i2l, o_l2i, o_i2c, r_eq, r_ne, r_lt, r_ge, r_gt, r_le, r_eq0, r_ne0, r_lt0, r_ge0, r_gt0, r_le0, x_int, x_ref, x_long, x_args, x_nar, xKd, xst1, xst2, xlg, Option.bind_some, Option.bind_none, Option.map_some, Option.map_none, List.getElem?_cons_zero, List.getElem?_cons_succ, List.set_cons_zero, List.set_cons_succ, List.length_cons, List.length_nil, List.length_map, List.length_range, List.length_set, decide_eq_true_eq, if_true, if_false, reduceIte, reduceCtorEq, Bool.not_true, Bool.not_false, Bool.false_eq_true, x_ix_nI, ax_get, ax_set, e_aald, s_aast, true_and, and_true, ite_true, ite_false, ↓bI_01, bI_eq0, bI_eq1, bool_or, tern_pure, and_pure, or_pure, bI_def, bne_t, ndf, decide_not, Bool.decide_eq_true, Bool.decide_and, Bool.decide_or, Nat.reduceEqDiff, Nat.reduceAdd, Nat.reduceMul, Nat.reduceSub, Nat.reduceLT, Nat.reduceLeDiff, or_false, false_or, or_true, true_or, and_false, false_and, Bool.or_eq_true, Bool.and_eq_true, Bool.or_false, Bool.or_true, Bool.true_or, Bool.false_or, Bool.and_true, Bool.and_false, Bool.true_and, Bool.false_and, decide_true, decide_false, not_true_eq_false, not_false_eq_true, xf0, xf1, xf2, xf3, xf4, xf5, xf6, xf7, xf8, xf9, xf10, xf11, xf12, xf13, xf14, xf15, xf16, xf17, xf18, xf19, xf20, xf21, xf22, xf23, xf24, xf25, xf26, xf27] <;> rfl) (fun _ => by simp only [x_out, s_seq, s_ite, s_ret, s_retZ, s_retV, s_iasg, s_aasg, s_lasg, s_inc, s_put, s_putop, s_ast, s_astop, s_exp, s_call, s_skip, s_brk, s_cont, s_oinit, e_lit, e_long, e_il, e_al, e_ll, e_bin, e_un, e_fld, e_ald, e_tern, e_call, e_alen, b_cmp, b_cmp0, b_lcmp, b_and, b_or, b_not, o_add, o_sub, o_mul, o_and, o_or, o_xor, o_shl, o_shr, o_neg, o_i2l, o_l2i, o_i2c, r_eq, r_ne, r_lt, r_ge, r_gt, r_le, r_eq0, r_ne0, r_lt0, r_ge0, r_gt0, r_le0, x_fld, x_int, x_ref, x_long, x_args, x_nar, xKd, xst1, xst2, xlg, Option.bind_some, Option.bind_none, Option.map_some, Option.map_none, List.getElem?_cons_zero, List.getElem?_cons_succ, List.set_cons_zero, List.set_cons_succ, List.length_cons, List.length_nil, List.length_map, List.length_range, List.length_set, decide_eq_true_eq, if_true, if_false, reduceIte, reduceCtorEq, Bool.not_true, Bool.not_false, Bool.false_eq_true, x_ix_nI, ax_get, ax_set, e_aald, s_aast, true_and, and_true, ite_true, ite_false, ↓bI_01, bI_eq0, bI_eq1, bool_or, tern_pure, and_pure, or_pure, bI_def, bne_t, ndf, decide_not, Bool.decide_eq_true, Bool.decide_and, Bool.decide_or, Nat.reduceEqDiff, Nat.reduceAdd, Nat.reduceMul, Nat.reduceSub, Nat.reduceLT, Nat.reduceLeDiff, or_false, false_or, or_true, true_or, and_false, false_and, Bool.or_eq_true, Bool.and_eq_true, Bool.or_false, Bool.or_true, Bool.true_or, Bool.false_or, Bool.and_true, Bool.and_false, Bool.true_and, Bool.false_and, decide_true, decide_false, not_true_eq_false, not_false_eq_true, e1])
      have ev : ((i0 && x) && tb) = (i0 && x') := by
        rw [st]
        cases i0 <;> cases x <;> cases tb <;> rfl
      rw [ev] at c2
      refine s_step_on c1 (env1 := [some (.ref 106), some (.int x1), some (.int x2), some (.int (nI set)), some (.int (bI (i0 && x'))), some (.int (nI i))]) (h1 := h) ?_ ?_
      · unfold la_X10_measure_1
        generalize (i0 && x') = bb at c2 ⊢
        cases bb <;> simp only [s_iasg, e_tern, c2, Option.bind_some, if_true, Bool.false_eq_true, if_false, e_lit, x_int, xst1] <;> rfl
      · simp only [lu_X10_measure_1, x_out, s_seq, s_ite, s_ret, s_retZ, s_retV, s_iasg, s_aasg, s_lasg, s_inc, s_put, s_putop, s_ast, s_astop, s_exp, s_call, s_skip, s_brk, s_cont, s_oinit, e_lit, e_long, e_il, e_al, e_ll, e_bin, e_un, e_fld, e_ald, e_tern, e_call, e_alen, b_cmp, b_cmp0, b_lcmp, b_and, b_or, b_not, o_add, o_sub, o_mul, o_and, o_or, o_xor, o_shl, o_shr, o_neg, o_i2l, o_l2i, o_i2c, r_eq, r_ne, r_lt, r_ge, r_gt, r_le, r_eq0, r_ne0, r_lt0, r_ge0, r_gt0, r_le0, x_fld, x_int, x_ref, x_long, x_args, x_nar, xKd, xst1, xst2, xlg, Option.bind_some, Option.bind_none, Option.map_some, Option.map_none, List.getElem?_cons_zero, List.getElem?_cons_succ, List.set_cons_zero, List.set_cons_succ, List.length_cons, List.length_nil, List.length_map, List.length_range, List.length_set, decide_eq_true_eq, if_true, if_false, reduceIte, reduceCtorEq, Bool.not_true, Bool.not_false, Bool.false_eq_true, x_ix_nI, ax_get, ax_set, e_aald, s_aast, true_and, and_true, ite_true, ite_false, ↓bI_01, bI_eq0, bI_eq1, bool_or, tern_pure, and_pure, or_pure, bI_def, bne_t, ndf, decide_not, Bool.decide_eq_true, Bool.decide_and, Bool.decide_or, Nat.reduceEqDiff, Nat.reduceAdd, Nat.reduceMul, Nat.reduceSub, Nat.reduceLT, Nat.reduceLeDiff, or_false, false_or, or_true, true_or, and_false, false_and, Bool.or_eq_true, Bool.and_eq_true, Bool.or_false, Bool.or_true, Bool.true_or, Bool.false_or, Bool.and_true, Bool.and_false, Bool.true_and, Bool.false_and, decide_true, decide_false, not_true_eq_false, not_false_eq_true, nI_1])
    (by simp (disch := omega) only [lc_X10_measure_1, la_X10_measure_1, lu_X10_measure_1, s_step, x_out, s_seq, s_ite, s_ret, s_retZ, s_retV, s_iasg, s_aasg, s_lasg, s_inc, s_put, s_putop, s_ast, s_astop, s_exp, s_call, s_skip, s_brk, s_cont, s_oinit, e_lit, e_long, e_il, e_al, e_ll, e_bin, e_un, e_fld, e_ald, e_tern, e_call, e_alen, b_cmp, b_cmp0, b_lcmp, b_and, b_or, b_not, o_add, o_sub, o_mul, o_and, o_or, o_xor, o_shl, o_shr, o_neg, o_i2l, o_l2i, o_i2c, r_eq, r_ne, r_lt, r_ge, r_gt, r_le, r_eq0, r_ne0, r_lt0, r_ge0, r_gt0, r_le0, x_int, x_ref, x_long, x_args, x_nar, xKd, xst1, xst2, xlg, Option.bind_some, Option.bind_none, Option.map_some, Option.map_none, List.getElem?_cons_zero, List.getElem?_cons_succ, List.set_cons_zero, List.set_cons_succ, List.length_cons, List.length_nil, List.length_map, List.length_range, List.length_set, decide_eq_true_eq, if_true, if_false, reduceIte, reduceCtorEq, Bool.not_true, Bool.not_false, Bool.false_eq_true, x_ix_nI, ax_get, ax_set, e_aald, s_aast, true_and, and_true, ite_true, ite_false, ↓bI_01, bI_eq0, bI_eq1, bool_or, tern_pure, and_pure, or_pure, bI_def, bne_t, ndf, decide_not, Bool.decide_eq_true, Bool.decide_and, Bool.decide_or, Nat.reduceEqDiff, Nat.reduceAdd, Nat.reduceMul, Nat.reduceSub, Nat.reduceLT, Nat.reduceLeDiff, or_false, false_or, or_true, true_or, and_false, false_and, Bool.or_eq_true, Bool.and_eq_true, Bool.or_false, Bool.or_true, Bool.true_or, Bool.false_or, Bool.and_true, Bool.and_false, Bool.true_and, Bool.false_and, decide_true, decide_false, not_true_eq_false, not_false_eq_true, xf0, xf1, xf2, xf3, xf4, xf5, xf6, xf7, xf8, xf9, xf10, xf11, xf12, xf13, xf14, xf15, xf16, xf17, xf18, xf19, xf20, xf21, xf22, xf23, xf24, xf25, xf26, xf27, nI_ltI, Nat.lt_irrefl])
  have z1 : (i0 && ((List.range 0).find? fun w => !meT P S set w).isNone) = i0 := by simp
  rw [z1, nI_0] at hl
  exact hl
theorem cnt_full {p : Nat → Bool} : ∀ {n : Nat}, cnt p n = n → ∀ i, i < n → p i = true := by
  intro n
  induction n with
  | zero => intro _ i hi; omega
  | succ n ih =>
    intro h i hi
    simp only [cnt] at h
    have := cnt_le p n
    cases e : p n with
    | false => rw [e] at h; simp at h; omega
    | true =>
      rw [e] at h
      simp at h
      by_cases q : i = n
      · subst q; exact e
      · exact ih h i (by omega)
theorem mk_top (n : Nat) : mk (fun _ => true) n = 2 ^ n - 1 := by
  induction n with
  | zero => rfl
  | succ n ih =>
    have : 0 < 2 ^ n := Nat.pow_pos (by decide)
    simp only [mk, ih, if_true, Nat.pow_succ]
    omega
theorem cnt_true (n : Nat) : cnt (fun _ => true) n = n := by
  induction n with
  | zero => rfl
  | succ n ih => simp [cnt, ih]
theorem pop_top {n : Nat} (hn : n ≤ 9) : pop (2 ^ n - 1) = n := by
  rw [← mk_top, pop_mk hn, cnt_true]
theorem pop_lt2 {n i : Nat} (hn : n ≤ 9) (hi : i < 2 ^ n) : pop i = cnt (fun k => i.testBit k) n := by
  have := pop_mk (p := fun k => i.testBit k) hn
  rw [mk_self hi] at this
  exact this
theorem pop_less {n i : Nat} (hn : n ≤ 9) (hi : i < 2 ^ n - 1) : pop i < n := by
  rw [pop_lt2 hn (by omega)]
  have hle := cnt_le (fun k => i.testBit k) n
  have : cnt (fun k => i.testBit k) n ≠ n := fun h => by
    have h2 := cnt_full h
    have h3 : mk (fun k => i.testBit k) n = mk (fun _ => true) n := mk_congr h2
    rw [mk_self (by omega), mk_top] at h3
    omega
  omega
theorem meA_top {P : XP} {S : XT} : meA P S (2 ^ pN P - 1) = true := by
  unfold meA
  rw [find_isNone_iff]
  intro w hw
  unfold meT
  by_cases q : mk (sUn S w) (pN P) = 0
  · simp [q]
  · have : ¬ (mk (sUn S w) (pN P) &&& (2 ^ pN P - 1) = 0) := by
      rw [Nat.and_two_pow_sub_one_eq_mod, Nat.mod_eq_of_lt (mk_lt _ _)]
      exact q
    rw [decide_eq_false q, decide_eq_false this]
    rfl
theorem rb_eq {P : XP} {S : XT} (h9 : pN P ≤ 9) : rb P S (2 ^ pN P) = some (meB P S (2 ^ pN P)) := by
  have hp : 0 < 2 ^ pN P := Nat.pow_pos (by decide)
  have key : ∀ n, n ≤ 2 ^ pN P - 1 → (rb P S n = none ∧ meB P S n = 2 ^ pN P - 1) ∨ ∃ b, rb P S n = some b ∧ meB P S n = b ∧ b < 2 ^ pN P - 1 := by
    intro n
    induction n with
    | zero => intro _; exact Or.inl ⟨rfl, rfl⟩
    | succ n ih =>
      intro hn
      have e1 : rb P S (n + 1) = if (∀ b, rb P S n = some b → pop n < pop b) ∧ meA P S n = true then some n else rb P S n := rfl
      have e2 : meB P S (n + 1) = if pop n < pop (meB P S n) ∧ meA P S n = true then n else meB P S n := rfl
      rw [e1, e2]
      rcases ih (by omega) with ⟨i1, i2⟩ | ⟨b, i1, i2, i3⟩
      · rw [i1, i2, pop_top h9]
        have := pop_less h9 (i := n) (by omega)
        by_cases q : meA P S n = true
        · rw [if_pos ⟨fun b hb => (by cases hb), q⟩, if_pos ⟨this, q⟩]
          exact Or.inr ⟨n, rfl, rfl, by omega⟩
        · rw [if_neg (fun z => q z.2), if_neg (fun z => q z.2)]
          exact Or.inl ⟨rfl, rfl⟩
      · rw [i1, i2]
        by_cases q : pop n < pop b ∧ meA P S n = true
        · rw [if_pos ⟨fun b' hb => (by cases hb; exact q.1), q.2⟩, if_pos q]
          exact Or.inr ⟨n, rfl, rfl, by omega⟩
        · rw [if_neg (fun z => q ⟨z.1 b rfl, z.2⟩), if_neg q]
          exact Or.inr ⟨b, rfl, rfl, i3⟩
  obtain ⟨m, hm⟩ : ∃ m, 2 ^ pN P = m + 1 := ⟨2 ^ pN P - 1, by omega⟩
  have e1 : rb P S (m + 1) = if (∀ b, rb P S m = some b → pop m < pop b) ∧ meA P S m = true then some m else rb P S m := rfl
  have e2 : meB P S (m + 1) = if pop m < pop (meB P S m) ∧ meA P S m = true then m else meB P S m := rfl
  have hm2 : m = 2 ^ pN P - 1 := by omega
  have tp : meA P S m = true := by rw [hm2]; exact meA_top
  have pt : pop m = pN P := by rw [hm2]; exact pop_top h9
  rw [hm, e1, e2]
  rcases key m (by omega) with ⟨i1, i2⟩ | ⟨b, i1, i2, i3⟩
  · rw [i1, i2, ← hm2, if_pos ⟨fun b hb => (by cases hb), tp⟩, if_neg (fun z => absurd z.1 (Nat.lt_irrefl _))]
  · have := pop_less h9 (i := b) i3
    rw [i1, i2, if_neg (fun z => by have := z.1 b rfl; omega), if_neg (fun z => by have := z.1; omega)]
theorem shl1b : ∀ n : Nat, n < 10 → ((1 : Int32) <<< (nI n &&& 31)) = nI (2 ^ n) := by decide +kernel
theorem me_s1 {on : XF} {k : XH} {best : Option Nat} {i u : Nat} {v4 v5 : Option Value} (o1 : on [.int (nI i)] k = some (some (.int (nI (pop i))), k)) (o2 : ∀ b, best = some b → on [.int (nI b)] k = some (some (.int (nI (pop b))), k)) (hb : ∀ b, best = some b → b < 1000) : (s_iasg 4 (e_tern (b_or (b_cmp r_eq (e_il 2) (e_lit (-4))) (b_cmp r_lt (e_call on [(e_il 3)]) (e_call on [(e_il 2)]))) (e_lit 1) (e_lit 0))) [some (.ref 106), some (.int (nI u)), some (.int (oI best)), some (.int (nI i)), v4, v5] k = some (none, [some (.ref 106), some (.int (nI u)), some (.int (oI best)), some (.int (nI i)), some (.int (bI (decide (∀ b, best = some b → pop i < pop b)))), v5], k) := by
  have c1 : (b_or (b_cmp r_eq (e_il 2) (e_lit (-4))) (b_cmp r_lt (e_call on [(e_il 3)]) (e_call on [(e_il 2)]))) [some (.ref 106), some (.int (nI u)), some (.int (oI best)), some (.int (nI i)), v4, v5] k = some (decide (∀ b, best = some b → pop i < pop b), k) := by
    cases best with
    | none =>
      have y1 : (b_cmp r_eq (e_il 2) (e_lit (-4))) [some (.ref 106), some (.int (nI u)), some (.int (oI none)), some (.int (nI i)), v4, v5] k = some (true, k) := by
        simp [b_cmp, e_il, e_lit, oI, r_eq, x_int]
      have := b_or_p (b := b_cmp r_lt (e_call on [(e_il 3)]) (e_call on [(e_il 2)])) (y := true) y1 (fun z => by cases z)
      rw [this, decide_eq_true (fun b hb => by cases hb)]
      rfl
    | some b =>
      have m4 := nI_m4 b (hb b rfl)
      have p1 := pop_le i
      have p2 := pop_le b
      have lt := nI_ltI (a := pop i) (b := pop b) (by omega) (by omega)
      have y1 : (b_cmp r_eq (e_il 2) (e_lit (-4))) [some (.ref 106), some (.int (nI u)), some (.int (oI (some b))), some (.int (nI i)), v4, v5] k = some (false, k) := by
        simp [b_cmp, e_il, e_lit, oI, r_eq, x_int, m4]
      have d1 : (e_call on [(e_il 3)]) [some (.ref 106), some (.int (nI u)), some (.int (oI (some b))), some (.int (nI i)), v4, v5] k = some (.int (nI (pop i)), k) := by
        simp only [x_out, s_seq, s_ite, s_ret, s_retZ, s_retV, s_iasg, s_aasg, s_lasg, s_inc, s_put, s_putop, s_ast, s_astop, s_exp, s_call, s_skip, s_brk, s_cont, s_oinit, e_lit, e_long, e_il, e_al, e_ll, e_bin, e_un, e_fld, e_ald, e_tern, e_call, e_alen, b_cmp, b_cmp0, b_lcmp, b_and, b_or, b_not, o_add, o_sub, o_mul, o_and, o_or, o_xor, o_shl, o_shr, o_neg, o_i2l, o_l2i, o_i2c, r_eq, r_ne, r_lt, r_ge, r_gt, r_le, r_eq0, r_ne0, r_lt0, r_ge0, r_gt0, r_le0, x_fld, x_int, x_ref, x_long, x_args, x_nar, xKd, xst1, xst2, xlg, Option.bind_some, Option.bind_none, Option.map_some, Option.map_none, List.getElem?_cons_zero, List.getElem?_cons_succ, List.set_cons_zero, List.set_cons_succ, List.length_cons, List.length_nil, List.length_map, List.length_range, List.length_set, decide_eq_true_eq, if_true, if_false, reduceIte, reduceCtorEq, Bool.not_true, Bool.not_false, Bool.false_eq_true, x_ix_nI, ax_get, ax_set, e_aald, s_aast, true_and, and_true, ite_true, ite_false, ↓bI_01, bI_eq0, bI_eq1, bool_or, tern_pure, and_pure, or_pure, bI_def, bne_t, ndf, decide_not, Bool.decide_eq_true, Bool.decide_and, Bool.decide_or, Nat.reduceEqDiff, Nat.reduceAdd, Nat.reduceMul, Nat.reduceSub, Nat.reduceLT, Nat.reduceLeDiff, or_false, false_or, or_true, true_or, and_false, false_and, Bool.or_eq_true, Bool.and_eq_true, Bool.or_false, Bool.or_true, Bool.true_or, Bool.false_or, Bool.and_true, Bool.and_false, Bool.true_and, Bool.false_and, decide_true, decide_false, not_true_eq_false, not_false_eq_true, o1]
      have d2 : (e_call on [(e_il 2)]) [some (.ref 106), some (.int (nI u)), some (.int (oI (some b))), some (.int (nI i)), v4, v5] k = some (.int (nI (pop b)), k) := by
        have := o2 b rfl
        simp only [x_out, s_seq, s_ite, s_ret, s_retZ, s_retV, s_iasg, s_aasg, s_lasg, s_inc, s_put, s_putop, s_ast, s_astop, s_exp, s_call, s_skip, s_brk, s_cont, s_oinit, e_lit, e_long, e_il, e_al, e_ll, e_bin, e_un, e_fld, e_ald, e_tern, e_call, e_alen, b_cmp, b_cmp0, b_lcmp, b_and, b_or, b_not, o_add, o_sub, o_mul, o_and, o_or, o_xor, o_shl, o_shr, o_neg, o_i2l, o_l2i, o_i2c, r_eq, r_ne, r_lt, r_ge, r_gt, r_le, r_eq0, r_ne0, r_lt0, r_ge0, r_gt0, r_le0, x_fld, x_int, x_ref, x_long, x_args, x_nar, xKd, xst1, xst2, xlg, Option.bind_some, Option.bind_none, Option.map_some, Option.map_none, List.getElem?_cons_zero, List.getElem?_cons_succ, List.set_cons_zero, List.set_cons_succ, List.length_cons, List.length_nil, List.length_map, List.length_range, List.length_set, decide_eq_true_eq, if_true, if_false, reduceIte, reduceCtorEq, Bool.not_true, Bool.not_false, Bool.false_eq_true, x_ix_nI, ax_get, ax_set, e_aald, s_aast, true_and, and_true, ite_true, ite_false, ↓bI_01, bI_eq0, bI_eq1, bool_or, tern_pure, and_pure, or_pure, bI_def, bne_t, ndf, decide_not, Bool.decide_eq_true, Bool.decide_and, Bool.decide_or, Nat.reduceEqDiff, Nat.reduceAdd, Nat.reduceMul, Nat.reduceSub, Nat.reduceLT, Nat.reduceLeDiff, or_false, false_or, or_true, true_or, and_false, false_and, Bool.or_eq_true, Bool.and_eq_true, Bool.or_false, Bool.or_true, Bool.true_or, Bool.false_or, Bool.and_true, Bool.and_false, Bool.true_and, Bool.false_and, decide_true, decide_false, not_true_eq_false, not_false_eq_true, oI, this]
      have y2 : (b_cmp r_lt (e_call on [(e_il 3)]) (e_call on [(e_il 2)])) [some (.ref 106), some (.int (nI u)), some (.int (oI (some b))), some (.int (nI i)), v4, v5] k = some (decide (pop i < pop b), k) := by
        simp only [b_cmp, d1, d2, Option.bind_some, Option.map_some, x_int, r_lt, lt]
      have := b_or_p y1 (fun _ => y2)
      rw [this, Bool.false_or]
      congr 2
      apply decide_eq_decide.mpr
      exact ⟨fun q b' hb' => (by cases hb'; exact q), fun q => q b rfl⟩
  generalize decide (∀ b, best = some b → pop i < pop b) = bb at c1 ⊢
  cases bb <;> simp only [s_iasg, e_tern, c1, Option.bind_some, if_true, Bool.false_eq_true, if_false, e_lit, x_int] <;> rfl
theorem measure_m (H : RAt h Y) (K : YOK c Y) (v : Int32) : m_X10_measure [.ref 106, .int v] h = some (some (.int (aMeasure Y v)), h) := by
  have O := K.2.1
  have T := K.2.2.1
  have o5 := O.2.2.2.2.1
  obtain ⟨f, V, W⟩ := H.view
  obtain ⟨-, ⟨z, h0⟩, -⟩ := id H
  have h0 : h[106]? = some (.inl (10, _)) := h0
  have e1 := in_1 h v
  have h2n : 2 ^ pN (yP Y) ≤ 512 := Nat.le_trans (Nat.pow_le_pow_right (by decide) o5) (by decide)
  unfold aMeasure
  rcases inR_cases v (n := 2) (by omega) with q3 | ⟨u, hu, rfl, q3⟩
  · refine xM_run (env := [some (.ref 106), some (.int v), none, none, none, none]) h0 rfl rfl (Nat.le_of_ble_eq_true rfl) rfl ?_ rfl
    simp (disch := omega) only [bd_X10_measure, x_out, s_seq, s_ite, s_ret, s_retZ, s_retV, s_iasg, s_aasg, s_lasg, s_inc, s_put, s_putop, s_ast, s_astop, s_exp, s_call, s_skip, s_brk, s_cont, s_oinit, e_lit, e_long, e_il, e_al, e_ll, e_bin, e_un, e_fld, e_ald, e_tern, e_call, e_alen, b_cmp, b_cmp0, b_lcmp, b_and, b_or, b_not, o_add, o_sub, o_mul, o_and, o_or, o_xor, o_shl, o_shr, o_neg, o_i2l, o_l2i, o_i2c, r_eq, r_ne, r_lt, r_ge, r_gt, r_le, r_eq0, r_ne0, r_lt0, r_ge0, r_gt0, r_le0, x_fld, x_int, x_ref, x_long, x_args, x_nar, xKd, xst1, xst2, xlg, Option.bind_some, Option.bind_none, Option.map_some, Option.map_none, List.getElem?_cons_zero, List.getElem?_cons_succ, List.set_cons_zero, List.set_cons_succ, List.length_cons, List.length_nil, List.length_map, List.length_range, List.length_set, decide_eq_true_eq, if_true, if_false, reduceIte, reduceCtorEq, Bool.not_true, Bool.not_false, Bool.false_eq_true, x_ix_nI, ax_get, ax_set, e_aald, s_aast, true_and, and_true, ite_true, ite_false, ↓bI_01, bI_eq0, bI_eq1, bool_or, tern_pure, and_pure, or_pure, bI_def, bne_t, ndf, decide_not, Bool.decide_eq_true, Bool.decide_and, Bool.decide_or, Nat.reduceEqDiff, Nat.reduceAdd, Nat.reduceMul, Nat.reduceSub, Nat.reduceLT, Nat.reduceLeDiff, or_false, false_or, or_true, true_or, and_false, false_and, Bool.or_eq_true, Bool.and_eq_true, Bool.or_false, Bool.or_true, Bool.true_or, Bool.false_or, Bool.and_true, Bool.and_false, Bool.true_and, Bool.false_and, decide_true, decide_false, not_true_eq_false, not_false_eq_true, e1, q3, bI_f, if_true]
  · obtain ⟨env9, h9, e9, ⟨v4, v5, rfl⟩, rfl⟩ := s_loop_J (c := lc_X10_measure_2) (a := la_X10_measure_2) (u := lu_X10_measure_2) (h := h) (env := [some (.ref 106), some (.int (nI u)), some (.int (oI none)), some (.int (nI 0)), none, none]) (fun i env g => (∃ v4 v5, env = [some (.ref 106), some (.int (nI u)), some (.int (oI (rb (yP Y) (yS Y) i))), some (.int (nI i)), v4, v5]) ∧ g = h) (2 ^ pN (yP Y)) 1000 (by omega) ⟨⟨none, none, rfl⟩, rfl⟩
      (fun i env k hi hJ => by
        obtain ⟨⟨v4, v5, rfl⟩, rfl⟩ := hJ
        have hi5 : i < 512 := by omega
        have hb := fun b (e : rb (yP Y) (yS Y) i = some b) => rb_lt e
        have st : rb (yP Y) (yS Y) (i + 1) = if (∀ b, rb (yP Y) (yS Y) i = some b → pop i < pop b) ∧ meA (yP Y) (yS Y) i = true then some i else rb (yP Y) (yS Y) i := rfl
        generalize rb (yP Y) (yS Y) i = best at hb st ⊢
        generalize rb (yP Y) (yS Y) (i + 1) = best' at st ⊢
        have in1 := measure1_m V O W.1 T K.1 hi5 (nI u) (oI best)
        have c0 : lc_X10_measure_2 [some (.ref 106), some (.int (nI u)), some (.int (oI best)), some (.int (nI i)), v4, v5] k = some (true, k) := by
          have sh := shl1b (pN (yP Y)) (by omega)
          obtain ⟨xf0, xf1, xf2, xf3, xf4, xf5, xf6, xf7, xf8, xf9, xf10, xf11, xf12, xf13, xf14, xf15, xf16, xf17, xf18, xf19, xf20, xf21, xf22, xf23, xf24, xf25, xf26, xf27⟩ := rfs h0
          simp (disch := omega) only [lc_X10_measure_2, x_out, s_seq, s_ite, s_ret, s_retZ, s_retV, s_iasg, s_aasg, s_lasg, s_inc, s_put, s_putop, s_ast, s_astop, s_exp, s_call, s_skip, s_brk, s_cont, s_oinit, e_lit, e_long, e_il, e_al, e_ll, e_bin, e_un, e_fld, e_ald, e_tern, e_call, e_alen, b_cmp, b_cmp0, b_lcmp, b_and, b_or, b_not, o_add, o_sub, o_mul, o_and, o_or, o_xor, o_shl, o_shr, o_neg, o_i2l, o_l2i, o_i2c, r_eq, r_ne, r_lt, r_ge, r_gt, r_le, r_eq0, r_ne0, r_lt0, r_ge0, r_gt0, r_le0, x_int, x_ref, x_long, x_args, x_nar, xKd, xst1, xst2, xlg, Option.bind_some, Option.bind_none, Option.map_some, Option.map_none, List.getElem?_cons_zero, List.getElem?_cons_succ, List.set_cons_zero, List.set_cons_succ, List.length_cons, List.length_nil, List.length_map, List.length_range, List.length_set, decide_eq_true_eq, if_true, if_false, reduceIte, reduceCtorEq, Bool.not_true, Bool.not_false, Bool.false_eq_true, x_ix_nI, ax_get, ax_set, e_aald, s_aast, true_and, and_true, ite_true, ite_false, ↓bI_01, bI_eq0, bI_eq1, bool_or, tern_pure, and_pure, or_pure, bI_def, bne_t, ndf, decide_not, Bool.decide_eq_true, Bool.decide_and, Bool.decide_or, Nat.reduceEqDiff, Nat.reduceAdd, Nat.reduceMul, Nat.reduceSub, Nat.reduceLT, Nat.reduceLeDiff, or_false, false_or, or_true, true_or, and_false, false_and, Bool.or_eq_true, Bool.and_eq_true, Bool.or_false, Bool.or_true, Bool.true_or, Bool.false_or, Bool.and_true, Bool.and_false, Bool.true_and, Bool.false_and, decide_true, decide_false, not_true_eq_false, not_false_eq_true, xf0, xf1, xf2, xf3, xf4, xf5, xf6, xf7, xf8, xf9, xf10, xf11, xf12, xf13, xf14, xf15, xf16, xf17, xf18, xf19, xf20, xf21, xf22, xf23, xf24, xf25, xf26, xf27, sh, nI_ltI, hi]
        refine ⟨[some (.ref 106), some (.int (nI u)), some (.int (oI best')), some (.int (nI (i + 1))), some (.int (bI (decide (∀ b, best = some b → pop i < pop b) && meA (yP Y) (yS Y) i))), some (.int (nI (pM (yP Y))))], k, s_step_on c0 (env1 := [some (.ref 106), some (.int (nI u)), some (.int (oI best')), some (.int (nI i)), some (.int (bI (decide (∀ b, best = some b → pop i < pop b) && meA (yP Y) (yS Y) i))), some (.int (nI (pM (yP Y))))]) (h1 := k) ?_ ?_, ⟨_, _, rfl⟩, rfl⟩
        · unfold la_X10_measure_2
          have s1 := me_s1 (on := m_X10_ones) (u := u) (v4 := v4) (v5 := v5) (ones_x k hi5) (fun b e => ones_x k (by have := hb b e; omega)) (fun b e => by have := hb b e; omega)
          rw [s_seq_n s1, s_seq_n (show (s_iasg 5 (e_lit 0)) _ k = some (none, [some (.ref 106), some (.int (nI u)), some (.int (oI best)), some (.int (nI i)), some (.int (bI (decide (∀ b, best = some b → pop i < pop b)))), some (.int 0)], k) from rfl), s_seq_n (in1 _)]
          have bq : best' = if (decide (∀ b, best = some b → pop i < pop b) && meA (yP Y) (yS Y) i) = true then some i else best := by
            rw [st]
            by_cases q : (∀ b, best = some b → pop i < pop b) ∧ meA (yP Y) (yS Y) i = true
            · rw [if_pos q, if_pos (by rw [decide_eq_true q.1, q.2]; rfl)]
            · rw [if_neg q, if_neg (fun z => by
                rw [Bool.and_eq_true, decide_eq_true_eq] at z
                exact q z)]
          rw [bq]
          generalize (decide (∀ b, best = some b → pop i < pop b) && meA (yP Y) (yS Y) i) = bb
          cases bb <;> simp only [x_out, s_seq, s_ite, s_ret, s_retZ, s_retV, s_iasg, s_aasg, s_lasg, s_inc, s_put, s_putop, s_ast, s_astop, s_exp, s_call, s_skip, s_brk, s_cont, s_oinit, e_lit, e_long, e_il, e_al, e_ll, e_bin, e_un, e_fld, e_ald, e_tern, e_call, e_alen, b_cmp, b_cmp0, b_lcmp, b_and, b_or, b_not, o_add, o_sub, o_mul, o_and, o_or, o_xor, o_shl, o_shr, o_neg, o_i2l, o_l2i, o_i2c, r_eq, r_ne, r_lt, r_ge, r_gt, r_le, r_eq0, r_ne0, r_lt0, r_ge0, r_gt0, r_le0, x_fld, x_int, x_ref, x_long, x_args, x_nar, xKd, xst1, xst2, xlg, Option.bind_some, Option.bind_none, Option.map_some, Option.map_none, List.getElem?_cons_zero, List.getElem?_cons_succ, List.set_cons_zero, List.set_cons_succ, List.length_cons, List.length_nil, List.length_map, List.length_range, List.length_set, decide_eq_true_eq, if_true, if_false, reduceIte, reduceCtorEq, Bool.not_true, Bool.not_false, Bool.false_eq_true, x_ix_nI, ax_get, ax_set, e_aald, s_aast, true_and, and_true, ite_true, ite_false, ↓bI_01, bI_eq0, bI_eq1, bool_or, tern_pure, and_pure, or_pure, bI_def, bne_t, ndf, decide_not, Bool.decide_eq_true, Bool.decide_and, Bool.decide_or, Nat.reduceEqDiff, Nat.reduceAdd, Nat.reduceMul, Nat.reduceSub, Nat.reduceLT, Nat.reduceLeDiff, or_false, false_or, or_true, true_or, and_false, false_and, Bool.or_eq_true, Bool.and_eq_true, Bool.or_false, Bool.or_true, Bool.true_or, Bool.false_or, Bool.and_true, Bool.and_false, Bool.true_and, Bool.false_and, decide_true, decide_false, not_true_eq_false, not_false_eq_true, oI, bI_t, bI_f, i10, eq_self]
        · simp only [lu_X10_measure_2, x_out, s_seq, s_ite, s_ret, s_retZ, s_retV, s_iasg, s_aasg, s_lasg, s_inc, s_put, s_putop, s_ast, s_astop, s_exp, s_call, s_skip, s_brk, s_cont, s_oinit, e_lit, e_long, e_il, e_al, e_ll, e_bin, e_un, e_fld, e_ald, e_tern, e_call, e_alen, b_cmp, b_cmp0, b_lcmp, b_and, b_or, b_not, o_add, o_sub, o_mul, o_and, o_or, o_xor, o_shl, o_shr, o_neg, o_i2l, o_l2i, o_i2c, r_eq, r_ne, r_lt, r_ge, r_gt, r_le, r_eq0, r_ne0, r_lt0, r_ge0, r_gt0, r_le0, x_fld, x_int, x_ref, x_long, x_args, x_nar, xKd, xst1, xst2, xlg, Option.bind_some, Option.bind_none, Option.map_some, Option.map_none, List.getElem?_cons_zero, List.getElem?_cons_succ, List.set_cons_zero, List.set_cons_succ, List.length_cons, List.length_nil, List.length_map, List.length_range, List.length_set, decide_eq_true_eq, if_true, if_false, reduceIte, reduceCtorEq, Bool.not_true, Bool.not_false, Bool.false_eq_true, x_ix_nI, ax_get, ax_set, e_aald, s_aast, true_and, and_true, ite_true, ite_false, ↓bI_01, bI_eq0, bI_eq1, bool_or, tern_pure, and_pure, or_pure, bI_def, bne_t, ndf, decide_not, Bool.decide_eq_true, Bool.decide_and, Bool.decide_or, Nat.reduceEqDiff, Nat.reduceAdd, Nat.reduceMul, Nat.reduceSub, Nat.reduceLT, Nat.reduceLeDiff, or_false, false_or, or_true, true_or, and_false, false_and, Bool.or_eq_true, Bool.and_eq_true, Bool.or_false, Bool.or_true, Bool.true_or, Bool.false_or, Bool.and_true, Bool.and_false, Bool.true_and, Bool.false_and, decide_true, decide_false, not_true_eq_false, not_false_eq_true, nI_1])
      (fun env k hJ => by
        obtain ⟨⟨v4, v5, rfl⟩, rfl⟩ := hJ
        have sh := shl1b (pN (yP Y)) (by omega)
        refine s_step_end ?_
        obtain ⟨xf0, xf1, xf2, xf3, xf4, xf5, xf6, xf7, xf8, xf9, xf10, xf11, xf12, xf13, xf14, xf15, xf16, xf17, xf18, xf19, xf20, xf21, xf22, xf23, xf24, xf25, xf26, xf27⟩ := rfs h0
        simp (disch := omega) only [lc_X10_measure_2, x_out, s_seq, s_ite, s_ret, s_retZ, s_retV, s_iasg, s_aasg, s_lasg, s_inc, s_put, s_putop, s_ast, s_astop, s_exp, s_call, s_skip, s_brk, s_cont, s_oinit, e_lit, e_long, e_il, e_al, e_ll, e_bin, e_un, e_fld, e_ald, e_tern, e_call, e_alen, b_cmp, b_cmp0, b_lcmp, b_and, b_or, b_not, o_add, o_sub, o_mul, o_and, o_or, o_xor, o_shl, o_shr, o_neg, o_i2l, o_l2i, o_i2c, r_eq, r_ne, r_lt, r_ge, r_gt, r_le, r_eq0, r_ne0, r_lt0, r_ge0, r_gt0, r_le0, x_int, x_ref, x_long, x_args, x_nar, xKd, xst1, xst2, xlg, Option.bind_some, Option.bind_none, Option.map_some, Option.map_none, List.getElem?_cons_zero, List.getElem?_cons_succ, List.set_cons_zero, List.set_cons_succ, List.length_cons, List.length_nil, List.length_map, List.length_range, List.length_set, decide_eq_true_eq, if_true, if_false, reduceIte, reduceCtorEq, Bool.not_true, Bool.not_false, Bool.false_eq_true, x_ix_nI, ax_get, ax_set, e_aald, s_aast, true_and, and_true, ite_true, ite_false, ↓bI_01, bI_eq0, bI_eq1, bool_or, tern_pure, and_pure, or_pure, bI_def, bne_t, ndf, decide_not, Bool.decide_eq_true, Bool.decide_and, Bool.decide_or, Nat.reduceEqDiff, Nat.reduceAdd, Nat.reduceMul, Nat.reduceSub, Nat.reduceLT, Nat.reduceLeDiff, or_false, false_or, or_true, true_or, and_false, false_and, Bool.or_eq_true, Bool.and_eq_true, Bool.or_false, Bool.or_true, Bool.true_or, Bool.false_or, Bool.and_true, Bool.and_false, Bool.true_and, Bool.false_and, decide_true, decide_false, not_true_eq_false, not_false_eq_true, xf0, xf1, xf2, xf3, xf4, xf5, xf6, xf7, xf8, xf9, xf10, xf11, xf12, xf13, xf14, xf15, xf16, xf17, xf18, xf19, xf20, xf21, xf22, xf23, xf24, xf25, xf26, xf27, sh, nI_ltI, Nat.lt_irrefl])
    rw [rb_eq o5] at e9
    have z1 : oI none = -4 := rfl
    have z2 : oI (some (meB (yP Y) (yS Y) (2 ^ pN (yP Y)))) = nI (meB (yP Y) (yS Y) (2 ^ pN (yP Y))) := rfl
    rw [z1, z2, nI_0] at e9
    have on := ones_x h9 (meB_lt (S := yS Y) O _ h2n)
    refine xM_run (env := [some (.ref 106), some (.int (nI u)), none, none, none, none]) h0 rfl rfl (Nat.le_of_ble_eq_true rfl) rfl ?_ rfl
    rw [iN_nI (by omega)]
    have c1 : (s_ite (b_not (b_cmp0 r_ne0 (e_call m_X10_in [(e_un o_i2l (e_il 1)), (e_long 0), (e_long 1)]))) (s_ret (e_lit (-1))) s_skip) [some (.ref 106), some (.int (nI u)), none, none, none, none] h9 = some (none, [some (.ref 106), some (.int (nI u)), none, none, none, none], h9) := by simp only [x_out, s_seq, s_ite, s_ret, s_retZ, s_retV, s_iasg, s_aasg, s_lasg, s_inc, s_put, s_putop, s_ast, s_astop, s_exp, s_call, s_skip, s_brk, s_cont, s_oinit, e_lit, e_long, e_il, e_al, e_ll, e_bin, e_un, e_fld, e_ald, e_tern, e_call, e_alen, b_cmp, b_cmp0, b_lcmp, b_and, b_or, b_not, o_add, o_sub, o_mul, o_and, o_or, o_xor, o_shl, o_shr, o_neg, o_i2l, o_l2i, o_i2c, r_eq, r_ne, r_lt, r_ge, r_gt, r_le, r_eq0, r_ne0, r_lt0, r_ge0, r_gt0, r_le0, x_fld, x_int, x_ref, x_long, x_args, x_nar, xKd, xst1, xst2, xlg, Option.bind_some, Option.bind_none, Option.map_some, Option.map_none, List.getElem?_cons_zero, List.getElem?_cons_succ, List.set_cons_zero, List.set_cons_succ, List.length_cons, List.length_nil, List.length_map, List.length_range, List.length_set, decide_eq_true_eq, if_true, if_false, reduceIte, reduceCtorEq, Bool.not_true, Bool.not_false, Bool.false_eq_true, x_ix_nI, ax_get, ax_set, e_aald, s_aast, true_and, and_true, ite_true, ite_false, ↓bI_01, bI_eq0, bI_eq1, bool_or, tern_pure, and_pure, or_pure, bI_def, bne_t, ndf, decide_not, Bool.decide_eq_true, Bool.decide_and, Bool.decide_or, Nat.reduceEqDiff, Nat.reduceAdd, Nat.reduceMul, Nat.reduceSub, Nat.reduceLT, Nat.reduceLeDiff, or_false, false_or, or_true, true_or, and_false, false_and, Bool.or_eq_true, Bool.and_eq_true, Bool.or_false, Bool.or_true, Bool.true_or, Bool.false_or, Bool.and_true, Bool.and_false, Bool.true_and, Bool.false_and, decide_true, decide_false, not_true_eq_false, not_false_eq_true, e1, q3]
    unfold bd_X10_measure
    rw [s_seq_n c1, s_seq_n (show (s_iasg 2 (e_lit (-4))) _ h9 = some (none, [some (.ref 106), some (.int (nI u)), some (.int (-4)), none, none, none], h9) from rfl), s_seq_n (show (s_iasg 3 (e_lit 0)) _ h9 = some (none, [some (.ref 106), some (.int (nI u)), some (.int (-4)), some (.int 0), none, none], h9) from rfl), s_seq_n e9]
    simp only [q3, Bool.true_eq_false, if_false]
    have hu2 : u = 0 ∨ u = 1 := by omega
    rcases hu2 with rfl | rfl
    · simp (disch := omega) only [x_out, s_seq, s_ite, s_ret, s_retZ, s_retV, s_iasg, s_aasg, s_lasg, s_inc, s_put, s_putop, s_ast, s_astop, s_exp, s_call, s_skip, s_brk, s_cont, s_oinit, e_lit, e_long, e_il, e_al, e_ll, e_bin, e_un, e_fld, e_ald, e_tern, e_call, e_alen, b_cmp, b_cmp0, b_lcmp, b_and, b_or, b_not, o_add, o_sub, o_mul, o_and, o_or, o_xor, o_shl, o_shr, o_neg, o_i2l, o_l2i, o_i2c, r_eq, r_ne, r_lt, r_ge, r_gt, r_le, r_eq0, r_ne0, r_lt0, r_ge0, r_gt0, r_le0, x_fld, x_int, x_ref, x_long, x_args, x_nar, xKd, xst1, xst2, xlg, Option.bind_some, Option.bind_none, Option.map_some, Option.map_none, List.getElem?_cons_zero, List.getElem?_cons_succ, List.set_cons_zero, List.set_cons_succ, List.length_cons, List.length_nil, List.length_map, List.length_range, List.length_set, decide_eq_true_eq, if_true, if_false, reduceIte, reduceCtorEq, Bool.not_true, Bool.not_false, Bool.false_eq_true, x_ix_nI, ax_get, ax_set, e_aald, s_aast, true_and, and_true, ite_true, ite_false, ↓bI_01, bI_eq0, bI_eq1, bool_or, tern_pure, and_pure, or_pure, bI_def, bne_t, ndf, decide_not, Bool.decide_eq_true, Bool.decide_and, Bool.decide_or, Nat.reduceEqDiff, Nat.reduceAdd, Nat.reduceMul, Nat.reduceSub, Nat.reduceLT, Nat.reduceLeDiff, or_false, false_or, or_true, true_or, and_false, false_and, Bool.or_eq_true, Bool.and_eq_true, Bool.or_false, Bool.or_true, Bool.true_or, Bool.false_or, Bool.and_true, Bool.and_false, Bool.true_and, Bool.false_and, decide_true, decide_false, not_true_eq_false, not_false_eq_true, nI_small]
    · simp (disch := omega) only [x_out, s_seq, s_ite, s_ret, s_retZ, s_retV, s_iasg, s_aasg, s_lasg, s_inc, s_put, s_putop, s_ast, s_astop, s_exp, s_call, s_skip, s_brk, s_cont, s_oinit, e_lit, e_long, e_il, e_al, e_ll, e_bin, e_un, e_fld, e_ald, e_tern, e_call, e_alen, b_cmp, b_cmp0, b_lcmp, b_and, b_or, b_not, o_add, o_sub, o_mul, o_and, o_or, o_xor, o_shl, o_shr, o_neg, o_i2l, o_l2i, o_i2c, r_eq, r_ne, r_lt, r_ge, r_gt, r_le, r_eq0, r_ne0, r_lt0, r_ge0, r_gt0, r_le0, x_fld, x_int, x_ref, x_long, x_args, x_nar, xKd, xst1, xst2, xlg, Option.bind_some, Option.bind_none, Option.map_some, Option.map_none, List.getElem?_cons_zero, List.getElem?_cons_succ, List.set_cons_zero, List.set_cons_succ, List.length_cons, List.length_nil, List.length_map, List.length_range, List.length_set, decide_eq_true_eq, if_true, if_false, reduceIte, reduceCtorEq, Bool.not_true, Bool.not_false, Bool.false_eq_true, x_ix_nI, ax_get, ax_set, e_aald, s_aast, true_and, and_true, ite_true, ite_false, ↓bI_01, bI_eq0, bI_eq1, bool_or, tern_pure, and_pure, or_pure, bI_def, bne_t, ndf, decide_not, Bool.decide_eq_true, Bool.decide_and, Bool.decide_or, Nat.reduceEqDiff, Nat.reduceAdd, Nat.reduceMul, Nat.reduceSub, Nat.reduceLT, Nat.reduceLeDiff, or_false, false_or, or_true, true_or, and_false, false_and, Bool.or_eq_true, Bool.and_eq_true, Bool.or_false, Bool.or_true, Bool.true_or, Bool.false_or, Bool.and_true, Bool.and_false, Bool.true_and, Bool.false_and, decide_true, decide_false, not_true_eq_false, not_false_eq_true, nI_small, on, Nat.one_ne_zero]
end MM
