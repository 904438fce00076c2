/-! the reference: the text's items, its first fault -/
theorem b_or_t {a b : XB} {env : XE} {h h1 : XH} (ha : a env h = some (true, h1)) : b_or a b env h = some (true, h1) := by
  simp only [b_or, ha, Option.bind_some, if_true]
theorem b_or_h {a b : XB} {env : XE} {h h1 h2 : XH} {y : Bool} (ha : a env h = some (false, h1)) (hb : b env h1 = some (y, h2)) : b_or a b env h = some (y, h2) := by
  simp only [b_or, ha, Option.bind_some, Bool.false_eq_true, if_false, hb]
def rZ : Nat → Prop := fun b => b = 106 ∨ b = 116 ∨ b = 117
def itS (l : List Nat) (p : Nat) (T : XP) : Option (XP × Nat) := if pN T = 9 then none else match tkB l p 0 3 44 with
  | none => none
  | some (kk, j1) => match tkB l j1 0 (pF T - 1) 44 with
    | none => none
    | some (a, j2) => match tkB l j2 0 (pF T - 1) 59 with
      | none => none
      | some (b, j3) => if b = a then none else some (pAddS T kk a b, j3)
def itW (l : List Nat) (p : Nat) (T : XP) : Option (XP × Nat) := if pM T = 4 then none else match tkB l p 0 3 44 with
  | none => none
  | some (kk, j1) => match tkB l j1 0 (pF T - 1) 44 with
    | none => none
    | some (a, j2) => match tkB l j2 1 9 59 with
      | none => none
      | some (b, j3) => some (pAddW T kk a b, j3)
def itF (l : List Nat) (p : Nat) (T : XP) (ot : Bool) : Option (XP × Nat) := if ot = true then none else match tkB l p 1 8 59 with
  | none => none
  | some (v, j) => some (pSetF T v, j)
def itB (l : List Nat) (p : Nat) (T : XP) : Option (XP × Nat) := match tkB l p 10 99 59 with
  | none => none
  | some (v, j) => some (pSetB T v, j)
def itR (l : List Nat) (i : Nat) (T : XP) (ot : Bool) : Option (XP × Bool × Nat) := if lt l i = 102 then (itF l (i + 1) T ot).map fun r => (r.1, ot, r.2) else if lt l i = 115 then (itS l (i + 1) T).map fun r => (r.1, true, r.2) else if lt l i = 119 then (itW l (i + 1) T).map fun r => (r.1, true, r.2) else if lt l i = 108 then (itB l (i + 1) T).map fun r => (r.1, true, r.2) else none
theorem tkB_spec {l : List Nat} {p lo hi sg v j : Nat} (hs : sg ≠ 0) (h : tkB l p lo hi sg = some (v, j)) : tk l p sg = some (v, j) ∧ lo ≤ v ∧ v ≤ hi ∧ p < j ∧ j ≤ l.length := by
  unfold tkB at h
  split at h
  · rename_i v' j' e
    split at h
    · rename_i q
      cases h
      obtain ⟨h1, h2, -⟩ := tk_spec hs e
      exact ⟨e, q.1, q.2, h1, h2⟩
    · cases h
  · cases h
section RI
variable {h : XH} {q k sn pl nm : Nat} {P T : XP} {l : List Nat} {ot : Bool}
theorem addsStile_r (H : RPa h q k P sn l pl nm T ot) (hn : pN T ≤ 8) (kk a b : Nat) : ∃ h', m_X10_addsStile [.ref 106, .int (nI kk), .int (nI a), .int (nI b)] h = some (none, h') ∧ RPa h' q k P sn l pl nm (pAddS T kk a b) ot ∧ xFr rZ h h' := by
  obtain ⟨h0, ⟨f, p1, v1⟩, ⟨f2, p2, v2⟩, t⟩ := H
  have h00 : h[106]? = some (.inl (10, _)) := h0
  have hl0 : 3 * pN T < 27 := by omega
  have hl1 : 3 * pN T + 1 < 27 := by omega
  have hl2 : 3 * pN T + 2 < 27 := by omega
  have F1 := xFr.set p1 (c' := arr 27 (upd f (3 * pN T) (nI kk))) (by simp [arr, xSz])
  have m1 := set_at p1 (c' := arr 27 (upd f (3 * pN T) (nI kk)))
  have r0 := ax_row p1
  have s1 : (s_ast 0 (e_fld 10 21 (e_al 0)) (e_bin o_mul (e_lit 3) (e_fld 10 20 (e_al 0))) (e_il 1)) [some (.ref 106), some (.int (nI kk)), some (.int (nI a)), some (.int (nI b))] h = some (none, [some (.ref 106), some (.int (nI kk)), some (.int (nI a)), some (.int (nI b))], h.set 116 (arr 27 (upd f (3 * pN T) (nI kk)))) := by
    obtain ⟨xf0, xf1, xf2, xf3, xf4, xf5, xf6, xf7, xf8, xf9, xf10, xf11, xf12, xf13, xf14, xf15, xf16, xf17, xf18, xf19, xf20, xf21, xf22, xf23, xf24, xf25, xf26, xf27⟩ := rfs h00
    simp (disch := omega) only [x_out, s_seq, s_ite, s_ret, s_retZ, s_retV, s_iasg, s_aasg, s_lasg, s_inc, s_put, s_putop, s_ast, s_astop, s_exp, s_call, s_skip, s_brk, s_cont, s_oinit, e_lit, e_long, e_il, e_al, e_ll, e_bin, e_un, e_fld, e_ald, e_tern, e_call, e_alen, b_cmp, b_cmp0, b_lcmp, b_and, b_or, b_not, o_add, o_sub, o_mul, o_and, o_or, o_xor, o_shl, o_shr, o_neg, o_i2l, o_l2i, o_i2c, r_eq, r_ne, r_lt, r_ge, r_gt, r_le, r_eq0, r_ne0, r_lt0, r_ge0, r_gt0, r_le0, x_int, x_ref, x_long, x_args, x_nar, xKd, xst1, xst2, xlg, Option.bind_some, Option.bind_none, Option.map_some, Option.map_none, List.getElem?_cons_zero, List.getElem?_cons_succ, List.set_cons_zero, List.set_cons_succ, List.length_cons, List.length_nil, List.length_map, List.length_range, List.length_set, decide_eq_true_eq, if_true, if_false, reduceIte, reduceCtorEq, Bool.not_true, Bool.not_false, Bool.false_eq_true, x_ix_nI, ax_get, ax_set, e_aald, s_aast, true_and, and_true, ite_true, ite_false, ↓bI_01, bI_eq0, bI_eq1, bool_or, tern_pure, and_pure, or_pure, bI_def, bne_t, ndf, decide_not, Bool.decide_eq_true, Bool.decide_and, Bool.decide_or, Nat.reduceEqDiff, Nat.reduceAdd, Nat.reduceMul, Nat.reduceSub, Nat.reduceLT, Nat.reduceLeDiff, or_false, false_or, or_true, true_or, and_false, false_and, Bool.or_eq_true, Bool.and_eq_true, Bool.or_false, Bool.or_true, Bool.true_or, Bool.false_or, Bool.and_true, Bool.and_false, Bool.true_and, Bool.false_and, decide_true, decide_false, not_true_eq_false, not_false_eq_true, xf0, xf1, xf2, xf3, xf4, xf5, xf6, xf7, xf8, xf9, xf10, xf11, xf12, xf13, xf14, xf15, xf16, xf17, xf18, xf19, xf20, xf21, xf22, xf23, xf24, xf25, xf26, xf27, l3, nI_m, r0, hl0, ax_def]
  generalize h.set 116 (arr 27 (upd f (3 * pN T) (nI kk))) = h1 at F1 m1 s1
  have h01 := (F1.2.2 106 (by omega)).trans h00
  have F2 := xFr.set m1 (c' := arr 27 (upd (upd f (3 * pN T) (nI kk)) (3 * pN T + 1) (nI a))) (by simp [arr, xSz])
  have m2 := set_at m1 (c' := arr 27 (upd (upd f (3 * pN T) (nI kk)) (3 * pN T + 1) (nI a)))
  have r1 := ax_row m1
  have s2 : (s_ast 0 (e_fld 10 21 (e_al 0)) (e_bin o_add (e_bin o_mul (e_lit 3) (e_fld 10 20 (e_al 0))) (e_lit 1)) (e_il 2)) [some (.ref 106), some (.int (nI kk)), some (.int (nI a)), some (.int (nI b))] h1 = some (none, [some (.ref 106), some (.int (nI kk)), some (.int (nI a)), some (.int (nI b))], h1.set 116 (arr 27 (upd (upd f (3 * pN T) (nI kk)) (3 * pN T + 1) (nI a)))) := by
    obtain ⟨xf0, xf1, xf2, xf3, xf4, xf5, xf6, xf7, xf8, xf9, xf10, xf11, xf12, xf13, xf14, xf15, xf16, xf17, xf18, xf19, xf20, xf21, xf22, xf23, xf24, xf25, xf26, xf27⟩ := rfs h01
    simp (disch := omega) only [x_out, s_seq, s_ite, s_ret, s_retZ, s_retV, s_iasg, s_aasg, s_lasg, s_inc, s_put, s_putop, s_ast, s_astop, s_exp, s_call, s_skip, s_brk, s_cont, s_oinit, e_lit, e_long, e_il, e_al, e_ll, e_bin, e_un, e_fld, e_ald, e_tern, e_call, e_alen, b_cmp, b_cmp0, b_lcmp, b_and, b_or, b_not, o_add, o_sub, o_mul, o_and, o_or, o_xor, o_shl, o_shr, o_neg, o_i2l, o_l2i, o_i2c, r_eq, r_ne, r_lt, r_ge, r_gt, r_le, r_eq0, r_ne0, r_lt0, r_ge0, r_gt0, r_le0, x_int, x_ref, x_long, x_args, x_nar, xKd, xst1, xst2, xlg, Option.bind_some, Option.bind_none, Option.map_some, Option.map_none, List.getElem?_cons_zero, List.getElem?_cons_succ, List.set_cons_zero, List.set_cons_succ, List.length_cons, List.length_nil, List.length_map, List.length_range, List.length_set, decide_eq_true_eq, if_true, if_false, reduceIte, reduceCtorEq, Bool.not_true, Bool.not_false, Bool.false_eq_true, x_ix_nI, ax_get, ax_set, e_aald, s_aast, true_and, and_true, ite_true, ite_false, ↓bI_01, bI_eq0, bI_eq1, bool_or, tern_pure, and_pure, or_pure, bI_def, bne_t, ndf, decide_not, Bool.decide_eq_true, Bool.decide_and, Bool.decide_or, Nat.reduceEqDiff, Nat.reduceAdd, Nat.reduceMul, Nat.reduceSub, Nat.reduceLT, Nat.reduceLeDiff, or_false, false_or, or_true, true_or, and_false, false_and, Bool.or_eq_true, Bool.and_eq_true, Bool.or_false, Bool.or_true, Bool.true_or, Bool.false_or, Bool.and_true, Bool.and_false, Bool.true_and, Bool.false_and, decide_true, decide_false, not_true_eq_false, not_false_eq_true, xf0, xf1, xf2, xf3, xf4, xf5, xf6, xf7, xf8, xf9, xf10, xf11, xf12, xf13, xf14, xf15, xf16, xf17, xf18, xf19, xf20, xf21, xf22, xf23, xf24, xf25, xf26, xf27, l3, nI_m, nI_1, r1, hl1, ax_def]
  generalize h1.set 116 (arr 27 (upd (upd f (3 * pN T) (nI kk)) (3 * pN T + 1) (nI a))) = h2 at F2 m2 s2
  have h02 := (F2.2.2 106 (by omega)).trans h01
  have F3 := xFr.set m2 (c' := arr 27 (upd (upd (upd f (3 * pN T) (nI kk)) (3 * pN T + 1) (nI a)) (3 * pN T + 2) (nI b))) (by simp [arr, xSz])
  have m3 := set_at m2 (c' := arr 27 (upd (upd (upd f (3 * pN T) (nI kk)) (3 * pN T + 1) (nI a)) (3 * pN T + 2) (nI b)))
  have r2 := ax_row m2
  have s3 : (s_ast 0 (e_fld 10 21 (e_al 0)) (e_bin o_add (e_bin o_mul (e_lit 3) (e_fld 10 20 (e_al 0))) (e_lit 2)) (e_il 3)) [some (.ref 106), some (.int (nI kk)), some (.int (nI a)), some (.int (nI b))] h2 = some (none, [some (.ref 106), some (.int (nI kk)), some (.int (nI a)), some (.int (nI b))], h2.set 116 (arr 27 (upd (upd (upd f (3 * pN T) (nI kk)) (3 * pN T + 1) (nI a)) (3 * pN T + 2) (nI b)))) := by
    obtain ⟨xf0, xf1, xf2, xf3, xf4, xf5, xf6, xf7, xf8, xf9, xf10, xf11, xf12, xf13, xf14, xf15, xf16, xf17, xf18, xf19, xf20, xf21, xf22, xf23, xf24, xf25, xf26, xf27⟩ := rfs h02
    simp (disch := omega) only [x_out, s_seq, s_ite, s_ret, s_retZ, s_retV, s_iasg, s_aasg, s_lasg, s_inc, s_put, s_putop, s_ast, s_astop, s_exp, s_call, s_skip, s_brk, s_cont, s_oinit, e_lit, e_long, e_il, e_al, e_ll, e_bin, e_un, e_fld, e_ald, e_tern, e_call, e_alen, b_cmp, b_cmp0, b_lcmp, b_and, b_or, b_not, o_add, o_sub, o_mul, o_and, o_or, o_xor, o_shl, o_shr, o_neg, o_i2l, o_l2i, o_i2c, r_eq, r_ne, r_lt, r_ge, r_gt, r_le, r_eq0, r_ne0, r_lt0, r_ge0, r_gt0, r_le0, x_int, x_ref, x_long, x_args, x_nar, xKd, xst1, xst2, xlg, Option.bind_some, Option.bind_none, Option.map_some, Option.map_none, List.getElem?_cons_zero, List.getElem?_cons_succ, List.set_cons_zero, List.set_cons_succ, List.length_cons, List.length_nil, List.length_map, List.length_range, List.length_set, decide_eq_true_eq, if_true, if_false, reduceIte, reduceCtorEq, Bool.not_true, Bool.not_false, Bool.false_eq_true, x_ix_nI, ax_get, ax_set, e_aald, s_aast, true_and, and_true, ite_true, ite_false, ↓bI_01, bI_eq0, bI_eq1, bool_or, tern_pure, and_pure, or_pure, bI_def, bne_t, ndf, decide_not, Bool.decide_eq_true, Bool.decide_and, Bool.decide_or, Nat.reduceEqDiff, Nat.reduceAdd, Nat.reduceMul, Nat.reduceSub, Nat.reduceLT, Nat.reduceLeDiff, or_false, false_or, or_true, true_or, and_false, false_and, Bool.or_eq_true, Bool.and_eq_true, Bool.or_false, Bool.or_true, Bool.true_or, Bool.false_or, Bool.and_true, Bool.and_false, Bool.true_and, Bool.false_and, decide_true, decide_false, not_true_eq_false, not_false_eq_true, xf0, xf1, xf2, xf3, xf4, xf5, xf6, xf7, xf8, xf9, xf10, xf11, xf12, xf13, xf14, xf15, xf16, xf17, xf18, xf19, xf20, xf21, xf22, xf23, xf24, xf25, xf26, xf27, l3, l2, nI_m, nI_add, r2, hl2, ax_def]
  generalize h2.set 116 (arr 27 (upd (upd (upd f (3 * pN T) (nI kk)) (3 * pN T + 1) (nI a)) (3 * pN T + 2) (nI b))) = h3 at F3 m3 s3
  have h03 := (F3.2.2 106 (by omega)).trans h02
  have F4 := xFr.set h03 (c' := pZ0 q k P sn l.length pl nm (pAddS T kk a b) ot) (by rfl)
  have m4 := set_at h03 (c' := pZ0 q k P sn l.length pl nm (pAddS T kk a b) ot)
  have s4 : (s_putop 10 20 o_add (e_al 0) (e_lit 1)) [some (.ref 106), some (.int (nI kk)), some (.int (nI a)), some (.int (nI b))] h3 = some (none, [some (.ref 106), some (.int (nI kk)), some (.int (nI a)), some (.int (nI b))], h3.set 106 (pZ0 q k P sn l.length pl nm (pAddS T kk a b) ot)) := by
    obtain ⟨xf0, xf1, xf2, xf3, xf4, xf5, xf6, xf7, xf8, xf9, xf10, xf11, xf12, xf13, xf14, xf15, xf16, xf17, xf18, xf19, xf20, xf21, xf22, xf23, xf24, xf25, xf26, xf27⟩ := rfs h03
    simp (disch := omega) only [x_out, s_seq, s_ite, s_ret, s_retZ, s_retV, s_iasg, s_aasg, s_lasg, s_inc, s_put, s_putop, s_ast, s_astop, s_exp, s_call, s_skip, s_brk, s_cont, s_oinit, e_lit, e_long, e_il, e_al, e_ll, e_bin, e_un, e_fld, e_ald, e_tern, e_call, e_alen, b_cmp, b_cmp0, b_lcmp, b_and, b_or, b_not, o_add, o_sub, o_mul, o_and, o_or, o_xor, o_shl, o_shr, o_neg, o_i2l, o_l2i, o_i2c, r_eq, r_ne, r_lt, r_ge, r_gt, r_le, r_eq0, r_ne0, r_lt0, r_ge0, r_gt0, r_le0, x_int, x_ref, x_long, x_args, x_nar, xKd, xst1, xst2, xlg, Option.bind_some, Option.bind_none, Option.map_some, Option.map_none, List.getElem?_cons_zero, List.getElem?_cons_succ, List.set_cons_zero, List.set_cons_succ, List.length_cons, List.length_nil, List.length_map, List.length_range, List.length_set, decide_eq_true_eq, if_true, if_false, reduceIte, reduceCtorEq, Bool.not_true, Bool.not_false, Bool.false_eq_true, x_ix_nI, ax_get, ax_set, e_aald, s_aast, true_and, and_true, ite_true, ite_false, ↓bI_01, bI_eq0, bI_eq1, bool_or, tern_pure, and_pure, or_pure, bI_def, bne_t, ndf, decide_not, Bool.decide_eq_true, Bool.decide_and, Bool.decide_or, Nat.reduceEqDiff, Nat.reduceAdd, Nat.reduceMul, Nat.reduceSub, Nat.reduceLT, Nat.reduceLeDiff, or_false, false_or, or_true, true_or, and_false, false_and, Bool.or_eq_true, Bool.and_eq_true, Bool.or_false, Bool.or_true, Bool.true_or, Bool.false_or, Bool.and_true, Bool.and_false, Bool.true_and, Bool.false_and, decide_true, decide_false, not_true_eq_false, not_false_eq_true, xf0, xf1, xf2, xf3, xf4, xf5, xf6, xf7, xf8, xf9, xf10, xf11, xf12, xf13, xf14, xf15, xf16, xf17, xf18, xf19, xf20, xf21, xf22, xf23, xf24, xf25, xf26, xf27, h03, nI_1]
    rfl
  have Fr := ((F1.trans F2).trans F3).trans F4
  have e : ∀ b, b ≠ 106 → b ≠ 116 → (h3.set 106 (pZ0 q k P sn l.length pl nm (pAddS T kk a b) ot))[b]? = h[b]? := fun b hb hb2 => by
    rw [set_ne (by omega)]
    exact ((F1.trans F2).trans F3).2.2 b (by omega)
  have e : ∀ x, x ≠ 106 → x ≠ 116 → (h3.set 106 (pZ0 q k P sn l.length pl nm (pAddS T kk a b) ot))[x]? = h[x]? := fun x hb hb2 => by
    rw [set_ne (by omega)]
    exact ((F1.trans F2).trans F3).2.2 x (by omega)
  refine ⟨_, ?_, ⟨m4, ⟨_, (set_ne (by omega)).trans m3, fun s hs => ?_⟩, ⟨f2, (e 117 (by omega) (by omega)).trans p2, v2⟩, t.same (e 115 (by omega) (by omega))⟩, Fr.mono fun b hb => by unfold rZ; omega⟩
  · refine xM_run (env := [some (.ref 106), some (.int (nI kk)), some (.int (nI a)), some (.int (nI b))]) h00 rfl rfl (Nat.le_of_ble_eq_true rfl) rfl ?_ rfl
    unfold bd_X10_addsStile
    rw [s_seq_n s1, s_seq_n s2, s_seq_n s3, s_seq_n s4]
    rfl
  · have hs : s < pN T + 1 := hs
    show upd (upd (upd f (3 * pN T) (nI kk)) (3 * pN T + 1) (nI a)) (3 * pN T + 2) (nI b) (3 * s) = nI (updN (pK T) (pN T) kk s) ∧ upd (upd (upd f (3 * pN T) (nI kk)) (3 * pN T + 1) (nI a)) (3 * pN T + 2) (nI b) (3 * s + 1) = nI (updN (pA T) (pN T) a s) ∧ upd (upd (upd f (3 * pN T) (nI kk)) (3 * pN T + 1) (nI a)) (3 * pN T + 2) (nI b) (3 * s + 2) = nI (updN (pZ T) (pN T) b s)
    unfold upd updN
    by_cases y : s = pN T
    · subst y
      refine ⟨?_, ?_, ?_⟩
      · rw [if_neg (by omega), if_neg (by omega), if_pos rfl, if_pos rfl]
      · rw [if_neg (by omega), if_pos rfl, if_pos rfl]
      · rw [if_pos rfl, if_pos rfl]
    · obtain ⟨x1, x2, x3⟩ := v1 s (by omega)
      simp only [if_neg y]
      refine ⟨?_, ?_, ?_⟩
      · rw [if_neg (by omega), if_neg (by omega), if_neg (by omega)]; exact x1
      · rw [if_neg (by omega), if_neg (by omega), if_neg (by omega)]; exact x2
      · rw [if_neg (by omega), if_neg (by omega), if_neg (by omega)]; exact x3
theorem addsWalker_r (H : RPa h q k P sn l pl nm T ot) (hn : pM T ≤ 3) (kk a b : Nat) : ∃ h', m_X10_addsWalker [.ref 106, .int (nI kk), .int (nI a), .int (nI b)] h = some (none, h') ∧ RPa h' q k P sn l pl nm (pAddW T kk a b) ot ∧ xFr rZ h h' := by
  obtain ⟨h0, ⟨f1, p1, v1⟩, ⟨f, p2, v2⟩, t⟩ := H
  have h00 : h[106]? = some (.inl (10, _)) := h0
  have hl0 : 3 * pM T < 12 := by omega
  have hl1 : 3 * pM T + 1 < 12 := by omega
  have hl2 : 3 * pM T + 2 < 12 := by omega
  have F1 := xFr.set p2 (c' := arr 12 (upd f (3 * pM T) (nI kk))) (by simp [arr, xSz])
  have m1 := set_at p2 (c' := arr 12 (upd f (3 * pM T) (nI kk)))
  have r0 := ax_row p2
  have s1 : (s_ast 0 (e_fld 10 23 (e_al 0)) (e_bin o_mul (e_lit 3) (e_fld 10 22 (e_al 0))) (e_il 1)) [some (.ref 106), some (.int (nI kk)), some (.int (nI a)), some (.int (nI b))] h = some (none, [some (.ref 106), some (.int (nI kk)), some (.int (nI a)), some (.int (nI b))], h.set 117 (arr 12 (upd f (3 * pM T) (nI kk)))) := by
    obtain ⟨xf0, xf1, xf2, xf3, xf4, xf5, xf6, xf7, xf8, xf9, xf10, xf11, xf12, xf13, xf14, xf15, xf16, xf17, xf18, xf19, xf20, xf21, xf22, xf23, xf24, xf25, xf26, xf27⟩ := rfs h00
    simp (disch := omega) only [x_out, s_seq, s_ite, s_ret, s_retZ, s_retV, s_iasg, s_aasg, s_lasg, s_inc, s_put, s_putop, s_ast, s_astop, s_exp, s_call, s_skip, s_brk, s_cont, s_oinit, e_lit, e_long, e_il, e_al, e_ll, e_bin, e_un, e_fld, e_ald, e_tern, e_call, e_alen, b_cmp, b_cmp0, b_lcmp, b_and, b_or, b_not, o_add, o_sub, o_mul, o_and, o_or, o_xor, o_shl, o_shr, o_neg, o_i2l, o_l2i, o_i2c, r_eq, r_ne, r_lt, r_ge, r_gt, r_le, r_eq0, r_ne0, r_lt0, r_ge0, r_gt0, r_le0, x_int, x_ref, x_long, x_args, x_nar, xKd, xst1, xst2, xlg, Option.bind_some, Option.bind_none, Option.map_some, Option.map_none, List.getElem?_cons_zero, List.getElem?_cons_succ, List.set_cons_zero, List.set_cons_succ, List.length_cons, List.length_nil, List.length_map, List.length_range, List.length_set, decide_eq_true_eq, if_true, if_false, reduceIte, reduceCtorEq, Bool.not_true, Bool.not_false, Bool.false_eq_true, x_ix_nI, ax_get, ax_set, e_aald, s_aast, true_and, and_true, ite_true, ite_false, ↓bI_01, bI_eq0, bI_eq1, bool_or, tern_pure, and_pure, or_pure, bI_def, bne_t, ndf, decide_not, Bool.decide_eq_true, Bool.decide_and, Bool.decide_or, Nat.reduceEqDiff, Nat.reduceAdd, Nat.reduceMul, Nat.reduceSub, Nat.reduceLT, Nat.reduceLeDiff, or_false, false_or, or_true, true_or, and_false, false_and, Bool.or_eq_true, Bool.and_eq_true, Bool.or_false, Bool.or_true, Bool.true_or, Bool.false_or, Bool.and_true, Bool.and_false, Bool.true_and, Bool.false_and, decide_true, decide_false, not_true_eq_false, not_false_eq_true, xf0, xf1, xf2, xf3, xf4, xf5, xf6, xf7, xf8, xf9, xf10, xf11, xf12, xf13, xf14, xf15, xf16, xf17, xf18, xf19, xf20, xf21, xf22, xf23, xf24, xf25, xf26, xf27, l3, nI_m, r0, hl0, ax_def]
  generalize h.set 117 (arr 12 (upd f (3 * pM T) (nI kk))) = h1 at F1 m1 s1
  have h01 := (F1.2.2 106 (by omega)).trans h00
  have F2 := xFr.set m1 (c' := arr 12 (upd (upd f (3 * pM T) (nI kk)) (3 * pM T + 1) (nI a))) (by simp [arr, xSz])
  have m2 := set_at m1 (c' := arr 12 (upd (upd f (3 * pM T) (nI kk)) (3 * pM T + 1) (nI a)))
  have r1 := ax_row m1
  have s2 : (s_ast 0 (e_fld 10 23 (e_al 0)) (e_bin o_add (e_bin o_mul (e_lit 3) (e_fld 10 22 (e_al 0))) (e_lit 1)) (e_il 2)) [some (.ref 106), some (.int (nI kk)), some (.int (nI a)), some (.int (nI b))] h1 = some (none, [some (.ref 106), some (.int (nI kk)), some (.int (nI a)), some (.int (nI b))], h1.set 117 (arr 12 (upd (upd f (3 * pM T) (nI kk)) (3 * pM T + 1) (nI a)))) := by
    obtain ⟨xf0, xf1, xf2, xf3, xf4, xf5, xf6, xf7, xf8, xf9, xf10, xf11, xf12, xf13, xf14, xf15, xf16, xf17, xf18, xf19, xf20, xf21, xf22, xf23, xf24, xf25, xf26, xf27⟩ := rfs h01
    simp (disch := omega) only [x_out, s_seq, s_ite, s_ret, s_retZ, s_retV, s_iasg, s_aasg, s_lasg, s_inc, s_put, s_putop, s_ast, s_astop, s_exp, s_call, s_skip, s_brk, s_cont, s_oinit, e_lit, e_long, e_il, e_al, e_ll, e_bin, e_un, e_fld, e_ald, e_tern, e_call, e_alen, b_cmp, b_cmp0, b_lcmp, b_and, b_or, b_not, o_add, o_sub, o_mul, o_and, o_or, o_xor, o_shl, o_shr, o_neg, o_i2l, o_l2i, o_i2c, r_eq, r_ne, r_lt, r_ge, r_gt, r_le, r_eq0, r_ne0, r_lt0, r_ge0, r_gt0, r_le0, x_int, x_ref, x_long, x_args, x_nar, xKd, xst1, xst2, xlg, Option.bind_some, Option.bind_none, Option.map_some, Option.map_none, List.getElem?_cons_zero, List.getElem?_cons_succ, List.set_cons_zero, List.set_cons_succ, List.length_cons, List.length_nil, List.length_map, List.length_range, List.length_set, decide_eq_true_eq, if_true, if_false, reduceIte, reduceCtorEq, Bool.not_true, Bool.not_false, Bool.false_eq_true, x_ix_nI, ax_get, ax_set, e_aald, s_aast, true_and, and_true, ite_true, ite_false, ↓bI_01, bI_eq0, bI_eq1, bool_or, tern_pure, and_pure, or_pure, bI_def, bne_t, ndf, decide_not, Bool.decide_eq_true, Bool.decide_and, Bool.decide_or, Nat.reduceEqDiff, Nat.reduceAdd, Nat.reduceMul, Nat.reduceSub, Nat.reduceLT, Nat.reduceLeDiff, or_false, false_or, or_true, true_or, and_false, false_and, Bool.or_eq_true, Bool.and_eq_true, Bool.or_false, Bool.or_true, Bool.true_or, Bool.false_or, Bool.and_true, Bool.and_false, Bool.true_and, Bool.false_and, decide_true, decide_false, not_true_eq_false, not_false_eq_true, xf0, xf1, xf2, xf3, xf4, xf5, xf6, xf7, xf8, xf9, xf10, xf11, xf12, xf13, xf14, xf15, xf16, xf17, xf18, xf19, xf20, xf21, xf22, xf23, xf24, xf25, xf26, xf27, l3, nI_m, nI_1, r1, hl1, ax_def]
  generalize h1.set 117 (arr 12 (upd (upd f (3 * pM T) (nI kk)) (3 * pM T + 1) (nI a))) = h2 at F2 m2 s2
  have h02 := (F2.2.2 106 (by omega)).trans h01
  have F3 := xFr.set m2 (c' := arr 12 (upd (upd (upd f (3 * pM T) (nI kk)) (3 * pM T + 1) (nI a)) (3 * pM T + 2) (nI b))) (by simp [arr, xSz])
  have m3 := set_at m2 (c' := arr 12 (upd (upd (upd f (3 * pM T) (nI kk)) (3 * pM T + 1) (nI a)) (3 * pM T + 2) (nI b)))
  have r2 := ax_row m2
  have s3 : (s_ast 0 (e_fld 10 23 (e_al 0)) (e_bin o_add (e_bin o_mul (e_lit 3) (e_fld 10 22 (e_al 0))) (e_lit 2)) (e_il 3)) [some (.ref 106), some (.int (nI kk)), some (.int (nI a)), some (.int (nI b))] h2 = some (none, [some (.ref 106), some (.int (nI kk)), some (.int (nI a)), some (.int (nI b))], h2.set 117 (arr 12 (upd (upd (upd f (3 * pM T) (nI kk)) (3 * pM T + 1) (nI a)) (3 * pM T + 2) (nI b)))) := by
    obtain ⟨xf0, xf1, xf2, xf3, xf4, xf5, xf6, xf7, xf8, xf9, xf10, xf11, xf12, xf13, xf14, xf15, xf16, xf17, xf18, xf19, xf20, xf21, xf22, xf23, xf24, xf25, xf26, xf27⟩ := rfs h02
    simp (disch := omega) only [x_out, s_seq, s_ite, s_ret, s_retZ, s_retV, s_iasg, s_aasg, s_lasg, s_inc, s_put, s_putop, s_ast, s_astop, s_exp, s_call, s_skip, s_brk, s_cont, s_oinit, e_lit, e_long, e_il, e_al, e_ll, e_bin, e_un, e_fld, e_ald, e_tern, e_call, e_alen, b_cmp, b_cmp0, b_lcmp, b_and, b_or, b_not, o_add, o_sub, o_mul, o_and, o_or, o_xor, o_shl, o_shr, o_neg, o_i2l, o_l2i, o_i2c, r_eq, r_ne, r_lt, r_ge, r_gt, r_le, r_eq0, r_ne0, r_lt0, r_ge0, r_gt0, r_le0, x_int, x_ref, x_long, x_args, x_nar, xKd, xst1, xst2, xlg, Option.bind_some, Option.bind_none, Option.map_some, Option.map_none, List.getElem?_cons_zero, List.getElem?_cons_succ, List.set_cons_zero, List.set_cons_succ, List.length_cons, List.length_nil, List.length_map, List.length_range, List.length_set, decide_eq_true_eq, if_true, if_false, reduceIte, reduceCtorEq, Bool.not_true, Bool.not_false, Bool.false_eq_true, x_ix_nI, ax_get, ax_set, e_aald, s_aast, true_and, and_true, ite_true, ite_false, ↓bI_01, bI_eq0, bI_eq1, bool_or, tern_pure, and_pure, or_pure, bI_def, bne_t, ndf, decide_not, Bool.decide_eq_true, Bool.decide_and, Bool.decide_or, Nat.reduceEqDiff, Nat.reduceAdd, Nat.reduceMul, Nat.reduceSub, Nat.reduceLT, Nat.reduceLeDiff, or_false, false_or, or_true, true_or, and_false, false_and, Bool.or_eq_true, Bool.and_eq_true, Bool.or_false, Bool.or_true, Bool.true_or, Bool.false_or, Bool.and_true, Bool.and_false, Bool.true_and, Bool.false_and, decide_true, decide_false, not_true_eq_false, not_false_eq_true, xf0, xf1, xf2, xf3, xf4, xf5, xf6, xf7, xf8, xf9, xf10, xf11, xf12, xf13, xf14, xf15, xf16, xf17, xf18, xf19, xf20, xf21, xf22, xf23, xf24, xf25, xf26, xf27, l3, l2, nI_m, nI_add, r2, hl2, ax_def]
  generalize h2.set 117 (arr 12 (upd (upd (upd f (3 * pM T) (nI kk)) (3 * pM T + 1) (nI a)) (3 * pM T + 2) (nI b))) = h3 at F3 m3 s3
  have h03 := (F3.2.2 106 (by omega)).trans h02
  have F4 := xFr.set h03 (c' := pZ0 q k P sn l.length pl nm (pAddW T kk a b) ot) (by rfl)
  have m4 := set_at h03 (c' := pZ0 q k P sn l.length pl nm (pAddW T kk a b) ot)
  have s4 : (s_putop 10 22 o_add (e_al 0) (e_lit 1)) [some (.ref 106), some (.int (nI kk)), some (.int (nI a)), some (.int (nI b))] h3 = some (none, [some (.ref 106), some (.int (nI kk)), some (.int (nI a)), some (.int (nI b))], h3.set 106 (pZ0 q k P sn l.length pl nm (pAddW T kk a b) ot)) := by
    obtain ⟨xf0, xf1, xf2, xf3, xf4, xf5, xf6, xf7, xf8, xf9, xf10, xf11, xf12, xf13, xf14, xf15, xf16, xf17, xf18, xf19, xf20, xf21, xf22, xf23, xf24, xf25, xf26, xf27⟩ := rfs h03
    simp (disch := omega) only [x_out, s_seq, s_ite, s_ret, s_retZ, s_retV, s_iasg, s_aasg, s_lasg, s_inc, s_put, s_putop, s_ast, s_astop, s_exp, s_call, s_skip, s_brk, s_cont, s_oinit, e_lit, e_long, e_il, e_al, e_ll, e_bin, e_un, e_fld, e_ald, e_tern, e_call, e_alen, b_cmp, b_cmp0, b_lcmp, b_and, b_or, b_not, o_add, o_sub, o_mul, o_and, o_or, o_xor, o_shl, o_shr, o_neg, o_i2l, o_l2i, o_i2c, r_eq, r_ne, r_lt, r_ge, r_gt, r_le, r_eq0, r_ne0, r_lt0, r_ge0, r_gt0, r_le0, x_int, x_ref, x_long, x_args, x_nar, xKd, xst1, xst2, xlg, Option.bind_some, Option.bind_none, Option.map_some, Option.map_none, List.getElem?_cons_zero, List.getElem?_cons_succ, List.set_cons_zero, List.set_cons_succ, List.length_cons, List.length_nil, List.length_map, List.length_range, List.length_set, decide_eq_true_eq, if_true, if_false, reduceIte, reduceCtorEq, Bool.not_true, Bool.not_false, Bool.false_eq_true, x_ix_nI, ax_get, ax_set, e_aald, s_aast, true_and, and_true, ite_true, ite_false, ↓bI_01, bI_eq0, bI_eq1, bool_or, tern_pure, and_pure, or_pure, bI_def, bne_t, ndf, decide_not, Bool.decide_eq_true, Bool.decide_and, Bool.decide_or, Nat.reduceEqDiff, Nat.reduceAdd, Nat.reduceMul, Nat.reduceSub, Nat.reduceLT, Nat.reduceLeDiff, or_false, false_or, or_true, true_or, and_false, false_and, Bool.or_eq_true, Bool.and_eq_true, Bool.or_false, Bool.or_true, Bool.true_or, Bool.false_or, Bool.and_true, Bool.and_false, Bool.true_and, Bool.false_and, decide_true, decide_false, not_true_eq_false, not_false_eq_true, xf0, xf1, xf2, xf3, xf4, xf5, xf6, xf7, xf8, xf9, xf10, xf11, xf12, xf13, xf14, xf15, xf16, xf17, xf18, xf19, xf20, xf21, xf22, xf23, xf24, xf25, xf26, xf27, h03, nI_1]
    rfl
  have Fr := ((F1.trans F2).trans F3).trans F4
  have e : ∀ x, x ≠ 106 → x ≠ 117 → (h3.set 106 (pZ0 q k P sn l.length pl nm (pAddW T kk a b) ot))[x]? = h[x]? := fun x hb hb2 => by
    rw [set_ne (by omega)]
    exact ((F1.trans F2).trans F3).2.2 x (by omega)
  refine ⟨_, ?_, ⟨m4, ⟨f1, (e 116 (by omega) (by omega)).trans p1, v1⟩, ⟨_, (set_ne (by omega)).trans m3, fun s hs => ?_⟩, t.same (e 115 (by omega) (by omega))⟩, Fr.mono fun b hb => by unfold rZ; omega⟩
  · refine xM_run (env := [some (.ref 106), some (.int (nI kk)), some (.int (nI a)), some (.int (nI b))]) h00 rfl rfl (Nat.le_of_ble_eq_true rfl) rfl ?_ rfl
    unfold bd_X10_addsWalker
    rw [s_seq_n s1, s_seq_n s2, s_seq_n s3, s_seq_n s4]
    rfl
  · have hs : s < pM T + 1 := hs
    show upd (upd (upd f (3 * pM T) (nI kk)) (3 * pM T + 1) (nI a)) (3 * pM T + 2) (nI b) (3 * s) = nI (updN (wK T) (pM T) kk s) ∧ upd (upd (upd f (3 * pM T) (nI kk)) (3 * pM T + 1) (nI a)) (3 * pM T + 2) (nI b) (3 * s + 1) = nI (updN (wP T) (pM T) a s) ∧ upd (upd (upd f (3 * pM T) (nI kk)) (3 * pM T + 1) (nI a)) (3 * pM T + 2) (nI b) (3 * s + 2) = nI (updN (wG T) (pM T) b s)
    unfold upd updN
    by_cases y : s = pM T
    · subst y
      refine ⟨?_, ?_, ?_⟩
      · rw [if_neg (by omega), if_neg (by omega), if_pos rfl, if_pos rfl]
      · rw [if_neg (by omega), if_pos rfl, if_pos rfl]
      · rw [if_pos rfl, if_pos rfl]
    · obtain ⟨x1, x2, x3⟩ := v2 s (by omega)
      simp only [if_neg y]
      refine ⟨?_, ?_, ?_⟩
      · rw [if_neg (by omega), if_neg (by omega), if_neg (by omega)]; exact x1
      · rw [if_neg (by omega), if_neg (by omega), if_neg (by omega)]; exact x2
      · rw [if_neg (by omega), if_neg (by omega), if_neg (by omega)]; exact x3
/-- what an item leaves -/
def RQ (h h' : XH) (q k : Nat) (P : XP) (sn : Nat) (l : List Nat) (T : XP) (ot : Bool) (r : Option (XP × Nat)) : Prop := xFr rZ h h' ∧ match r with
  | some (T', j) => ∃ nm', RPa h' q k P sn l j nm' T' ot
  | none => ∃ pl' nm' T', RPa h' q k P sn l pl' nm' T' ot
theorem f6Z {h h' : XH} (F : xFr (fun b => b = 106) h h') : xFr rZ h h' := F.mono fun b hb => Or.inl hb
theorem tnb {h h' : XH} {A B C : XX} {env : XE} {lo hi sg : Nat} {r : Bool} (a0 : (e_al 0) env h = some (.ref 106, h)) (a1 : A env h = some (.int (nI lo), h)) (a2 : B env h = some (.int (nI hi), h)) (a3 : C env h = some (.int (nI sg), h)) (hm : m_X10_takesNumber [.ref 106, .int (nI lo), .int (nI hi), .int (nI sg)] h = some (some (.int (bI r)), h')) : (b_not (b_cmp0 r_ne0 (e_call m_X10_takesNumber [(e_al 0), A, B, C]))) env h = some (!r, h') := by
  have e : (e_call m_X10_takesNumber [(e_al 0), A, B, C]) env h = some (.int (bI r), h') := by
    simp only [e_call, x_args, a0, a1, a2, a3, Option.bind_some, Option.map_some, hm]
  cases r <;> simp only [b_not, b_cmp0, e, Option.bind_some, Option.map_some, x_int, r_ne0] <;> rfl
theorem takesFields_r (H : RPa h q k P sn l pl nm T ot) (hl : l.length ≤ 200) (ha : ∀ x, x ∈ l → 32 ≤ x ∧ x ≤ 126) (h2 : pl ≤ 900) : ∃ h', m_X10_takesFields [.ref 106] h = some (some (.int (bI (itF l pl T ot).isSome)), h') ∧ RQ h h' q k P sn l T ot (itF l pl T ot) := by
  have h00 : h[106]? = some (.inl (10, _)) := H.1
  unfold itF
  cases hot : ot with
  | true =>
    subst hot
    refine ⟨h, ?_, xFr.rf _ _, pl, nm, T, H⟩
    refine xM_run (env := [some (.ref 106)]) h00 rfl rfl (Nat.le_of_ble_eq_true rfl) rfl ?_ rfl
    obtain ⟨xf0, xf1, xf2, xf3, xf4, xf5, xf6, xf7, xf8, xf9, xf10, xf11, xf12, xf13, xf14, xf15, xf16, xf17, xf18, xf19, xf20, xf21, xf22, xf23, xf24, xf25, xf26, xf27⟩ := rfs h00
    have c1 : (b_cmp0 r_ne0 (e_fld 10 25 (e_al 0))) [some (.ref 106)] h = some (true, h) := by simp only [x_out, s_seq, s_ite, s_ret, s_retZ, s_retV, s_iasg, s_aasg, s_lasg, s_inc, s_put, s_putop, s_ast, s_astop, s_exp, s_call, s_skip, s_brk, s_cont, s_oinit, e_lit, e_long, e_il, e_al, e_ll, e_bin, e_un, e_fld, e_ald, e_tern, e_call, e_alen, b_cmp, b_cmp0, b_lcmp, b_and, b_or, b_not, o_add, o_sub, o_mul, o_and, o_or, o_xor, o_shl, o_shr, o_neg, o_i2l, o_l2i, o_i2c, r_eq, r_ne, r_lt, r_ge, r_gt, r_le, r_eq0, r_ne0, r_lt0, r_ge0, r_gt0, r_le0, x_int, x_ref, x_long, x_args, x_nar, xKd, xst1, xst2, xlg, Option.bind_some, Option.bind_none, Option.map_some, Option.map_none, List.getElem?_cons_zero, List.getElem?_cons_succ, List.set_cons_zero, List.set_cons_succ, List.length_cons, List.length_nil, List.length_map, List.length_range, List.length_set, decide_eq_true_eq, if_true, if_false, reduceIte, reduceCtorEq, Bool.not_true, Bool.not_false, Bool.false_eq_true, x_ix_nI, ax_get, ax_set, e_aald, s_aast, true_and, and_true, ite_true, ite_false, ↓bI_01, bI_eq0, bI_eq1, bool_or, tern_pure, and_pure, or_pure, bI_def, bne_t, ndf, decide_not, Bool.decide_eq_true, Bool.decide_and, Bool.decide_or, Nat.reduceEqDiff, Nat.reduceAdd, Nat.reduceMul, Nat.reduceSub, Nat.reduceLT, Nat.reduceLeDiff, or_false, false_or, or_true, true_or, and_false, false_and, Bool.or_eq_true, Bool.and_eq_true, Bool.or_false, Bool.or_true, Bool.true_or, Bool.false_or, Bool.and_true, Bool.and_false, Bool.true_and, Bool.false_and, decide_true, decide_false, not_true_eq_false, not_false_eq_true, xf0, xf1, xf2, xf3, xf4, xf5, xf6, xf7, xf8, xf9, xf10, xf11, xf12, xf13, xf14, xf15, xf16, xf17, xf18, xf19, xf20, xf21, xf22, xf23, xf24, xf25, xf26, xf27]
    unfold bd_X10_takesFields
    rw [s_seq_r ((s_ite_t (b_or_t c1)).trans (ret_Z0 _ _))]
    rfl
  | false =>
    subst hot
    rw [if_neg (by simp)]
    obtain ⟨h1, pl1, nm1, e1, H1, F1, v1⟩ := takesNumber_r H hl ha h2 (lo := 1) (hi := 8) (sg := 59) (by omega) (by omega) (by omega) (by omega)
    have c1 : (b_cmp0 r_ne0 (e_fld 10 25 (e_al 0))) [some (.ref 106)] h = some (false, h) := by
      obtain ⟨xf0, xf1, xf2, xf3, xf4, xf5, xf6, xf7, xf8, xf9, xf10, xf11, xf12, xf13, xf14, xf15, xf16, xf17, xf18, xf19, xf20, xf21, xf22, xf23, xf24, xf25, xf26, xf27⟩ := rfs h00
      simp only [x_out, s_seq, s_ite, s_ret, s_retZ, s_retV, s_iasg, s_aasg, s_lasg, s_inc, s_put, s_putop, s_ast, s_astop, s_exp, s_call, s_skip, s_brk, s_cont, s_oinit, e_lit, e_long, e_il, e_al, e_ll, e_bin, e_un, e_fld, e_ald, e_tern, e_call, e_alen, b_cmp, b_cmp0, b_lcmp, b_and, b_or, b_not, o_add, o_sub, o_mul, o_and, o_or, o_xor, o_shl, o_shr, o_neg, o_i2l, o_l2i, o_i2c, r_eq, r_ne, r_lt, r_ge, r_gt, r_le, r_eq0, r_ne0, r_lt0, r_ge0, r_gt0, r_le0, x_int, x_ref, x_long, x_args, x_nar, xKd, xst1, xst2, xlg, Option.bind_some, Option.bind_none, Option.map_some, Option.map_none, List.getElem?_cons_zero, List.getElem?_cons_succ, List.set_cons_zero, List.set_cons_succ, List.length_cons, List.length_nil, List.length_map, List.length_range, List.length_set, decide_eq_true_eq, if_true, if_false, reduceIte, reduceCtorEq, Bool.not_true, Bool.not_false, Bool.false_eq_true, x_ix_nI, ax_get, ax_set, e_aald, s_aast, true_and, and_true, ite_true, ite_false, ↓bI_01, bI_eq0, bI_eq1, bool_or, tern_pure, and_pure, or_pure, bI_def, bne_t, ndf, decide_not, Bool.decide_eq_true, Bool.decide_and, Bool.decide_or, Nat.reduceEqDiff, Nat.reduceAdd, Nat.reduceMul, Nat.reduceSub, Nat.reduceLT, Nat.reduceLeDiff, or_false, false_or, or_true, true_or, and_false, false_and, Bool.or_eq_true, Bool.and_eq_true, Bool.or_false, Bool.or_true, Bool.true_or, Bool.false_or, Bool.and_true, Bool.and_false, Bool.true_and, Bool.false_and, decide_true, decide_false, not_true_eq_false, not_false_eq_true, xf0, xf1, xf2, xf3, xf4, xf5, xf6, xf7, xf8, xf9, xf10, xf11, xf12, xf13, xf14, xf15, xf16, xf17, xf18, xf19, xf20, xf21, xf22, xf23, xf24, xf25, xf26, xf27]
    have c2 := tnb (A := e_lit 1) (B := e_lit 8) (C := e_lit 59) (env := [some (.ref 106)]) rfl rfl rfl rfl e1
    have c3 := b_or_h c1 c2
    cases ht : tkB l pl 1 8 59 with
    | none =>
      rw [ht] at c3
      refine ⟨h1, ?_, f6Z F1, pl1, nm1, T, H1⟩
      refine xM_run (env := [some (.ref 106)]) h00 rfl rfl (Nat.le_of_ble_eq_true rfl) rfl ?_ rfl
      unfold bd_X10_takesFields
      rw [s_seq_r ((s_ite_t c3).trans (ret_Z0 _ _))]
      rfl
    | some r =>
      obtain ⟨v, j⟩ := r
      rw [ht] at c3
      obtain ⟨rfl, rfl⟩ := v1 v j ht
      obtain ⟨x0, ⟨f1, x1, w1⟩, ⟨f2, x2, w2⟩, x3⟩ := H1
      have h01 : h1[106]? = some (.inl (10, _)) := x0
      have F2 := xFr.set h01 (c' := pZ0 q k P sn l.length pl1 nm1 (pSetF T nm1) false) (by rfl)
      have m2 := set_at h01 (c' := pZ0 q k P sn l.length pl1 nm1 (pSetF T nm1) false)
      have s2 : (s_put 10 19 0 (e_al 0) (e_fld 10 18 (e_al 0))) [some (.ref 106)] h1 = some (none, [some (.ref 106)], h1.set 106 (pZ0 q k P sn l.length pl1 nm1 (pSetF T nm1) false)) := by
        obtain ⟨xf0, xf1, xf2, xf3, xf4, xf5, xf6, xf7, xf8, xf9, xf10, xf11, xf12, xf13, xf14, xf15, xf16, xf17, xf18, xf19, xf20, xf21, xf22, xf23, xf24, xf25, xf26, xf27⟩ := rfs h01
        simp (disch := omega) only [x_out, s_seq, s_ite, s_ret, s_retZ, s_retV, s_iasg, s_aasg, s_lasg, s_inc, s_put, s_putop, s_ast, s_astop, s_exp, s_call, s_skip, s_brk, s_cont, s_oinit, e_lit, e_long, e_il, e_al, e_ll, e_bin, e_un, e_fld, e_ald, e_tern, e_call, e_alen, b_cmp, b_cmp0, b_lcmp, b_and, b_or, b_not, o_add, o_sub, o_mul, o_and, o_or, o_xor, o_shl, o_shr, o_neg, o_i2l, o_l2i, o_i2c, r_eq, r_ne, r_lt, r_ge, r_gt, r_le, r_eq0, r_ne0, r_lt0, r_ge0, r_gt0, r_le0, x_int, x_ref, x_long, x_args, x_nar, xKd, xst1, xst2, xlg, Option.bind_some, Option.bind_none, Option.map_some, Option.map_none, List.getElem?_cons_zero, List.getElem?_cons_succ, List.set_cons_zero, List.set_cons_succ, List.length_cons, List.length_nil, List.length_map, List.length_range, List.length_set, decide_eq_true_eq, if_true, if_false, reduceIte, reduceCtorEq, Bool.not_true, Bool.not_false, Bool.false_eq_true, x_ix_nI, ax_get, ax_set, e_aald, s_aast, true_and, and_true, ite_true, ite_false, ↓bI_01, bI_eq0, bI_eq1, bool_or, tern_pure, and_pure, or_pure, bI_def, bne_t, ndf, decide_not, Bool.decide_eq_true, Bool.decide_and, Bool.decide_or, Nat.reduceEqDiff, Nat.reduceAdd, Nat.reduceMul, Nat.reduceSub, Nat.reduceLT, Nat.reduceLeDiff, or_false, false_or, or_true, true_or, and_false, false_and, Bool.or_eq_true, Bool.and_eq_true, Bool.or_false, Bool.or_true, Bool.true_or, Bool.false_or, Bool.and_true, Bool.and_false, Bool.true_and, Bool.false_and, decide_true, decide_false, not_true_eq_false, not_false_eq_true, xf0, xf1, xf2, xf3, xf4, xf5, xf6, xf7, xf8, xf9, xf10, xf11, xf12, xf13, xf14, xf15, xf16, xf17, xf18, xf19, xf20, xf21, xf22, xf23, xf24, xf25, xf26, xf27, h01]
        rfl
      refine ⟨_, ?_, f6Z ((F1.trans F2).mono fun b hb => hb.elim id id), nm1, m2, ⟨f1, (F2.2.2 116 (by omega)).trans x1, w1⟩, ⟨f2, (F2.2.2 117 (by omega)).trans x2, w2⟩, x3.same (F2.2.2 115 (by omega))⟩
      refine xM_run (env := [some (.ref 106)]) h00 rfl rfl (Nat.le_of_ble_eq_true rfl) rfl ?_ rfl
      unfold bd_X10_takesFields
      rw [s_seq_n ((s_ite_f c3).trans (skip_n _ _)), s_seq_n s2, ret_Z1]
      rfl
theorem takesBreaks_r (H : RPa h q k P sn l pl nm T ot) (hl : l.length ≤ 200) (ha : ∀ x, x ∈ l → 32 ≤ x ∧ x ≤ 126) (h2 : pl ≤ 900) : ∃ h', m_X10_takesBreaks [.ref 106] h = some (some (.int (bI (itB l pl T).isSome)), h') ∧ RQ h h' q k P sn l T ot (itB l pl T) := by
  have h00 : h[106]? = some (.inl (10, _)) := H.1
  unfold itB
  obtain ⟨h1, pl1, nm1, e1, H1, F1, v1⟩ := takesNumber_r H hl ha h2 (lo := 10) (hi := 99) (sg := 59) (by omega) (by omega) (by omega) (by omega)
  have c3 := tnb (A := e_lit 10) (B := e_lit 99) (C := e_lit 59) (env := [some (.ref 106)]) rfl rfl rfl rfl e1
  cases ht : tkB l pl 10 99 59 with
  | none =>
    rw [ht] at c3
    refine ⟨h1, ?_, f6Z F1, pl1, nm1, T, H1⟩
    refine xM_run (env := [some (.ref 106)]) h00 rfl rfl (Nat.le_of_ble_eq_true rfl) rfl ?_ rfl
    unfold bd_X10_takesBreaks
    rw [s_seq_r ((s_ite_t c3).trans (ret_Z0 _ _))]
    rfl
  | some r =>
    obtain ⟨v, j⟩ := r
    rw [ht] at c3
    obtain ⟨rfl, rfl⟩ := v1 v j ht
    obtain ⟨x0, ⟨f1, x1, w1⟩, ⟨f2, x2, w2⟩, x3⟩ := H1
    have h01 : h1[106]? = some (.inl (10, _)) := x0
    have F2 := xFr.set h01 (c' := pZ0 q k P sn l.length pl1 nm1 (pSetB T nm1) ot) (by rfl)
    have m2 := set_at h01 (c' := pZ0 q k P sn l.length pl1 nm1 (pSetB T nm1) ot)
    have s2 : (s_put 10 24 0 (e_al 0) (e_fld 10 18 (e_al 0))) [some (.ref 106)] h1 = some (none, [some (.ref 106)], h1.set 106 (pZ0 q k P sn l.length pl1 nm1 (pSetB T nm1) ot)) := by
      obtain ⟨xf0, xf1, xf2, xf3, xf4, xf5, xf6, xf7, xf8, xf9, xf10, xf11, xf12, xf13, xf14, xf15, xf16, xf17, xf18, xf19, xf20, xf21, xf22, xf23, xf24, xf25, xf26, xf27⟩ := rfs h01
      simp (disch := omega) only [x_out, s_seq, s_ite, s_ret, s_retZ, s_retV, s_iasg, s_aasg, s_lasg, s_inc, s_put, s_putop, s_ast, s_astop, s_exp, s_call, s_skip, s_brk, s_cont, s_oinit, e_lit, e_long, e_il, e_al, e_ll, e_bin, e_un, e_fld, e_ald, e_tern, e_call, e_alen, b_cmp, b_cmp0, b_lcmp, b_and, b_or, b_not, o_add, o_sub, o_mul, o_and, o_or, o_xor, o_shl, o_shr, o_neg, o_i2l, o_l2i, o_i2c, r_eq, r_ne, r_lt, r_ge, r_gt, r_le, r_eq0, r_ne0, r_lt0, r_ge0, r_gt0, r_le0, x_int, x_ref, x_long, x_args, x_nar, xKd, xst1, xst2, xlg, Option.bind_some, Option.bind_none, Option.map_some, Option.map_none, List.getElem?_cons_zero, List.getElem?_cons_succ, List.set_cons_zero, List.set_cons_succ, List.length_cons, List.length_nil, List.length_map, List.length_range, List.length_set, decide_eq_true_eq, if_true, if_false, reduceIte, reduceCtorEq, Bool.not_true, Bool.not_false, Bool.false_eq_true, x_ix_nI, ax_get, ax_set, e_aald, s_aast, true_and, and_true, ite_true, ite_false, ↓bI_01, bI_eq0, bI_eq1, bool_or, tern_pure, and_pure, or_pure, bI_def, bne_t, ndf, decide_not, Bool.decide_eq_true, Bool.decide_and, Bool.decide_or, Nat.reduceEqDiff, Nat.reduceAdd, Nat.reduceMul, Nat.reduceSub, Nat.reduceLT, Nat.reduceLeDiff, or_false, false_or, or_true, true_or, and_false, false_and, Bool.or_eq_true, Bool.and_eq_true, Bool.or_false, Bool.or_true, Bool.true_or, Bool.false_or, Bool.and_true, Bool.and_false, Bool.true_and, Bool.false_and, decide_true, decide_false, not_true_eq_false, not_false_eq_true, xf0, xf1, xf2, xf3, xf4, xf5, xf6, xf7, xf8, xf9, xf10, xf11, xf12, xf13, xf14, xf15, xf16, xf17, xf18, xf19, xf20, xf21, xf22, xf23, xf24, xf25, xf26, xf27, h01]
      rfl
    refine ⟨_, ?_, f6Z ((F1.trans F2).mono fun b hb => hb.elim id id), nm1, m2, ⟨f1, (F2.2.2 116 (by omega)).trans x1, w1⟩, ⟨f2, (F2.2.2 117 (by omega)).trans x2, w2⟩, x3.same (F2.2.2 115 (by omega))⟩
    refine xM_run (env := [some (.ref 106)]) h00 rfl rfl (Nat.le_of_ble_eq_true rfl) rfl ?_ rfl
    unfold bd_X10_takesBreaks
    rw [s_seq_n ((s_ite_f c3).trans (skip_n _ _)), s_seq_n s2, ret_Z1]
    rfl
theorem takesStile_r (H : RPa h q k P sn l pl nm T ot) (O : POK T) (hl : l.length ≤ 200) (ha : ∀ x, x ∈ l → 32 ≤ x ∧ x ≤ 126) (h2 : pl ≤ 900) : ∃ h', m_X10_takesStile [.ref 106] h = some (some (.int (bI (itS l pl T).isSome)), h') ∧ RQ h h' q k P sn l T ot (itS l pl T) := by
  have h00 : h[106]? = some (.inl (10, _)) := H.1
  have o1 := O.1
  have o2 := O.2.1
  have o5 := O.2.2.2.2.1
  unfold itS
  by_cases q9 : pN T = 9
  · rw [if_pos q9]
    refine ⟨h, ?_, xFr.rf _ _, pl, nm, T, H⟩
    have e9 : (nI (pN T) = 9) = True := by rw [q9]; exact eq_true rfl
    have c1 : (b_cmp r_eq (e_fld 10 20 (e_al 0)) (e_lit 9)) [some (.ref 106), none, none] h = some (true, h) := by
      obtain ⟨xf0, xf1, xf2, xf3, xf4, xf5, xf6, xf7, xf8, xf9, xf10, xf11, xf12, xf13, xf14, xf15, xf16, xf17, xf18, xf19, xf20, xf21, xf22, xf23, xf24, xf25, xf26, xf27⟩ := rfs h00
      simp only [x_out, s_seq, s_ite, s_ret, s_retZ, s_retV, s_iasg, s_aasg, s_lasg, s_inc, s_put, s_putop, s_ast, s_astop, s_exp, s_call, s_skip, s_brk, s_cont, s_oinit, e_lit, e_long, e_il, e_al, e_ll, e_bin, e_un, e_fld, e_ald, e_tern, e_call, e_alen, b_cmp, b_cmp0, b_lcmp, b_and, b_or, b_not, o_add, o_sub, o_mul, o_and, o_or, o_xor, o_shl, o_shr, o_neg, o_i2l, o_l2i, o_i2c, r_eq, r_ne, r_lt, r_ge, r_gt, r_le, r_eq0, r_ne0, r_lt0, r_ge0, r_gt0, r_le0, x_int, x_ref, x_long, x_args, x_nar, xKd, xst1, xst2, xlg, Option.bind_some, Option.bind_none, Option.map_some, Option.map_none, List.getElem?_cons_zero, List.getElem?_cons_succ, List.set_cons_zero, List.set_cons_succ, List.length_cons, List.length_nil, List.length_map, List.length_range, List.length_set, decide_eq_true_eq, if_true, if_false, reduceIte, reduceCtorEq, Bool.not_true, Bool.not_false, Bool.false_eq_true, x_ix_nI, ax_get, ax_set, e_aald, s_aast, true_and, and_true, ite_true, ite_false, ↓bI_01, bI_eq0, bI_eq1, bool_or, tern_pure, and_pure, or_pure, bI_def, bne_t, ndf, decide_not, Bool.decide_eq_true, Bool.decide_and, Bool.decide_or, Nat.reduceEqDiff, Nat.reduceAdd, Nat.reduceMul, Nat.reduceSub, Nat.reduceLT, Nat.reduceLeDiff, or_false, false_or, or_true, true_or, and_false, false_and, Bool.or_eq_true, Bool.and_eq_true, Bool.or_false, Bool.or_true, Bool.true_or, Bool.false_or, Bool.and_true, Bool.and_false, Bool.true_and, Bool.false_and, decide_true, decide_false, not_true_eq_false, not_false_eq_true, xf0, xf1, xf2, xf3, xf4, xf5, xf6, xf7, xf8, xf9, xf10, xf11, xf12, xf13, xf14, xf15, xf16, xf17, xf18, xf19, xf20, xf21, xf22, xf23, xf24, xf25, xf26, xf27, e9]
    refine xM_run (env := [some (.ref 106), none, none]) h00 rfl rfl (Nat.le_of_ble_eq_true rfl) rfl ?_ rfl
    unfold bd_X10_takesStile
    rw [s_seq_r ((s_ite_t (b_or_t c1)).trans (ret_Z0 _ _))]
    rfl
  · rw [if_neg q9]
    have e9 : (nI (pN T) = 9) = False := by rw [l9, nI_eq (by omega) (by omega)]; exact eq_false q9
    have c1 : (b_cmp r_eq (e_fld 10 20 (e_al 0)) (e_lit 9)) [some (.ref 106), none, none] h = some (false, h) := by
      obtain ⟨xf0, xf1, xf2, xf3, xf4, xf5, xf6, xf7, xf8, xf9, xf10, xf11, xf12, xf13, xf14, xf15, xf16, xf17, xf18, xf19, xf20, xf21, xf22, xf23, xf24, xf25, xf26, xf27⟩ := rfs h00
      simp only [x_out, s_seq, s_ite, s_ret, s_retZ, s_retV, s_iasg, s_aasg, s_lasg, s_inc, s_put, s_putop, s_ast, s_astop, s_exp, s_call, s_skip, s_brk, s_cont, s_oinit, e_lit, e_long, e_il, e_al, e_ll, e_bin, e_un, e_fld, e_ald, e_tern, e_call, e_alen, b_cmp, b_cmp0, b_lcmp, b_and, b_or, b_not, o_add, o_sub, o_mul, o_and, o_or, o_xor, o_shl, o_shr, o_neg, o_i2l, o_l2i, o_i2c, r_eq, r_ne, r_lt, r_ge, r_gt, r_le, r_eq0, r_ne0, r_lt0, r_ge0, r_gt0, r_le0, x_int, x_ref, x_long, x_args, x_nar, xKd, xst1, xst2, xlg, Option.bind_some, Option.bind_none, Option.map_some, Option.map_none, List.getElem?_cons_zero, List.getElem?_cons_succ, List.set_cons_zero, List.set_cons_succ, List.length_cons, List.length_nil, List.length_map, List.length_range, List.length_set, decide_eq_true_eq, if_true, if_false, reduceIte, reduceCtorEq, Bool.not_true, Bool.not_false, Bool.false_eq_true, x_ix_nI, ax_get, ax_set, e_aald, s_aast, true_and, and_true, ite_true, ite_false, ↓bI_01, bI_eq0, bI_eq1, bool_or, tern_pure, and_pure, or_pure, bI_def, bne_t, ndf, decide_not, Bool.decide_eq_true, Bool.decide_and, Bool.decide_or, Nat.reduceEqDiff, Nat.reduceAdd, Nat.reduceMul, Nat.reduceSub, Nat.reduceLT, Nat.reduceLeDiff, or_false, false_or, or_true, true_or, and_false, false_and, Bool.or_eq_true, Bool.and_eq_true, Bool.or_false, Bool.or_true, Bool.true_or, Bool.false_or, Bool.and_true, Bool.and_false, Bool.true_and, Bool.false_and, decide_true, decide_false, not_true_eq_false, not_false_eq_true, xf0, xf1, xf2, xf3, xf4, xf5, xf6, xf7, xf8, xf9, xf10, xf11, xf12, xf13, xf14, xf15, xf16, xf17, xf18, xf19, xf20, xf21, xf22, xf23, xf24, xf25, xf26, xf27, e9]
    obtain ⟨h1, pl1, nm1, e1, H1, F1, v1⟩ := takesNumber_r H hl ha h2 (lo := 0) (hi := 3) (sg := 44) (by omega) (by omega) (by omega) (by omega)
    have c2 := b_or_h c1 (tnb (A := e_lit 0) (B := e_lit 3) (C := e_lit 44) (env := [some (.ref 106), none, none]) rfl rfl rfl rfl e1)
    cases ht : tkB l pl 0 3 44 with
    | none =>
      rw [ht] at c2
      refine ⟨h1, ?_, f6Z F1, pl1, nm1, T, H1⟩
      refine xM_run (env := [some (.ref 106), none, none]) h00 rfl rfl (Nat.le_of_ble_eq_true rfl) rfl ?_ rfl
      unfold bd_X10_takesStile
      rw [s_seq_r ((s_ite_t c2).trans (ret_Z0 _ _))]
      rfl
    | some r =>
      obtain ⟨kk, j1⟩ := r
      rw [ht] at c2
      obtain ⟨rfl, rfl⟩ := v1 kk j1 ht
      obtain ⟨-, -, -, -, jl1⟩ := tkB_spec (by decide) ht
      have h01 : h1[106]? = some (.inl (10, _)) := H1.1
      have s1 : (s_iasg 1 (e_fld 10 18 (e_al 0))) [some (.ref 106), none, none] h1 = some (none, [some (.ref 106), some (.int (nI nm1)), none], h1) := by
        obtain ⟨xf0, xf1, xf2, xf3, xf4, xf5, xf6, xf7, xf8, xf9, xf10, xf11, xf12, xf13, xf14, xf15, xf16, xf17, xf18, xf19, xf20, xf21, xf22, xf23, xf24, xf25, xf26, xf27⟩ := rfs h01
        simp only [x_out, s_seq, s_ite, s_ret, s_retZ, s_retV, s_iasg, s_aasg, s_lasg, s_inc, s_put, s_putop, s_ast, s_astop, s_exp, s_call, s_skip, s_brk, s_cont, s_oinit, e_lit, e_long, e_il, e_al, e_ll, e_bin, e_un, e_fld, e_ald, e_tern, e_call, e_alen, b_cmp, b_cmp0, b_lcmp, b_and, b_or, b_not, o_add, o_sub, o_mul, o_and, o_or, o_xor, o_shl, o_shr, o_neg, o_i2l, o_l2i, o_i2c, r_eq, r_ne, r_lt, r_ge, r_gt, r_le, r_eq0, r_ne0, r_lt0, r_ge0, r_gt0, r_le0, x_int, x_ref, x_long, x_args, x_nar, xKd, xst1, xst2, xlg, Option.bind_some, Option.bind_none, Option.map_some, Option.map_none, List.getElem?_cons_zero, List.getElem?_cons_succ, List.set_cons_zero, List.set_cons_succ, List.length_cons, List.length_nil, List.length_map, List.length_range, List.length_set, decide_eq_true_eq, if_true, if_false, reduceIte, reduceCtorEq, Bool.not_true, Bool.not_false, Bool.false_eq_true, x_ix_nI, ax_get, ax_set, e_aald, s_aast, true_and, and_true, ite_true, ite_false, ↓bI_01, bI_eq0, bI_eq1, bool_or, tern_pure, and_pure, or_pure, bI_def, bne_t, ndf, decide_not, Bool.decide_eq_true, Bool.decide_and, Bool.decide_or, Nat.reduceEqDiff, Nat.reduceAdd, Nat.reduceMul, Nat.reduceSub, Nat.reduceLT, Nat.reduceLeDiff, or_false, false_or, or_true, true_or, and_false, false_and, Bool.or_eq_true, Bool.and_eq_true, Bool.or_false, Bool.or_true, Bool.true_or, Bool.false_or, Bool.and_true, Bool.and_false, Bool.true_and, Bool.false_and, decide_true, decide_false, not_true_eq_false, not_false_eq_true, xf0, xf1, xf2, xf3, xf4, xf5, xf6, xf7, xf8, xf9, xf10, xf11, xf12, xf13, xf14, xf15, xf16, xf17, xf18, xf19, xf20, xf21, xf22, xf23, xf24, xf25, xf26, xf27]
      have fe : (e_bin o_sub (e_fld 10 19 (e_al 0)) (e_lit 1)) [some (.ref 106), some (.int (nI nm1)), none] h1 = some (.int (nI (pF T - 1)), h1) := by
        have : nI (pF T) - 1 = nI (pF T - 1) := pk_sub (b := 1) o1
        obtain ⟨xf0, xf1, xf2, xf3, xf4, xf5, xf6, xf7, xf8, xf9, xf10, xf11, xf12, xf13, xf14, xf15, xf16, xf17, xf18, xf19, xf20, xf21, xf22, xf23, xf24, xf25, xf26, xf27⟩ := rfs h01
        simp only [x_out, s_seq, s_ite, s_ret, s_retZ, s_retV, s_iasg, s_aasg, s_lasg, s_inc, s_put, s_putop, s_ast, s_astop, s_exp, s_call, s_skip, s_brk, s_cont, s_oinit, e_lit, e_long, e_il, e_al, e_ll, e_bin, e_un, e_fld, e_ald, e_tern, e_call, e_alen, b_cmp, b_cmp0, b_lcmp, b_and, b_or, b_not, o_add, o_sub, o_mul, o_and, o_or, o_xor, o_shl, o_shr, o_neg, o_i2l, o_l2i, o_i2c, r_eq, r_ne, r_lt, r_ge, r_gt, r_le, r_eq0, r_ne0, r_lt0, r_ge0, r_gt0, r_le0, x_int, x_ref, x_long, x_args, x_nar, xKd, xst1, xst2, xlg, Option.bind_some, Option.bind_none, Option.map_some, Option.map_none, List.getElem?_cons_zero, List.getElem?_cons_succ, List.set_cons_zero, List.set_cons_succ, List.length_cons, List.length_nil, List.length_map, List.length_range, List.length_set, decide_eq_true_eq, if_true, if_false, reduceIte, reduceCtorEq, Bool.not_true, Bool.not_false, Bool.false_eq_true, x_ix_nI, ax_get, ax_set, e_aald, s_aast, true_and, and_true, ite_true, ite_false, ↓bI_01, bI_eq0, bI_eq1, bool_or, tern_pure, and_pure, or_pure, bI_def, bne_t, ndf, decide_not, Bool.decide_eq_true, Bool.decide_and, Bool.decide_or, Nat.reduceEqDiff, Nat.reduceAdd, Nat.reduceMul, Nat.reduceSub, Nat.reduceLT, Nat.reduceLeDiff, or_false, false_or, or_true, true_or, and_false, false_and, Bool.or_eq_true, Bool.and_eq_true, Bool.or_false, Bool.or_true, Bool.true_or, Bool.false_or, Bool.and_true, Bool.and_false, Bool.true_and, Bool.false_and, decide_true, decide_false, not_true_eq_false, not_false_eq_true, xf0, xf1, xf2, xf3, xf4, xf5, xf6, xf7, xf8, xf9, xf10, xf11, xf12, xf13, xf14, xf15, xf16, xf17, xf18, xf19, xf20, xf21, xf22, xf23, xf24, xf25, xf26, xf27, this]
      obtain ⟨h2', pl2, nm2, e2, H2, F2, v2⟩ := takesNumber_r H1 hl ha (by omega) (lo := 0) (hi := pF T - 1) (sg := 44) (by omega) (by omega) (by omega) (by omega)
      have c3 := tnb (A := e_lit 0) (B := e_bin o_sub (e_fld 10 19 (e_al 0)) (e_lit 1)) (C := e_lit 44) (env := [some (.ref 106), some (.int (nI nm1)), none]) rfl rfl fe rfl e2
      dsimp only
      cases ht2 : tkB l pl1 0 (pF T - 1) 44 with
      | none =>
        rw [ht2] at c3
        refine ⟨h2', ?_, f6Z ((F1.trans F2).mono fun b hb => hb.elim id id), pl2, nm2, T, H2⟩
        refine xM_run (env := [some (.ref 106), none, none]) h00 rfl rfl (Nat.le_of_ble_eq_true rfl) rfl ?_ rfl
        unfold bd_X10_takesStile
        rw [s_seq_n ((s_ite_f c2).trans (skip_n _ _)), s_seq_n s1, s_seq_r ((s_ite_t c3).trans (ret_Z0 _ _))]
        rfl
      | some r =>
        obtain ⟨a, j2⟩ := r
        rw [ht2] at c3
        obtain ⟨rfl, rfl⟩ := v2 a j2 ht2
        obtain ⟨-, -, ab, -, jl2⟩ := tkB_spec (by decide) ht2
        have h02 : h2'[106]? = some (.inl (10, _)) := H2.1
        have s2 : (s_iasg 2 (e_fld 10 18 (e_al 0))) [some (.ref 106), some (.int (nI nm1)), none] h2' = some (none, [some (.ref 106), some (.int (nI nm1)), some (.int (nI nm2))], h2') := by
          obtain ⟨xf0, xf1, xf2, xf3, xf4, xf5, xf6, xf7, xf8, xf9, xf10, xf11, xf12, xf13, xf14, xf15, xf16, xf17, xf18, xf19, xf20, xf21, xf22, xf23, xf24, xf25, xf26, xf27⟩ := rfs h02
          simp only [x_out, s_seq, s_ite, s_ret, s_retZ, s_retV, s_iasg, s_aasg, s_lasg, s_inc, s_put, s_putop, s_ast, s_astop, s_exp, s_call, s_skip, s_brk, s_cont, s_oinit, e_lit, e_long, e_il, e_al, e_ll, e_bin, e_un, e_fld, e_ald, e_tern, e_call, e_alen, b_cmp, b_cmp0, b_lcmp, b_and, b_or, b_not, o_add, o_sub, o_mul, o_and, o_or, o_xor, o_shl, o_shr, o_neg, o_i2l, o_l2i, o_i2c, r_eq, r_ne, r_lt, r_ge, r_gt, r_le, r_eq0, r_ne0, r_lt0, r_ge0, r_gt0, r_le0, x_int, x_ref, x_long, x_args, x_nar, xKd, xst1, xst2, xlg, Option.bind_some, Option.bind_none, Option.map_some, Option.map_none, List.getElem?_cons_zero, List.getElem?_cons_succ, List.set_cons_zero, List.set_cons_succ, List.length_cons, List.length_nil, List.length_map, List.length_range, List.length_set, decide_eq_true_eq, if_true, if_false, reduceIte, reduceCtorEq, Bool.not_true, Bool.not_false, Bool.false_eq_true, x_ix_nI, ax_get, ax_set, e_aald, s_aast, true_and, and_true, ite_true, ite_false, ↓bI_01, bI_eq0, bI_eq1, bool_or, tern_pure, and_pure, or_pure, bI_def, bne_t, ndf, decide_not, Bool.decide_eq_true, Bool.decide_and, Bool.decide_or, Nat.reduceEqDiff, Nat.reduceAdd, Nat.reduceMul, Nat.reduceSub, Nat.reduceLT, Nat.reduceLeDiff, or_false, false_or, or_true, true_or, and_false, false_and, Bool.or_eq_true, Bool.and_eq_true, Bool.or_false, Bool.or_true, Bool.true_or, Bool.false_or, Bool.and_true, Bool.and_false, Bool.true_and, Bool.false_and, decide_true, decide_false, not_true_eq_false, not_false_eq_true, xf0, xf1, xf2, xf3, xf4, xf5, xf6, xf7, xf8, xf9, xf10, xf11, xf12, xf13, xf14, xf15, xf16, xf17, xf18, xf19, xf20, xf21, xf22, xf23, xf24, xf25, xf26, xf27]
        have fe2 : (e_bin o_sub (e_fld 10 19 (e_al 0)) (e_lit 1)) [some (.ref 106), some (.int (nI nm1)), some (.int (nI nm2))] h2' = some (.int (nI (pF T - 1)), h2') := by
          have : nI (pF T) - 1 = nI (pF T - 1) := pk_sub (b := 1) o1
          obtain ⟨xf0, xf1, xf2, xf3, xf4, xf5, xf6, xf7, xf8, xf9, xf10, xf11, xf12, xf13, xf14, xf15, xf16, xf17, xf18, xf19, xf20, xf21, xf22, xf23, xf24, xf25, xf26, xf27⟩ := rfs h02
          simp only [x_out, s_seq, s_ite, s_ret, s_retZ, s_retV, s_iasg, s_aasg, s_lasg, s_inc, s_put, s_putop, s_ast, s_astop, s_exp, s_call, s_skip, s_brk, s_cont, s_oinit, e_lit, e_long, e_il, e_al, e_ll, e_bin, e_un, e_fld, e_ald, e_tern, e_call, e_alen, b_cmp, b_cmp0, b_lcmp, b_and, b_or, b_not, o_add, o_sub, o_mul, o_and, o_or, o_xor, o_shl, o_shr, o_neg, o_i2l, o_l2i, o_i2c, r_eq, r_ne, r_lt, r_ge, r_gt, r_le, r_eq0, r_ne0, r_lt0, r_ge0, r_gt0, r_le0, x_int, x_ref, x_long, x_args, x_nar, xKd, xst1, xst2, xlg, Option.bind_some, Option.bind_none, Option.map_some, Option.map_none, List.getElem?_cons_zero, List.getElem?_cons_succ, List.set_cons_zero, List.set_cons_succ, List.length_cons, List.length_nil, List.length_map, List.length_range, List.length_set, decide_eq_true_eq, if_true, if_false, reduceIte, reduceCtorEq, Bool.not_true, Bool.not_false, Bool.false_eq_true, x_ix_nI, ax_get, ax_set, e_aald, s_aast, true_and, and_true, ite_true, ite_false, ↓bI_01, bI_eq0, bI_eq1, bool_or, tern_pure, and_pure, or_pure, bI_def, bne_t, ndf, decide_not, Bool.decide_eq_true, Bool.decide_and, Bool.decide_or, Nat.reduceEqDiff, Nat.reduceAdd, Nat.reduceMul, Nat.reduceSub, Nat.reduceLT, Nat.reduceLeDiff, or_false, false_or, or_true, true_or, and_false, false_and, Bool.or_eq_true, Bool.and_eq_true, Bool.or_false, Bool.or_true, Bool.true_or, Bool.false_or, Bool.and_true, Bool.and_false, Bool.true_and, Bool.false_and, decide_true, decide_false, not_true_eq_false, not_false_eq_true, xf0, xf1, xf2, xf3, xf4, xf5, xf6, xf7, xf8, xf9, xf10, xf11, xf12, xf13, xf14, xf15, xf16, xf17, xf18, xf19, xf20, xf21, xf22, xf23, xf24, xf25, xf26, xf27, this]
        obtain ⟨h3, pl3, nm3, e3, H3, F3, v3⟩ := takesNumber_r H2 hl ha (by omega) (lo := 0) (hi := pF T - 1) (sg := 59) (by omega) (by omega) (by omega) (by omega)
        have c4 := tnb (A := e_lit 0) (B := e_bin o_sub (e_fld 10 19 (e_al 0)) (e_lit 1)) (C := e_lit 59) (env := [some (.ref 106), some (.int (nI nm1)), some (.int (nI nm2))]) rfl rfl fe2 rfl e3
        have Fr3 : xFr (fun b => b = 106) h h3 := ((F1.trans F2).trans F3).mono fun b hb => by rcases hb with (hb | hb) | hb <;> exact hb
        dsimp only
        cases ht3 : tkB l pl2 0 (pF T - 1) 59 with
        | none =>
          rw [ht3] at c4
          refine ⟨h3, ?_, f6Z Fr3, pl3, nm3, T, H3⟩
          refine xM_run (env := [some (.ref 106), none, none]) h00 rfl rfl (Nat.le_of_ble_eq_true rfl) rfl ?_ rfl
          unfold bd_X10_takesStile
          rw [s_seq_n ((s_ite_f c2).trans (skip_n _ _)), s_seq_n s1, s_seq_n ((s_ite_f c3).trans (skip_n _ _)), s_seq_n s2, s_seq_r ((s_ite_t (b_or_t c4)).trans (ret_Z0 _ _))]
          rfl
        | some r =>
          obtain ⟨b, j3⟩ := r
          rw [ht3] at c4
          obtain ⟨rfl, rfl⟩ := v3 b j3 ht3
          obtain ⟨-, -, bb, -, jl3⟩ := tkB_spec (by decide) ht3
          have h03 : h3[106]? = some (.inl (10, _)) := H3.1
          have ne : (nI nm3 = nI nm2) = (nm3 = nm2) := propext (nI_eq (by omega) (by omega))
          have c5 : (b_cmp r_eq (e_fld 10 18 (e_al 0)) (e_il 2)) [some (.ref 106), some (.int (nI nm1)), some (.int (nI nm2))] h3 = some (decide (nm3 = nm2), h3) := by
            obtain ⟨xf0, xf1, xf2, xf3, xf4, xf5, xf6, xf7, xf8, xf9, xf10, xf11, xf12, xf13, xf14, xf15, xf16, xf17, xf18, xf19, xf20, xf21, xf22, xf23, xf24, xf25, xf26, xf27⟩ := rfs h03
            simp only [x_out, s_seq, s_ite, s_ret, s_retZ, s_retV, s_iasg, s_aasg, s_lasg, s_inc, s_put, s_putop, s_ast, s_astop, s_exp, s_call, s_skip, s_brk, s_cont, s_oinit, e_lit, e_long, e_il, e_al, e_ll, e_bin, e_un, e_fld, e_ald, e_tern, e_call, e_alen, b_cmp, b_cmp0, b_lcmp, b_and, b_or, b_not, o_add, o_sub, o_mul, o_and, o_or, o_xor, o_shl, o_shr, o_neg, o_i2l, o_l2i, o_i2c, r_eq, r_ne, r_lt, r_ge, r_gt, r_le, r_eq0, r_ne0, r_lt0, r_ge0, r_gt0, r_le0, x_int, x_ref, x_long, x_args, x_nar, xKd, xst1, xst2, xlg, Option.bind_some, Option.bind_none, Option.map_some, Option.map_none, List.getElem?_cons_zero, List.getElem?_cons_succ, List.set_cons_zero, List.set_cons_succ, List.length_cons, List.length_nil, List.length_map, List.length_range, List.length_set, decide_eq_true_eq, if_true, if_false, reduceIte, reduceCtorEq, Bool.not_true, Bool.not_false, Bool.false_eq_true, x_ix_nI, ax_get, ax_set, e_aald, s_aast, true_and, and_true, ite_true, ite_false, ↓bI_01, bI_eq0, bI_eq1, bool_or, tern_pure, and_pure, or_pure, bI_def, bne_t, ndf, decide_not, Bool.decide_eq_true, Bool.decide_and, Bool.decide_or, Nat.reduceEqDiff, Nat.reduceAdd, Nat.reduceMul, Nat.reduceSub, Nat.reduceLT, Nat.reduceLeDiff, or_false, false_or, or_true, true_or, and_false, false_and, Bool.or_eq_true, Bool.and_eq_true, Bool.or_false, Bool.or_true, Bool.true_or, Bool.false_or, Bool.and_true, Bool.and_false, Bool.true_and, Bool.false_and, decide_true, decide_false, not_true_eq_false, not_false_eq_true, xf0, xf1, xf2, xf3, xf4, xf5, xf6, xf7, xf8, xf9, xf10, xf11, xf12, xf13, xf14, xf15, xf16, xf17, xf18, xf19, xf20, xf21, xf22, xf23, xf24, xf25, xf26, xf27, ne]
          have c6 := b_or_h c4 c5
          dsimp only
          by_cases y : nm3 = nm2
          · rw [if_pos y]
            rw [decide_eq_true y] at c6
            refine ⟨h3, ?_, f6Z Fr3, pl3, nm3, T, H3⟩
            refine xM_run (env := [some (.ref 106), none, none]) h00 rfl rfl (Nat.le_of_ble_eq_true rfl) rfl ?_ rfl
            unfold bd_X10_takesStile
            rw [s_seq_n ((s_ite_f c2).trans (skip_n _ _)), s_seq_n s1, s_seq_n ((s_ite_f c3).trans (skip_n _ _)), s_seq_n s2, s_seq_r ((s_ite_t c6).trans (ret_Z0 _ _))]
            rfl
          · rw [if_neg y]
            rw [decide_eq_false y] at c6
            obtain ⟨h4, e4, H4, F4⟩ := addsStile_r H3 (by omega) nm1 nm2 nm3
            refine ⟨h4, ?_, ((f6Z Fr3).trans F4).mono fun b hb => hb.elim id id, nm3, H4⟩
            have s4 : (s_call m_X10_addsStile [(e_al 0), (e_il 1), (e_il 2), (e_fld 10 18 (e_al 0))]) [some (.ref 106), some (.int (nI nm1)), some (.int (nI nm2))] h3 = some (none, [some (.ref 106), some (.int (nI nm1)), some (.int (nI nm2))], h4) := by
              obtain ⟨xf0, xf1, xf2, xf3, xf4, xf5, xf6, xf7, xf8, xf9, xf10, xf11, xf12, xf13, xf14, xf15, xf16, xf17, xf18, xf19, xf20, xf21, xf22, xf23, xf24, xf25, xf26, xf27⟩ := rfs h03
              simp only [x_out, s_seq, s_ite, s_ret, s_retZ, s_retV, s_iasg, s_aasg, s_lasg, s_inc, s_put, s_putop, s_ast, s_astop, s_exp, s_call, s_skip, s_brk, s_cont, s_oinit, e_lit, e_long, e_il, e_al, e_ll, e_bin, e_un, e_fld, e_ald, e_tern, e_call, e_alen, b_cmp, b_cmp0, b_lcmp, b_and, b_or, b_not, o_add, o_sub, o_mul, o_and, o_or, o_xor, o_shl, o_shr, o_neg, o_i2l, o_l2i, o_i2c, r_eq, r_ne, r_lt, r_ge, r_gt, r_le, r_eq0, r_ne0, r_lt0, r_ge0, r_gt0, r_le0, x_int, x_ref, x_long, x_args, x_nar, xKd, xst1, xst2, xlg, Option.bind_some, Option.bind_none, Option.map_some, Option.map_none, List.getElem?_cons_zero, List.getElem?_cons_succ, List.set_cons_zero, List.set_cons_succ, List.length_cons, List.length_nil, List.length_map, List.length_range, List.length_set, decide_eq_true_eq, if_true, if_false, reduceIte, reduceCtorEq, Bool.not_true, Bool.not_false, Bool.false_eq_true, x_ix_nI, ax_get, ax_set, e_aald, s_aast, true_and, and_true, ite_true, ite_false, ↓bI_01, bI_eq0, bI_eq1, bool_or, tern_pure, and_pure, or_pure, bI_def, bne_t, ndf, decide_not, Bool.decide_eq_true, Bool.decide_and, Bool.decide_or, Nat.reduceEqDiff, Nat.reduceAdd, Nat.reduceMul, Nat.reduceSub, Nat.reduceLT, Nat.reduceLeDiff, or_false, false_or, or_true, true_or, and_false, false_and, Bool.or_eq_true, Bool.and_eq_true, Bool.or_false, Bool.or_true, Bool.true_or, Bool.false_or, Bool.and_true, Bool.and_false, Bool.true_and, Bool.false_and, decide_true, decide_false, not_true_eq_false, not_false_eq_true, xf0, xf1, xf2, xf3, xf4, xf5, xf6, xf7, xf8, xf9, xf10, xf11, xf12, xf13, xf14, xf15, xf16, xf17, xf18, xf19, xf20, xf21, xf22, xf23, xf24, xf25, xf26, xf27, e4]
            refine xM_run (env := [some (.ref 106), none, none]) h00 rfl rfl (Nat.le_of_ble_eq_true rfl) rfl ?_ rfl
            unfold bd_X10_takesStile
            rw [s_seq_n ((s_ite_f c2).trans (skip_n _ _)), s_seq_n s1, s_seq_n ((s_ite_f c3).trans (skip_n _ _)), s_seq_n s2, s_seq_n ((s_ite_f c6).trans (skip_n _ _)), s_seq_n s4, ret_Z1]
            rfl
theorem takesWalker_r (H : RPa h q k P sn l pl nm T ot) (O : POK T) (hl : l.length ≤ 200) (ha : ∀ x, x ∈ l → 32 ≤ x ∧ x ≤ 126) (h2 : pl ≤ 900) : ∃ h', m_X10_takesWalker [.ref 106] h = some (some (.int (bI (itW l pl T).isSome)), h') ∧ RQ h h' q k P sn l T ot (itW l pl T) := by
  have h00 : h[106]? = some (.inl (10, _)) := H.1
  have o1 := O.1
  have o2 := O.2.1
  have o6 := O.2.2.2.2.2.1
  unfold itW
  by_cases q9 : pM T = 4
  · rw [if_pos q9]
    refine ⟨h, ?_, xFr.rf _ _, pl, nm, T, H⟩
    have e9 : (nI (pM T) = 4) = True := by rw [q9]; exact eq_true rfl
    have c1 : (b_cmp r_eq (e_fld 10 22 (e_al 0)) (e_lit 4)) [some (.ref 106), none, none] h = some (true, h) := by
      obtain ⟨xf0, xf1, xf2, xf3, xf4, xf5, xf6, xf7, xf8, xf9, xf10, xf11, xf12, xf13, xf14, xf15, xf16, xf17, xf18, xf19, xf20, xf21, xf22, xf23, xf24, xf25, xf26, xf27⟩ := rfs h00
      simp only [x_out, s_seq, s_ite, s_ret, s_retZ, s_retV, s_iasg, s_aasg, s_lasg, s_inc, s_put, s_putop, s_ast, s_astop, s_exp, s_call, s_skip, s_brk, s_cont, s_oinit, e_lit, e_long, e_il, e_al, e_ll, e_bin, e_un, e_fld, e_ald, e_tern, e_call, e_alen, b_cmp, b_cmp0, b_lcmp, b_and, b_or, b_not, o_add, o_sub, o_mul, o_and, o_or, o_xor, o_shl, o_shr, o_neg, o_i2l, o_l2i, o_i2c, r_eq, r_ne, r_lt, r_ge, r_gt, r_le, r_eq0, r_ne0, r_lt0, r_ge0, r_gt0, r_le0, x_int, x_ref, x_long, x_args, x_nar, xKd, xst1, xst2, xlg, Option.bind_some, Option.bind_none, Option.map_some, Option.map_none, List.getElem?_cons_zero, List.getElem?_cons_succ, List.set_cons_zero, List.set_cons_succ, List.length_cons, List.length_nil, List.length_map, List.length_range, List.length_set, decide_eq_true_eq, if_true, if_false, reduceIte, reduceCtorEq, Bool.not_true, Bool.not_false, Bool.false_eq_true, x_ix_nI, ax_get, ax_set, e_aald, s_aast, true_and, and_true, ite_true, ite_false, ↓bI_01, bI_eq0, bI_eq1, bool_or, tern_pure, and_pure, or_pure, bI_def, bne_t, ndf, decide_not, Bool.decide_eq_true, Bool.decide_and, Bool.decide_or, Nat.reduceEqDiff, Nat.reduceAdd, Nat.reduceMul, Nat.reduceSub, Nat.reduceLT, Nat.reduceLeDiff, or_false, false_or, or_true, true_or, and_false, false_and, Bool.or_eq_true, Bool.and_eq_true, Bool.or_false, Bool.or_true, Bool.true_or, Bool.false_or, Bool.and_true, Bool.and_false, Bool.true_and, Bool.false_and, decide_true, decide_false, not_true_eq_false, not_false_eq_true, xf0, xf1, xf2, xf3, xf4, xf5, xf6, xf7, xf8, xf9, xf10, xf11, xf12, xf13, xf14, xf15, xf16, xf17, xf18, xf19, xf20, xf21, xf22, xf23, xf24, xf25, xf26, xf27, e9]
    refine xM_run (env := [some (.ref 106), none, none]) h00 rfl rfl (Nat.le_of_ble_eq_true rfl) rfl ?_ rfl
    unfold bd_X10_takesWalker
    rw [s_seq_r ((s_ite_t (b_or_t c1)).trans (ret_Z0 _ _))]
    rfl
  · rw [if_neg q9]
    have e9 : (nI (pM T) = 4) = False := by rw [l4, nI_eq (by omega) (by omega)]; exact eq_false q9
    have c1 : (b_cmp r_eq (e_fld 10 22 (e_al 0)) (e_lit 4)) [some (.ref 106), none, none] h = some (false, h) := by
      obtain ⟨xf0, xf1, xf2, xf3, xf4, xf5, xf6, xf7, xf8, xf9, xf10, xf11, xf12, xf13, xf14, xf15, xf16, xf17, xf18, xf19, xf20, xf21, xf22, xf23, xf24, xf25, xf26, xf27⟩ := rfs h00
      simp only [x_out, s_seq, s_ite, s_ret, s_retZ, s_retV, s_iasg, s_aasg, s_lasg, s_inc, s_put, s_putop, s_ast, s_astop, s_exp, s_call, s_skip, s_brk, s_cont, s_oinit, e_lit, e_long, e_il, e_al, e_ll, e_bin, e_un, e_fld, e_ald, e_tern, e_call, e_alen, b_cmp, b_cmp0, b_lcmp, b_and, b_or, b_not, o_add, o_sub, o_mul, o_and, o_or, o_xor, o_shl, o_shr, o_neg, o_i2l, o_l2i, o_i2c, r_eq, r_ne, r_lt, r_ge, r_gt, r_le, r_eq0, r_ne0, r_lt0, r_ge0, r_gt0, r_le0, x_int, x_ref, x_long, x_args, x_nar, xKd, xst1, xst2, xlg, Option.bind_some, Option.bind_none, Option.map_some, Option.map_none, List.getElem?_cons_zero, List.getElem?_cons_succ, List.set_cons_zero, List.set_cons_succ, List.length_cons, List.length_nil, List.length_map, List.length_range, List.length_set, decide_eq_true_eq, if_true, if_false, reduceIte, reduceCtorEq, Bool.not_true, Bool.not_false, Bool.false_eq_true, x_ix_nI, ax_get, ax_set, e_aald, s_aast, true_and, and_true, ite_true, ite_false, ↓bI_01, bI_eq0, bI_eq1, bool_or, tern_pure, and_pure, or_pure, bI_def, bne_t, ndf, decide_not, Bool.decide_eq_true, Bool.decide_and, Bool.decide_or, Nat.reduceEqDiff, Nat.reduceAdd, Nat.reduceMul, Nat.reduceSub, Nat.reduceLT, Nat.reduceLeDiff, or_false, false_or, or_true, true_or, and_false, false_and, Bool.or_eq_true, Bool.and_eq_true, Bool.or_false, Bool.or_true, Bool.true_or, Bool.false_or, Bool.and_true, Bool.and_false, Bool.true_and, Bool.false_and, decide_true, decide_false, not_true_eq_false, not_false_eq_true, xf0, xf1, xf2, xf3, xf4, xf5, xf6, xf7, xf8, xf9, xf10, xf11, xf12, xf13, xf14, xf15, xf16, xf17, xf18, xf19, xf20, xf21, xf22, xf23, xf24, xf25, xf26, xf27, e9]
    obtain ⟨h1, pl1, nm1, e1, H1, F1, v1⟩ := takesNumber_r H hl ha h2 (lo := 0) (hi := 3) (sg := 44) (by omega) (by omega) (by omega) (by omega)
    have c2 := b_or_h c1 (tnb (A := e_lit 0) (B := e_lit 3) (C := e_lit 44) (env := [some (.ref 106), none, none]) rfl rfl rfl rfl e1)
    cases ht : tkB l pl 0 3 44 with
    | none =>
      rw [ht] at c2
      refine ⟨h1, ?_, f6Z F1, pl1, nm1, T, H1⟩
      refine xM_run (env := [some (.ref 106), none, none]) h00 rfl rfl (Nat.le_of_ble_eq_true rfl) rfl ?_ rfl
      unfold bd_X10_takesWalker
      rw [s_seq_r ((s_ite_t c2).trans (ret_Z0 _ _))]
      rfl
    | some r =>
      obtain ⟨kk, j1⟩ := r
      rw [ht] at c2
      obtain ⟨rfl, rfl⟩ := v1 kk j1 ht
      obtain ⟨-, -, -, -, jl1⟩ := tkB_spec (by decide) ht
      have h01 : h1[106]? = some (.inl (10, _)) := H1.1
      have s1 : (s_iasg 1 (e_fld 10 18 (e_al 0))) [some (.ref 106), none, none] h1 = some (none, [some (.ref 106), some (.int (nI nm1)), none], h1) := by
        obtain ⟨xf0, xf1, xf2, xf3, xf4, xf5, xf6, xf7, xf8, xf9, xf10, xf11, xf12, xf13, xf14, xf15, xf16, xf17, xf18, xf19, xf20, xf21, xf22, xf23, xf24, xf25, xf26, xf27⟩ := rfs h01
        simp only [x_out, s_seq, s_ite, s_ret, s_retZ, s_retV, s_iasg, s_aasg, s_lasg, s_inc, s_put, s_putop, s_ast, s_astop, s_exp, s_call, s_skip, s_brk, s_cont, s_oinit, e_lit, e_long, e_il, e_al, e_ll, e_bin, e_un, e_fld, e_ald, e_tern, e_call, e_alen, b_cmp, b_cmp0, b_lcmp, b_and, b_or, b_not, o_add, o_sub, o_mul, o_and, o_or, o_xor, o_shl, o_shr, o_neg, o_i2l, o_l2i, o_i2c, r_eq, r_ne, r_lt, r_ge, r_gt, r_le, r_eq0, r_ne0, r_lt0, r_ge0, r_gt0, r_le0, x_int, x_ref, x_long, x_args, x_nar, xKd, xst1, xst2, xlg, Option.bind_some, Option.bind_none, Option.map_some, Option.map_none, List.getElem?_cons_zero, List.getElem?_cons_succ, List.set_cons_zero, List.set_cons_succ, List.length_cons, List.length_nil, List.length_map, List.length_range, List.length_set, decide_eq_true_eq, if_true, if_false, reduceIte, reduceCtorEq, Bool.not_true, Bool.not_false, Bool.false_eq_true, x_ix_nI, ax_get, ax_set, e_aald, s_aast, true_and, and_true, ite_true, ite_false, ↓bI_01, bI_eq0, bI_eq1, bool_or, tern_pure, and_pure, or_pure, bI_def, bne_t, ndf, decide_not, Bool.decide_eq_true, Bool.decide_and, Bool.decide_or, Nat.reduceEqDiff, Nat.reduceAdd, Nat.reduceMul, Nat.reduceSub, Nat.reduceLT, Nat.reduceLeDiff, or_false, false_or, or_true, true_or, and_false, false_and, Bool.or_eq_true, Bool.and_eq_true, Bool.or_false, Bool.or_true, Bool.true_or, Bool.false_or, Bool.and_true, Bool.and_false, Bool.true_and, Bool.false_and, decide_true, decide_false, not_true_eq_false, not_false_eq_true, xf0, xf1, xf2, xf3, xf4, xf5, xf6, xf7, xf8, xf9, xf10, xf11, xf12, xf13, xf14, xf15, xf16, xf17, xf18, xf19, xf20, xf21, xf22, xf23, xf24, xf25, xf26, xf27]
      have fe : (e_bin o_sub (e_fld 10 19 (e_al 0)) (e_lit 1)) [some (.ref 106), some (.int (nI nm1)), none] h1 = some (.int (nI (pF T - 1)), h1) := by
        have : nI (pF T) - 1 = nI (pF T - 1) := pk_sub (b := 1) o1
        obtain ⟨xf0, xf1, xf2, xf3, xf4, xf5, xf6, xf7, xf8, xf9, xf10, xf11, xf12, xf13, xf14, xf15, xf16, xf17, xf18, xf19, xf20, xf21, xf22, xf23, xf24, xf25, xf26, xf27⟩ := rfs h01
        simp only [x_out, s_seq, s_ite, s_ret, s_retZ, s_retV, s_iasg, s_aasg, s_lasg, s_inc, s_put, s_putop, s_ast, s_astop, s_exp, s_call, s_skip, s_brk, s_cont, s_oinit, e_lit, e_long, e_il, e_al, e_ll, e_bin, e_un, e_fld, e_ald, e_tern, e_call, e_alen, b_cmp, b_cmp0, b_lcmp, b_and, b_or, b_not, o_add, o_sub, o_mul, o_and, o_or, o_xor, o_shl, o_shr, o_neg, o_i2l, o_l2i, o_i2c, r_eq, r_ne, r_lt, r_ge, r_gt, r_le, r_eq0, r_ne0, r_lt0, r_ge0, r_gt0, r_le0, x_int, x_ref, x_long, x_args, x_nar, xKd, xst1, xst2, xlg, Option.bind_some, Option.bind_none, Option.map_some, Option.map_none, List.getElem?_cons_zero, List.getElem?_cons_succ, List.set_cons_zero, List.set_cons_succ, List.length_cons, List.length_nil, List.length_map, List.length_range, List.length_set, decide_eq_true_eq, if_true, if_false, reduceIte, reduceCtorEq, Bool.not_true, Bool.not_false, Bool.false_eq_true, x_ix_nI, ax_get, ax_set, e_aald, s_aast, true_and, and_true, ite_true, ite_false, ↓bI_01, bI_eq0, bI_eq1, bool_or, tern_pure, and_pure, or_pure, bI_def, bne_t, ndf, decide_not, Bool.decide_eq_true, Bool.decide_and, Bool.decide_or, Nat.reduceEqDiff, Nat.reduceAdd, Nat.reduceMul, Nat.reduceSub, Nat.reduceLT, Nat.reduceLeDiff, or_false, false_or, or_true, true_or, and_false, false_and, Bool.or_eq_true, Bool.and_eq_true, Bool.or_false, Bool.or_true, Bool.true_or, Bool.false_or, Bool.and_true, Bool.and_false, Bool.true_and, Bool.false_and, decide_true, decide_false, not_true_eq_false, not_false_eq_true, xf0, xf1, xf2, xf3, xf4, xf5, xf6, xf7, xf8, xf9, xf10, xf11, xf12, xf13, xf14, xf15, xf16, xf17, xf18, xf19, xf20, xf21, xf22, xf23, xf24, xf25, xf26, xf27, this]
      obtain ⟨h2', pl2, nm2, e2, H2, F2, v2⟩ := takesNumber_r H1 hl ha (by omega) (lo := 0) (hi := pF T - 1) (sg := 44) (by omega) (by omega) (by omega) (by omega)
      have c3 := tnb (A := e_lit 0) (B := e_bin o_sub (e_fld 10 19 (e_al 0)) (e_lit 1)) (C := e_lit 44) (env := [some (.ref 106), some (.int (nI nm1)), none]) rfl rfl fe rfl e2
      dsimp only
      cases ht2 : tkB l pl1 0 (pF T - 1) 44 with
      | none =>
        rw [ht2] at c3
        refine ⟨h2', ?_, f6Z ((F1.trans F2).mono fun b hb => hb.elim id id), pl2, nm2, T, H2⟩
        refine xM_run (env := [some (.ref 106), none, none]) h00 rfl rfl (Nat.le_of_ble_eq_true rfl) rfl ?_ rfl
        unfold bd_X10_takesWalker
        rw [s_seq_n ((s_ite_f c2).trans (skip_n _ _)), s_seq_n s1, s_seq_r ((s_ite_t c3).trans (ret_Z0 _ _))]
        rfl
      | some r =>
        obtain ⟨a, j2⟩ := r
        rw [ht2] at c3
        obtain ⟨rfl, rfl⟩ := v2 a j2 ht2
        obtain ⟨-, -, ab, -, jl2⟩ := tkB_spec (by decide) ht2
        have h02 : h2'[106]? = some (.inl (10, _)) := H2.1
        have s2 : (s_iasg 2 (e_fld 10 18 (e_al 0))) [some (.ref 106), some (.int (nI nm1)), none] h2' = some (none, [some (.ref 106), some (.int (nI nm1)), some (.int (nI nm2))], h2') := by
          obtain ⟨xf0, xf1, xf2, xf3, xf4, xf5, xf6, xf7, xf8, xf9, xf10, xf11, xf12, xf13, xf14, xf15, xf16, xf17, xf18, xf19, xf20, xf21, xf22, xf23, xf24, xf25, xf26, xf27⟩ := rfs h02
          simp only [x_out, s_seq, s_ite, s_ret, s_retZ, s_retV, s_iasg, s_aasg, s_lasg, s_inc, s_put, s_putop, s_ast, s_astop, s_exp, s_call, s_skip, s_brk, s_cont, s_oinit, e_lit, e_long, e_il, e_al, e_ll, e_bin, e_un, e_fld, e_ald, e_tern, e_call, e_alen, b_cmp, b_cmp0, b_lcmp, b_and, b_or, b_not, o_add, o_sub, o_mul, o_and, o_or, o_xor, o_shl, o_shr, o_neg, o_i2l, o_l2i, o_i2c, r_eq, r_ne, r_lt, r_ge, r_gt, r_le, r_eq0, r_ne0, r_lt0, r_ge0, r_gt0, r_le0, x_int, x_ref, x_long, x_args, x_nar, xKd, xst1, xst2, xlg, Option.bind_some, Option.bind_none, Option.map_some, Option.map_none, List.getElem?_cons_zero, List.getElem?_cons_succ, List.set_cons_zero, List.set_cons_succ, List.length_cons, List.length_nil, List.length_map, List.length_range, List.length_set, decide_eq_true_eq, if_true, if_false, reduceIte, reduceCtorEq, Bool.not_true, Bool.not_false, Bool.false_eq_true, x_ix_nI, ax_get, ax_set, e_aald, s_aast, true_and, and_true, ite_true, ite_false, ↓bI_01, bI_eq0, bI_eq1, bool_or, tern_pure, and_pure, or_pure, bI_def, bne_t, ndf, decide_not, Bool.decide_eq_true, Bool.decide_and, Bool.decide_or, Nat.reduceEqDiff, Nat.reduceAdd, Nat.reduceMul, Nat.reduceSub, Nat.reduceLT, Nat.reduceLeDiff, or_false, false_or, or_true, true_or, and_false, false_and, Bool.or_eq_true, Bool.and_eq_true, Bool.or_false, Bool.or_true, Bool.true_or, Bool.false_or, Bool.and_true, Bool.and_false, Bool.true_and, Bool.false_and, decide_true, decide_false, not_true_eq_false, not_false_eq_true, xf0, xf1, xf2, xf3, xf4, xf5, xf6, xf7, xf8, xf9, xf10, xf11, xf12, xf13, xf14, xf15, xf16, xf17, xf18, xf19, xf20, xf21, xf22, xf23, xf24, xf25, xf26, xf27]
        obtain ⟨h3, pl3, nm3, e3, H3, F3, v3⟩ := takesNumber_r H2 hl ha (by omega) (lo := 1) (hi := 9) (sg := 59) (by omega) (by omega) (by omega) (by omega)
        have c4 := tnb (A := e_lit 1) (B := e_lit 9) (C := e_lit 59) (env := [some (.ref 106), some (.int (nI nm1)), some (.int (nI nm2))]) rfl rfl rfl rfl e3
        have Fr3 : xFr (fun b => b = 106) h h3 := ((F1.trans F2).trans F3).mono fun b hb => by rcases hb with (hb | hb) | hb <;> exact hb
        dsimp only
        cases ht3 : tkB l pl2 1 9 59 with
        | none =>
          rw [ht3] at c4
          refine ⟨h3, ?_, f6Z Fr3, pl3, nm3, T, H3⟩
          refine xM_run (env := [some (.ref 106), none, none]) h00 rfl rfl (Nat.le_of_ble_eq_true rfl) rfl ?_ rfl
          unfold bd_X10_takesWalker
          rw [s_seq_n ((s_ite_f c2).trans (skip_n _ _)), s_seq_n s1, s_seq_n ((s_ite_f c3).trans (skip_n _ _)), s_seq_n s2, s_seq_r ((s_ite_t c4).trans (ret_Z0 _ _))]
          rfl
        | some r =>
          obtain ⟨b, j3⟩ := r
          rw [ht3] at c4
          obtain ⟨rfl, rfl⟩ := v3 b j3 ht3
          have h03 : h3[106]? = some (.inl (10, _)) := H3.1
          dsimp only
          obtain ⟨h4, e4, H4, F4⟩ := addsWalker_r H3 (by omega) nm1 nm2 nm3
          refine ⟨h4, ?_, ((f6Z Fr3).trans F4).mono fun b hb => hb.elim id id, nm3, H4⟩
          have s4 : (s_call m_X10_addsWalker [(e_al 0), (e_il 1), (e_il 2), (e_fld 10 18 (e_al 0))]) [some (.ref 106), some (.int (nI nm1)), some (.int (nI nm2))] h3 = some (none, [some (.ref 106), some (.int (nI nm1)), some (.int (nI nm2))], h4) := by
            obtain ⟨xf0, xf1, xf2, xf3, xf4, xf5, xf6, xf7, xf8, xf9, xf10, xf11, xf12, xf13, xf14, xf15, xf16, xf17, xf18, xf19, xf20, xf21, xf22, xf23, xf24, xf25, xf26, xf27⟩ := rfs h03
            simp only [x_out, s_seq, s_ite, s_ret, s_retZ, s_retV, s_iasg, s_aasg, s_lasg, s_inc, s_put, s_putop, s_ast, s_astop, s_exp, s_call, s_skip, s_brk, s_cont, s_oinit, e_lit, e_long, e_il, e_al, e_ll, e_bin, e_un, e_fld, e_ald, e_tern, e_call, e_alen, b_cmp, b_cmp0, b_lcmp, b_and, b_or, b_not, o_add, o_sub, o_mul, o_and, o_or, o_xor, o_shl, o_shr, o_neg, o_i2l, o_l2i, o_i2c, r_eq, r_ne, r_lt, r_ge, r_gt, r_le, r_eq0, r_ne0, r_lt0, r_ge0, r_gt0, r_le0, x_int, x_ref, x_long, x_args, x_nar, xKd, xst1, xst2, xlg, Option.bind_some, Option.bind_none, Option.map_some, Option.map_none, List.getElem?_cons_zero, List.getElem?_cons_succ, List.set_cons_zero, List.set_cons_succ, List.length_cons, List.length_nil, List.length_map, List.length_range, List.length_set, decide_eq_true_eq, if_true, if_false, reduceIte, reduceCtorEq, Bool.not_true, Bool.not_false, Bool.false_eq_true, x_ix_nI, ax_get, ax_set, e_aald, s_aast, true_and, and_true, ite_true, ite_false, ↓bI_01, bI_eq0, bI_eq1, bool_or, tern_pure, and_pure, or_pure, bI_def, bne_t, ndf, decide_not, Bool.decide_eq_true, Bool.decide_and, Bool.decide_or, Nat.reduceEqDiff, Nat.reduceAdd, Nat.reduceMul, Nat.reduceSub, Nat.reduceLT, Nat.reduceLeDiff, or_false, false_or, or_true, true_or, and_false, false_and, Bool.or_eq_true, Bool.and_eq_true, Bool.or_false, Bool.or_true, Bool.true_or, Bool.false_or, Bool.and_true, Bool.and_false, Bool.true_and, Bool.false_and, decide_true, decide_false, not_true_eq_false, not_false_eq_true, xf0, xf1, xf2, xf3, xf4, xf5, xf6, xf7, xf8, xf9, xf10, xf11, xf12, xf13, xf14, xf15, xf16, xf17, xf18, xf19, xf20, xf21, xf22, xf23, xf24, xf25, xf26, xf27, e4]
          refine xM_run (env := [some (.ref 106), none, none]) h00 rfl rfl (Nat.le_of_ble_eq_true rfl) rfl ?_ rfl
          unfold bd_X10_takesWalker
          rw [s_seq_n ((s_ite_f c2).trans (skip_n _ _)), s_seq_n s1, s_seq_n ((s_ite_f c3).trans (skip_n _ _)), s_seq_n s2, s_seq_n ((s_ite_f c4).trans (skip_n _ _)), s_seq_n s4, ret_Z1]
          rfl
end RI
