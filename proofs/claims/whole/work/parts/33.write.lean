theorem cx_row {h : XH} {a n : Nat} {f : Nat → Int32} (hh : h[a]? = some (carr n f)) : x_row 1 (.ref a) h = some (a, (List.range n).map f) := by
  simp [x_row, hh, carr]
theorem cx_def (n : Nat) (f : Nat → Int32) : (Sum.inr (Sum.inl (1, (List.range n).map f)) : XC) = carr n f := rfl
theorem ch_ofChar : ∀ k : Nat, k < 127 → 32 ≤ k → ((nI k).toUInt32 % 65536).toInt32 = nI k ∧ x_nar 1 (nI k) = nI k := by decide +kernel
section WR
variable {h : XH} {Y : XSy} {c : Nat} {l : List Nat}
theorem append_x (H : LAt h l) (hl : l.length ≤ 200) {k : Nat} (h1 : 32 ≤ k) (h2 : k < 127) : (l.length = 200 → m_X8_append [.ref 1, .int (nI k)] h = some (some (.int 0), h)) ∧ (l.length < 200 → ∃ h', m_X8_append [.ref 1, .int (nI k)] h = some (some (.int 1), h') ∧ LAt h' (l ++ [k]) ∧ xFr (fun b => 1 ≤ b ∧ b ≤ 10) h h') := by
  obtain ⟨⟨nc, ff, t0⟩, ⟨f, t1, t2⟩, ⟨f3, t3⟩, t4⟩ := H
  have r1 := cx_row t1
  have l200 : (200 : Int32) = nI 200 := rfl
  have nk : vp_nar .char (nI k) = nI k := (ch_ofChar k h2 h1).2
  refine ⟨fun q => ?_, fun q => ?_⟩
  · have q2 : 200 ≤ l.length := by omega
    refine xM_run (env := [some (.ref 1), some (.int (nI k))]) t0 rfl rfl (Nat.le_of_ble_eq_true rfl) rfl ?_ rfl
    simp (disch := omega) only [bd_X8_append, x_out, s_seq, s_ite, s_ret, s_retZ, s_retV, s_iasg, s_aasg, s_lasg, s_inc, s_put, s_putop, s_ast, s_astop, s_exp, s_call, s_skip, s_brk, s_cont, s_oinit, e_lit, e_long, e_il, e_al, e_ll, e_bin, e_un, e_fld, e_ald, e_tern, e_call, e_alen, b_cmp, b_cmp0, b_lcmp, b_and, b_or, b_not, o_add, o_sub, o_mul, o_and, o_or, o_xor, o_shl, o_shr, o_neg, o_i2l, o_l2i, o_i2c, r_eq, r_ne, r_lt, r_ge, r_gt, r_le, r_eq0, r_ne0, r_lt0, r_ge0, r_gt0, r_le0, x_fld, x_int, x_ref, x_long, x_args, x_nar, xKd, xst1, xst2, xlg, Option.bind_some, Option.bind_none, Option.map_some, Option.map_none, List.getElem?_cons_zero, List.getElem?_cons_succ, List.set_cons_zero, List.set_cons_succ, List.length_cons, List.length_nil, List.length_map, List.length_range, List.length_set, decide_eq_true_eq, if_true, if_false, reduceIte, reduceCtorEq, Bool.not_true, Bool.not_false, Bool.false_eq_true, x_ix_nI, ax_get, ax_set, e_aald, s_aast, true_and, and_true, ite_true, ite_false, ↓bI_01, bI_eq0, bI_eq1, bool_or, tern_pure, and_pure, or_pure, bI_def, bne_t, ndf, decide_not, Bool.decide_eq_true, Bool.decide_and, Bool.decide_or, Nat.reduceEqDiff, Nat.reduceAdd, Nat.reduceMul, Nat.reduceSub, Nat.reduceLT, Nat.reduceLeDiff, or_false, false_or, or_true, true_or, and_false, false_and, Bool.or_eq_true, Bool.and_eq_true, Bool.or_false, Bool.or_true, Bool.true_or, Bool.false_or, Bool.and_true, Bool.and_false, Bool.true_and, Bool.false_and, decide_true, decide_false, not_true_eq_false, not_false_eq_true, l200, nI_leI, t0, q2]
  · have q2 : ¬ 200 ≤ l.length := by omega
    have F1 := xFr.set t1 (c' := carr 200 (upd f l.length (nI k))) (by simp [carr, xSz])
    generalize hh1 : h.set 9 (carr 200 (upd f l.length (nI k))) = h1 at F1
    have t0' : h1[1]? = some (.inl (8, [.int (nI l.length), .ref 2, .ref 9, .ref 10, .int nc, .int ff])) := (F1.2.2 1 (by omega)).trans t0
    have t1' : h1[9]? = some (carr 200 (upd f l.length (nI k))) := by rw [← hh1]; exact set_at t1
    have F2 := xFr.set t0' (c' := .inl (8, [.int (nI (l.length + 1)), .ref 2, .ref 9, .ref 10, .int nc, .int ff])) (by rfl)
    generalize hh2 : h1.set 1 (.inl (8, [.int (nI (l.length + 1)), .ref 2, .ref 9, .ref 10, .int nc, .int ff])) = h2' at F2
    have F := F1.trans F2
    refine ⟨h2', ?_, ⟨⟨nc, ff, ?_⟩, ⟨_, (F2.2.2 9 (by omega)).trans t1', fun i hi => ?_⟩, ⟨f3, (F.2.2 10 (by omega)).trans t3⟩, t4.same fun a a1 a2 => F.2.2 a (by omega)⟩, F.mono fun b hb => ?_⟩
    · refine xM_run (env := [some (.ref 1), some (.int (nI k))]) t0 rfl rfl (Nat.le_of_ble_eq_true rfl) rfl ?_ rfl
      simp (disch := omega) only [bd_X8_append, x_out, s_seq, s_ite, s_ret, s_retZ, s_retV, s_iasg, s_aasg, s_lasg, s_inc, s_put, s_putop, s_ast, s_astop, s_exp, s_call, s_skip, s_brk, s_cont, s_oinit, e_lit, e_long, e_il, e_al, e_ll, e_bin, e_un, e_fld, e_ald, e_tern, e_call, e_alen, b_cmp, b_cmp0, b_lcmp, b_and, b_or, b_not, o_add, o_sub, o_mul, o_and, o_or, o_xor, o_shl, o_shr, o_neg, o_i2l, o_l2i, o_i2c, r_eq, r_ne, r_lt, r_ge, r_gt, r_le, r_eq0, r_ne0, r_lt0, r_ge0, r_gt0, r_le0, x_fld, x_int, x_ref, x_long, x_args, x_nar, xKd, xst1, xst2, xlg, Option.bind_some, Option.bind_none, Option.map_some, Option.map_none, List.getElem?_cons_zero, List.getElem?_cons_succ, List.set_cons_zero, List.set_cons_succ, List.length_cons, List.length_nil, List.length_map, List.length_range, List.length_set, decide_eq_true_eq, if_true, if_false, reduceIte, reduceCtorEq, Bool.not_true, Bool.not_false, Bool.false_eq_true, x_ix_nI, ax_get, ax_set, e_aald, s_aast, true_and, and_true, ite_true, ite_false, ↓bI_01, bI_eq0, bI_eq1, bool_or, tern_pure, and_pure, or_pure, bI_def, bne_t, ndf, decide_not, Bool.decide_eq_true, Bool.decide_and, Bool.decide_or, Nat.reduceEqDiff, Nat.reduceAdd, Nat.reduceMul, Nat.reduceSub, Nat.reduceLT, Nat.reduceLeDiff, or_false, false_or, or_true, true_or, and_false, false_and, Bool.or_eq_true, Bool.and_eq_true, Bool.or_false, Bool.or_true, Bool.true_or, Bool.false_or, Bool.and_true, Bool.and_false, Bool.true_and, Bool.false_and, decide_true, decide_false, not_true_eq_false, not_false_eq_true, l200, nI_leI, nI_1, t0, t0', r1, q2, q, nk, cx_def, hh1, hh2]
    · rw [← hh2, List.length_append]; exact set_at t0'
    · rw [List.length_append] at hi
      simp only [List.length_cons, List.length_nil, Nat.zero_add] at hi
      unfold upd
      by_cases e : i = l.length
      · subst e; simp
      · rw [if_neg e, t2 i (by omega)]
        simp [List.getD_eq_getElem?_getD, List.getElem?_append_left (show i < l.length by omega)]
    · rcases hb with hb | hb <;> subst hb <;> exact ⟨by omega, by omega⟩
def inC (x : Int32) : Bool := decide (32 ≤ x) && decide (x ≤ 126)
theorem inC_cases (x : Int32) : (inC x = false ∧ (decide (x < 32) || decide (126 < x)) = true) ∨ ∃ k, 32 ≤ k ∧ k < 127 ∧ x = nI k ∧ inC x = true := by
  have e32 : (32 : Int32) = nI 32 := rfl
  have e126 : (126 : Int32) = nI 126 := rfl
  rcases pk_ix x (n := 127) (by omega) with q | q | ⟨k, hk, rfl⟩
  · left
    have a1 : x < 32 := Int32.lt_trans q (by decide)
    have a2 : ¬ (32 : Int32) ≤ x := by simpa using a1
    simp [inC, a1, a2]
  · left
    have a1 : 126 < x := Int32.lt_of_lt_of_le (by decide) q
    have a2 : ¬ x ≤ (126 : Int32) := by simpa using a1
    simp [inC, a1, a2]
  · by_cases q : 32 ≤ k
    · right
      refine ⟨k, q, hk, rfl, ?_⟩
      have a1 : (32 : Int32) ≤ nI k := by rw [e32, nI_leI (by omega) (by omega)]; exact q
      have a2 : nI k ≤ 126 := by rw [e126, nI_leI (by omega) (by omega)]; omega
      simp [inC, a1, a2]
    · left
      have a1 : nI k < (32 : Int32) := by rw [e32, nI_ltI (by omega) (by omega)]; omega
      have a2 : ¬ (32 : Int32) ≤ nI k := by simpa using a1
      simp [inC, a1, a2]
def aWrite (Y : XSy) (x : Int32) : Int32 := if inC x = false then -1 else if (yL Y).length = 200 then -3 else nI ((yL Y).length + 1)
def yWrite (Y : XSy) (x : Int32) : XSy := if inC x = false then Y else if (yL Y).length = 200 then Y else (yP Y, yS Y, yQ Y, yK Y, yG Y, yL Y ++ [iN x])
theorem write_d (H : DAt h Y) (K : YOK c Y) (x : Int32) : ∃ h', m_X9_write [.ref 0, .int x] h = some (some (.int (aWrite Y x)), h') ∧ DAt h' (yWrite Y x) ∧ xFr dC h h' := by
  obtain ⟨g0, g1, -⟩ := id H
  unfold aWrite yWrite
  rcases inC_cases x with ⟨q, q0⟩ | ⟨k, k1, k2, rfl, q⟩
  · refine ⟨h, ?_, by simpa [q] using H, xFr.rf _ _⟩
    refine xM_run (env := [some (.ref 0), some (.int x)]) g0 rfl rfl (Nat.le_of_ble_eq_true rfl) rfl ?_ rfl
    by_cases q1 : x < 32
    · simp (disch := omega) only [bd_X9_write, x_out, s_seq, s_ite, s_ret, s_retZ, s_retV, s_iasg, s_aasg, s_lasg, s_inc, s_put, s_putop, s_ast, s_astop, s_exp, s_call, s_skip, s_brk, s_cont, s_oinit, e_lit, e_long, e_il, e_al, e_ll, e_bin, e_un, e_fld, e_ald, e_tern, e_call, e_alen, b_cmp, b_cmp0, b_lcmp, b_and, b_or, b_not, o_add, o_sub, o_mul, o_and, o_or, o_xor, o_shl, o_shr, o_neg, o_i2l, o_l2i, o_i2c, r_eq, r_ne, r_lt, r_ge, r_gt, r_le, r_eq0, r_ne0, r_lt0, r_ge0, r_gt0, r_le0, x_fld, x_int, x_ref, x_long, x_args, x_nar, xKd, xst1, xst2, xlg, Option.bind_some, Option.bind_none, Option.map_some, Option.map_none, List.getElem?_cons_zero, List.getElem?_cons_succ, List.set_cons_zero, List.set_cons_succ, List.length_cons, List.length_nil, List.length_map, List.length_range, List.length_set, decide_eq_true_eq, if_true, if_false, reduceIte, reduceCtorEq, Bool.not_true, Bool.not_false, Bool.false_eq_true, x_ix_nI, ax_get, ax_set, e_aald, s_aast, true_and, and_true, ite_true, ite_false, ↓bI_01, bI_eq0, bI_eq1, bool_or, tern_pure, and_pure, or_pure, bI_def, bne_t, ndf, decide_not, Bool.decide_eq_true, Bool.decide_and, Bool.decide_or, Nat.reduceEqDiff, Nat.reduceAdd, Nat.reduceMul, Nat.reduceSub, Nat.reduceLT, Nat.reduceLeDiff, or_false, false_or, or_true, true_or, and_false, false_and, Bool.or_eq_true, Bool.and_eq_true, Bool.or_false, Bool.or_true, Bool.true_or, Bool.false_or, Bool.and_true, Bool.and_false, Bool.true_and, Bool.false_and, decide_true, decide_false, not_true_eq_false, not_false_eq_true, g0, q, q1]
    · have q2 : 126 < x := by simpa [q1] using q0
      simp (disch := omega) only [bd_X9_write, x_out, s_seq, s_ite, s_ret, s_retZ, s_retV, s_iasg, s_aasg, s_lasg, s_inc, s_put, s_putop, s_ast, s_astop, s_exp, s_call, s_skip, s_brk, s_cont, s_oinit, e_lit, e_long, e_il, e_al, e_ll, e_bin, e_un, e_fld, e_ald, e_tern, e_call, e_alen, b_cmp, b_cmp0, b_lcmp, b_and, b_or, b_not, o_add, o_sub, o_mul, o_and, o_or, o_xor, o_shl, o_shr, o_neg, o_i2l, o_l2i, o_i2c, r_eq, r_ne, r_lt, r_ge, r_gt, r_le, r_eq0, r_ne0, r_lt0, r_ge0, r_gt0, r_le0, x_fld, x_int, x_ref, x_long, x_args, x_nar, xKd, xst1, xst2, xlg, Option.bind_some, Option.bind_none, Option.map_some, Option.map_none, List.getElem?_cons_zero, List.getElem?_cons_succ, List.set_cons_zero, List.set_cons_succ, List.length_cons, List.length_nil, List.length_map, List.length_range, List.length_set, decide_eq_true_eq, if_true, if_false, reduceIte, reduceCtorEq, Bool.not_true, Bool.not_false, Bool.false_eq_true, x_ix_nI, ax_get, ax_set, e_aald, s_aast, true_and, and_true, ite_true, ite_false, ↓bI_01, bI_eq0, bI_eq1, bool_or, tern_pure, and_pure, or_pure, bI_def, bne_t, ndf, decide_not, Bool.decide_eq_true, Bool.decide_and, Bool.decide_or, Nat.reduceEqDiff, Nat.reduceAdd, Nat.reduceMul, Nat.reduceSub, Nat.reduceLT, Nat.reduceLeDiff, or_false, false_or, or_true, true_or, and_false, false_and, Bool.or_eq_true, Bool.and_eq_true, Bool.or_false, Bool.or_true, Bool.true_or, Bool.false_or, Bool.and_true, Bool.and_false, Bool.true_and, Bool.false_and, decide_true, decide_false, not_true_eq_false, not_false_eq_true, g0, q, q1, q2]
  · have e32 : (32 : Int32) = nI 32 := rfl
    have e126 : (126 : Int32) = nI 126 := rfl
    have a1 : ¬ nI k < (32 : Int32) := by rw [e32, nI_ltI (by omega) (by omega)]; omega
    have a2 : ¬ (126 : Int32) < nI k := by rw [e126, nI_ltI (by omega) (by omega)]; omega
    have nk := (ch_ofChar k k2 k1).1
    have hl : (yL Y).length ≤ 200 := K.2.2.2.2.2.2.2.1
    have e1 := append_x g1 hl k1 k2
    by_cases q4 : (yL Y).length = 200
    · have e3 := e1.1 q4
      refine ⟨h, ?_, by simpa [q, q4] using H, xFr.rf _ _⟩
      refine xM_run (env := [some (.ref 0), some (.int (nI k))]) g0 rfl rfl (Nat.le_of_ble_eq_true rfl) rfl ?_ rfl
      simp (disch := omega) only [bd_X9_write, x_out, s_seq, s_ite, s_ret, s_retZ, s_retV, s_iasg, s_aasg, s_lasg, s_inc, s_put, s_putop, s_ast, s_astop, s_exp, s_call, s_skip, s_brk, s_cont, s_oinit, e_lit, e_long, e_il, e_al, e_ll, e_bin, e_un, e_fld, e_ald, e_tern, e_call, e_alen, b_cmp, b_cmp0, b_lcmp, b_and, b_or, b_not, o_add, o_sub, o_mul, o_and, o_or, o_xor, o_shl, o_shr, o_neg, o_i2l, o_l2i, o_i2c, r_eq, r_ne, r_lt, r_ge, r_gt, r_le, r_eq0, r_ne0, r_lt0, r_ge0, r_gt0, r_le0, x_fld, x_int, x_ref, x_long, x_args, x_nar, xKd, xst1, xst2, xlg, Option.bind_some, Option.bind_none, Option.map_some, Option.map_none, List.getElem?_cons_zero, List.getElem?_cons_succ, List.set_cons_zero, List.set_cons_succ, List.length_cons, List.length_nil, List.length_map, List.length_range, List.length_set, decide_eq_true_eq, if_true, if_false, reduceIte, reduceCtorEq, Bool.not_true, Bool.not_false, Bool.false_eq_true, x_ix_nI, ax_get, ax_set, e_aald, s_aast, true_and, and_true, ite_true, ite_false, ↓bI_01, bI_eq0, bI_eq1, bool_or, tern_pure, and_pure, or_pure, bI_def, bne_t, ndf, decide_not, Bool.decide_eq_true, Bool.decide_and, Bool.decide_or, Nat.reduceEqDiff, Nat.reduceAdd, Nat.reduceMul, Nat.reduceSub, Nat.reduceLT, Nat.reduceLeDiff, or_false, false_or, or_true, true_or, and_false, false_and, Bool.or_eq_true, Bool.and_eq_true, Bool.or_false, Bool.or_true, Bool.true_or, Bool.false_or, Bool.and_true, Bool.and_false, Bool.true_and, Bool.false_and, decide_true, decide_false, not_true_eq_false, not_false_eq_true, g0, e3, q, q4, a1, a2, nk]
    · obtain ⟨h', e3, e4, e5⟩ := e1.2 (by omega)
      have D1 := H.putL e5 e4
      have g0' := D1.1
      obtain ⟨⟨nc, ff, t0⟩, -⟩ := id e4
      refine ⟨h', ?_, ?_, e5.mono fun b hb => ?_⟩
      · refine xM_run (env := [some (.ref 0), some (.int (nI k))]) g0 rfl rfl (Nat.le_of_ble_eq_true rfl) rfl ?_ rfl
        simp (disch := omega) only [bd_X9_write, x_out, s_seq, s_ite, s_ret, s_retZ, s_retV, s_iasg, s_aasg, s_lasg, s_inc, s_put, s_putop, s_ast, s_astop, s_exp, s_call, s_skip, s_brk, s_cont, s_oinit, e_lit, e_long, e_il, e_al, e_ll, e_bin, e_un, e_fld, e_ald, e_tern, e_call, e_alen, b_cmp, b_cmp0, b_lcmp, b_and, b_or, b_not, o_add, o_sub, o_mul, o_and, o_or, o_xor, o_shl, o_shr, o_neg, o_i2l, o_l2i, o_i2c, r_eq, r_ne, r_lt, r_ge, r_gt, r_le, r_eq0, r_ne0, r_lt0, r_ge0, r_gt0, r_le0, x_fld, x_int, x_ref, x_long, x_args, x_nar, xKd, xst1, xst2, xlg, Option.bind_some, Option.bind_none, Option.map_some, Option.map_none, List.getElem?_cons_zero, List.getElem?_cons_succ, List.set_cons_zero, List.set_cons_succ, List.length_cons, List.length_nil, List.length_map, List.length_range, List.length_set, decide_eq_true_eq, if_true, if_false, reduceIte, reduceCtorEq, Bool.not_true, Bool.not_false, Bool.false_eq_true, x_ix_nI, ax_get, ax_set, e_aald, s_aast, true_and, and_true, ite_true, ite_false, ↓bI_01, bI_eq0, bI_eq1, bool_or, tern_pure, and_pure, or_pure, bI_def, bne_t, ndf, decide_not, Bool.decide_eq_true, Bool.decide_and, Bool.decide_or, Nat.reduceEqDiff, Nat.reduceAdd, Nat.reduceMul, Nat.reduceSub, Nat.reduceLT, Nat.reduceLeDiff, or_false, false_or, or_true, true_or, and_false, false_and, Bool.or_eq_true, Bool.and_eq_true, Bool.or_false, Bool.or_true, Bool.true_or, Bool.false_or, Bool.and_true, Bool.and_false, Bool.true_and, Bool.false_and, decide_true, decide_false, not_true_eq_false, not_false_eq_true, i10, decide_false, g0, g0', t0, e3, q, q4, a1, a2, nk, List.length_append]
      · simp only [q, q4, Bool.true_eq_false, if_false, iN_nI (show k < 2 ^ 31 by omega)]
        exact D1
      · unfold dC; omega
end WR
