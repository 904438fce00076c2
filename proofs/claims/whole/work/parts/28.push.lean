/-! a state put by; the oldest lost -/
section QP
variable {h : XH} {y M a c : Nat} {P : XP} {S : XT} {ps : List XT}
theorem rx_self {h : XH} {a n : Nat} {f : Nat → Nat} (ha : a < h.length) : x_rrow (.ref a) (h.set a (rarr n f)) = some (a, (List.range n).map fun i => some (f i)) := rx_row (List.getElem?_set_self ha)
theorem rx_len {h : XH} {a n : Nat} {f : Nat → Nat} (hh : h[a]? = some (rarr n f)) : x_len (.ref a) h = some (nI n) := by simp [x_len, hh, rarr, nI]
theorem loseOldest_x (H : QAt h y M ps) (hM : M < 900) (hM1 : 1 ≤ M) (hf : ps.length = M) : ∃ h', m_X7_loseOldest [.ref y] h = some (none, h') ∧ QAt h' y M (ps.drop 1) ∧ xFr (qCells y M) h h' := by
  obtain ⟨h0, h1, rs, h2, h3, h4, h5, h6⟩ := id H
  have hlen : y + 1 < h.length := (List.getElem?_eq_some_iff.mp h2).1
  have hobj : ∀ i, i < M → ∃ fs, h[rs i]? = some (.inl (6, fs)) := fun i hi => by
    obtain ⟨S, hS⟩ := h5 i hi
    exact ⟨_, hS.1⟩
  have hne : ∀ i, i < M → rs i ≠ y ∧ rs i ≠ y + 1 := fun i hi => by
    obtain ⟨j, hj, e1⟩ := h3 i hi
    omega
  have hl := s_loop_run (c := lc_X7_loseOldest_1) (a := la_X7_loseOldest_1) (u := lu_X7_loseOldest_1) (fun k => ([some (.ref y), some (.ref (rs 0)), some (.int (nI (k + 1)))], h.set (y + 1) (rarr M fun j => if j < k then rs (j + 1) else rs j))) (none, [some (.ref y), some (.ref (rs 0)), some (.int (nI (M - 1 + 1)))], h.set (y + 1) (rarr M fun j => if j < M - 1 then rs (j + 1) else rs j)) (M - 1) 1000 (by omega)
    (fun k hk => by
      have t0 : (h.set (y + 1) (rarr M fun j => if j < k then rs (j + 1) else rs j))[y]? = some (.inl (7, [.int (nI ps.length), .ref (y + 1)])) := (set_ne (by omega)).trans h1
      have t1 := rx_self (h := h) (a := y + 1) (n := M) (f := fun j => if j < k then rs (j + 1) else rs j) hlen
      have t2 := rx_len (h := h.set (y + 1) (rarr M fun j => if j < k then rs (j + 1) else rs j)) (List.getElem?_set_self hlen)
      obtain ⟨fs, t3⟩ := hobj (k + 1) (by omega)
      have t4 : (h.set (y + 1) (rarr M fun j => if j < k then rs (j + 1) else rs j))[rs (k + 1)]? = some (.inl (6, fs)) := (set_ne (fun z => (hne (k + 1) (by omega)).2 z.symm)).trans t3
      have q1 : k + 1 < M := by omega
      have q2 : ¬ k + 1 < k := by omega
      simp (disch := omega) only [lc_X7_loseOldest_1, la_X7_loseOldest_1, lu_X7_loseOldest_1, s_step, x_out, s_seq, s_ite, s_ret, s_retZ, s_retV, s_iasg, s_aasg, s_lasg, s_inc, s_put, s_putop, s_ast, s_astop, s_exp, s_call, s_skip, s_brk, s_cont, s_oinit, e_lit, e_long, e_il, e_al, e_ll, e_bin, e_un, e_fld, e_ald, e_tern, e_call, e_alen, b_cmp, b_cmp0, b_lcmp, b_and, b_or, b_not, o_add, o_sub, o_mul, o_and, o_or, o_xor, o_shl, o_shr, o_neg, o_i2l, o_l2i, o_i2c, r_eq, r_ne, r_lt, r_ge, r_gt, r_le, r_eq0, r_ne0, r_lt0, r_ge0, r_gt0, r_le0, x_fld, x_int, x_ref, x_long, x_args, x_nar, xKd, xst1, xst2, xlg, Option.bind_some, Option.bind_none, Option.map_some, Option.map_none, List.getElem?_cons_zero, List.getElem?_cons_succ, List.set_cons_zero, List.set_cons_succ, List.length_cons, List.length_nil, List.length_map, List.length_range, List.length_set, decide_eq_true_eq, if_true, if_false, reduceIte, reduceCtorEq, Bool.not_true, Bool.not_false, Bool.false_eq_true, x_ix_nI, ax_get, ax_set, e_aald, s_aast, true_and, and_true, ite_true, ite_false, ↓bI_01, bI_eq0, bI_eq1, bool_or, tern_pure, and_pure, or_pure, bI_def, bne_t, ndf, decide_not, Bool.decide_eq_true, Bool.decide_and, Bool.decide_or, Nat.reduceEqDiff, Nat.reduceAdd, Nat.reduceMul, Nat.reduceSub, Nat.reduceLT, Nat.reduceLeDiff, or_false, false_or, or_true, true_or, and_false, false_and, Bool.or_eq_true, Bool.and_eq_true, Bool.or_false, Bool.or_true, Bool.true_or, Bool.false_or, Bool.and_true, Bool.and_false, Bool.true_and, Bool.false_and, decide_true, decide_false, not_true_eq_false, not_false_eq_true, t0, t1, t2, t4, nI_ltI, nI_pred, nI_1, rx_get, q1, q2, rx_set, rx_def, List.set_set]
      refine congrArg (fun z => (some (Sum.inr (_, List.set h (y + 1) z)) : Option ((XO × XE × XH) ⊕ (XE × XH)))) (rarr_ext fun j hj => ?_)
      unfold updN
      by_cases q3 : j = k
      · subst q3
        simp
      · by_cases q4 : j < k
        · have q5 : j < k + 1 := by omega
          simp [q3, q4, q5]
        · have q5 : ¬ j < k + 1 := by omega
          simp [q3, q4, q5])
    (by
      have t0 : (h.set (y + 1) (rarr M fun j => if j < M - 1 then rs (j + 1) else rs j))[y]? = some (.inl (7, [.int (nI ps.length), .ref (y + 1)])) := (set_ne (by omega)).trans h1
      have t2 := rx_len (h := h.set (y + 1) (rarr M fun j => if j < M - 1 then rs (j + 1) else rs j)) (List.getElem?_set_self hlen)
      have q1 : ¬ M - 1 + 1 < M := by omega
      simp (disch := omega) only [lc_X7_loseOldest_1, la_X7_loseOldest_1, lu_X7_loseOldest_1, s_step, x_out, s_seq, s_ite, s_ret, s_retZ, s_retV, s_iasg, s_aasg, s_lasg, s_inc, s_put, s_putop, s_ast, s_astop, s_exp, s_call, s_skip, s_brk, s_cont, s_oinit, e_lit, e_long, e_il, e_al, e_ll, e_bin, e_un, e_fld, e_ald, e_tern, e_call, e_alen, b_cmp, b_cmp0, b_lcmp, b_and, b_or, b_not, o_add, o_sub, o_mul, o_and, o_or, o_xor, o_shl, o_shr, o_neg, o_i2l, o_l2i, o_i2c, r_eq, r_ne, r_lt, r_ge, r_gt, r_le, r_eq0, r_ne0, r_lt0, r_ge0, r_gt0, r_le0, x_fld, x_int, x_ref, x_long, x_args, x_nar, xKd, xst1, xst2, xlg, Option.bind_some, Option.bind_none, Option.map_some, Option.map_none, List.getElem?_cons_zero, List.getElem?_cons_succ, List.set_cons_zero, List.set_cons_succ, List.length_cons, List.length_nil, List.length_map, List.length_range, List.length_set, decide_eq_true_eq, if_true, if_false, reduceIte, reduceCtorEq, Bool.not_true, Bool.not_false, Bool.false_eq_true, x_ix_nI, ax_get, ax_set, e_aald, s_aast, true_and, and_true, ite_true, ite_false, ↓bI_01, bI_eq0, bI_eq1, bool_or, tern_pure, and_pure, or_pure, bI_def, bne_t, ndf, decide_not, Bool.decide_eq_true, Bool.decide_and, Bool.decide_or, Nat.reduceEqDiff, Nat.reduceAdd, Nat.reduceMul, Nat.reduceSub, Nat.reduceLT, Nat.reduceLeDiff, or_false, false_or, or_true, true_or, and_false, false_and, Bool.or_eq_true, Bool.and_eq_true, Bool.or_false, Bool.or_true, Bool.true_or, Bool.false_or, Bool.and_true, Bool.and_false, Bool.true_and, Bool.false_and, decide_true, decide_false, not_true_eq_false, not_false_eq_true, t0, t2, nI_ltI, q1])
  have hz : h.set (y + 1) (rarr M fun j => if j < 0 then rs (j + 1) else rs j) = h := by
    have : (rarr M fun j => if j < 0 then rs (j + 1) else rs j) = rarr M rs := rarr_ext fun j _ => by simp
    rw [this]
    exact set_same h2
  simp only [hz, Nat.zero_add] at hl
  have t0 : (h.set (y + 1) (rarr M fun j => if j < M - 1 then rs (j + 1) else rs j))[y]? = some (.inl (7, [.int (nI ps.length), .ref (y + 1)])) := (set_ne (by omega)).trans h1
  have t1 := rx_self (h := h) (a := y + 1) (n := M) (f := fun j => if j < M - 1 then rs (j + 1) else rs j) hlen
  have t2 := rx_len (h := h.set (y + 1) (rarr M fun j => if j < M - 1 then rs (j + 1) else rs j)) (List.getElem?_set_self hlen)
  obtain ⟨fs, t3⟩ := hobj 0 (by omega)
  have t4 : (h.set (y + 1) (rarr M fun j => if j < M - 1 then rs (j + 1) else rs j))[rs 0]? = some (.inl (6, fs)) := (set_ne (fun z => (hne 0 (by omega)).2 z.symm)).trans t3
  have hm1 : nI M - 1 = nI (M - 1) := pk_sub (a := M) (b := 1) hM1
  have s1 : (s_aast (e_fld 7 1 (e_al 0)) (e_bin o_sub (e_alen (e_fld 7 1 (e_al 0))) (e_lit 1)) (e_al 1)) [some (.ref y), some (.ref (rs 0)), some (.int (nI (M - 1 + 1)))] (h.set (y + 1) (rarr M fun j => if j < M - 1 then rs (j + 1) else rs j)) = some (none, [some (.ref y), some (.ref (rs 0)), some (.int (nI (M - 1 + 1)))], h.set (y + 1) (rarr M fun j => if j = M - 1 then rs 0 else rs (j + 1))) := by
    simp (disch := omega) only [x_out, s_seq, s_ite, s_ret, s_retZ, s_retV, s_iasg, s_aasg, s_lasg, s_inc, s_put, s_putop, s_ast, s_astop, s_exp, s_call, s_skip, s_brk, s_cont, s_oinit, e_lit, e_long, e_il, e_al, e_ll, e_bin, e_un, e_fld, e_ald, e_tern, e_call, e_alen, b_cmp, b_cmp0, b_lcmp, b_and, b_or, b_not, o_add, o_sub, o_mul, o_and, o_or, o_xor, o_shl, o_shr, o_neg, o_i2l, o_l2i, o_i2c, r_eq, r_ne, r_lt, r_ge, r_gt, r_le, r_eq0, r_ne0, r_lt0, r_ge0, r_gt0, r_le0, x_fld, x_int, x_ref, x_long, x_args, x_nar, xKd, xst1, xst2, xlg, Option.bind_some, Option.bind_none, Option.map_some, Option.map_none, List.getElem?_cons_zero, List.getElem?_cons_succ, List.set_cons_zero, List.set_cons_succ, List.length_cons, List.length_nil, List.length_map, List.length_range, List.length_set, decide_eq_true_eq, if_true, if_false, reduceIte, reduceCtorEq, Bool.not_true, Bool.not_false, Bool.false_eq_true, x_ix_nI, ax_get, ax_set, e_aald, s_aast, true_and, and_true, ite_true, ite_false, ↓bI_01, bI_eq0, bI_eq1, bool_or, tern_pure, and_pure, or_pure, bI_def, bne_t, ndf, decide_not, Bool.decide_eq_true, Bool.decide_and, Bool.decide_or, Nat.reduceEqDiff, Nat.reduceAdd, Nat.reduceMul, Nat.reduceSub, Nat.reduceLT, Nat.reduceLeDiff, or_false, false_or, or_true, true_or, and_false, false_and, Bool.or_eq_true, Bool.and_eq_true, Bool.or_false, Bool.or_true, Bool.true_or, Bool.false_or, Bool.and_true, Bool.and_false, Bool.true_and, Bool.false_and, decide_true, decide_false, not_true_eq_false, not_false_eq_true, t0, t1, t2, t4, hm1, rx_set, rx_def, List.set_set]
    refine congrArg (fun z => (some (none, _, List.set h (y + 1) z) : Option (XO × XE × XH))) (rarr_ext fun j hj => ?_)
    unfold updN
    by_cases q3 : j = M - 1
    · simp [q3]
    · have q5 : j < M - 1 := by omega
      simp [q3, q5]
  have u0 : (h.set (y + 1) (rarr M fun j => if j = M - 1 then rs 0 else rs (j + 1)))[y]? = some (.inl (7, [.int (nI ps.length), .ref (y + 1)])) := (set_ne (by omega)).trans h1
  have u1 : (h.set (y + 1) (rarr M fun j => if j = M - 1 then rs 0 else rs (j + 1)))[y + 1]? = some (rarr M fun j => if j = M - 1 then rs 0 else rs (j + 1)) := List.getElem?_set_self hlen
  have u2 := rx_len u1
  have un : ∀ b, b ≠ y + 1 → (h.set (y + 1) (rarr M fun j => if j = M - 1 then rs 0 else rs (j + 1)))[b]? = h[b]? := fun b hb => set_ne hb.symm
  have F1 := xFr.set h2 (c' := rarr M fun j => if j = M - 1 then rs 0 else rs (j + 1)) (by simp [rarr, xSz])
  generalize h.set (y + 1) (rarr M fun j => if j = M - 1 then rs 0 else rs (j + 1)) = g1 at s1 u0 u1 u2 un F1
  have s2 : (s_put 7 0 0 (e_al 0) (e_bin o_sub (e_alen (e_fld 7 1 (e_al 0))) (e_lit 1))) [some (.ref y), some (.ref (rs 0)), some (.int (nI (M - 1 + 1)))] g1 = some (none, [some (.ref y), some (.ref (rs 0)), some (.int (nI (M - 1 + 1)))], g1.set y (.inl (7, [.int (nI (M - 1)), .ref (y + 1)]))) := by
    simp (disch := omega) only [x_out, s_seq, s_ite, s_ret, s_retZ, s_retV, s_iasg, s_aasg, s_lasg, s_inc, s_put, s_putop, s_ast, s_astop, s_exp, s_call, s_skip, s_brk, s_cont, s_oinit, e_lit, e_long, e_il, e_al, e_ll, e_bin, e_un, e_fld, e_ald, e_tern, e_call, e_alen, b_cmp, b_cmp0, b_lcmp, b_and, b_or, b_not, o_add, o_sub, o_mul, o_and, o_or, o_xor, o_shl, o_shr, o_neg, o_i2l, o_l2i, o_i2c, r_eq, r_ne, r_lt, r_ge, r_gt, r_le, r_eq0, r_ne0, r_lt0, r_ge0, r_gt0, r_le0, x_fld, x_int, x_ref, x_long, x_args, x_nar, xKd, xst1, xst2, xlg, Option.bind_some, Option.bind_none, Option.map_some, Option.map_none, List.getElem?_cons_zero, List.getElem?_cons_succ, List.set_cons_zero, List.set_cons_succ, List.length_cons, List.length_nil, List.length_map, List.length_range, List.length_set, decide_eq_true_eq, if_true, if_false, reduceIte, reduceCtorEq, Bool.not_true, Bool.not_false, Bool.false_eq_true, x_ix_nI, ax_get, ax_set, e_aald, s_aast, true_and, and_true, ite_true, ite_false, ↓bI_01, bI_eq0, bI_eq1, bool_or, tern_pure, and_pure, or_pure, bI_def, bne_t, ndf, decide_not, Bool.decide_eq_true, Bool.decide_and, Bool.decide_or, Nat.reduceEqDiff, Nat.reduceAdd, Nat.reduceMul, Nat.reduceSub, Nat.reduceLT, Nat.reduceLeDiff, or_false, false_or, or_true, true_or, and_false, false_and, Bool.or_eq_true, Bool.and_eq_true, Bool.or_false, Bool.or_true, Bool.true_or, Bool.false_or, Bool.and_true, Bool.and_false, Bool.true_and, Bool.false_and, decide_true, decide_false, not_true_eq_false, not_false_eq_true, u0, u2, hm1]
  have F2 := xFr.set u0 (c' := .inl (7, [.int (nI (M - 1)), .ref (y + 1)])) (by rfl)
  have v0 := set_at (c' := .inl (7, [.int (nI (M - 1)), .ref (y + 1)])) u0
  have vn : ∀ b, b ≠ y → (g1.set y (.inl (7, [.int (nI (M - 1)), .ref (y + 1)])))[b]? = g1[b]? := fun b hb => set_ne hb.symm
  generalize g1.set y (.inl (7, [.int (nI (M - 1)), .ref (y + 1)])) = g2 at s2 F2 v0 vn
  have keep : ∀ b, b ≠ y → b ≠ y + 1 → g2[b]? = h[b]? := fun b b1 b2 => (vn b b1).trans (un b b2)
  refine ⟨g2, ?_, ⟨by simp; omega, by rw [v0, List.length_drop, hf], fun j => if j = M - 1 then rs 0 else rs (j + 1), (vn _ (by omega)).trans u1, fun i hi => ?_, fun i j hi hj hij => ?_, fun i hi => ?_, fun i S hS => ?_⟩, ?_⟩
  · have r2 := rx_row h2
    refine xM_run (env := [some (.ref y), none, none]) h1 rfl rfl (Nat.le_of_ble_eq_true rfl) rfl ?_ rfl
    rw [show nI 1 = (1 : Int32) from rfl] at hl
    have z0 : x_ix 0 M = some 0 := x_ix_nI (i := 0) (by omega) (by omega)
    simp (disch := omega) only [bd_X7_loseOldest, x_out, s_seq, s_ite, s_ret, s_retZ, s_retV, s_iasg, s_aasg, s_lasg, s_inc, s_exp, s_call, s_skip, s_brk, s_cont, s_oinit, e_lit, e_long, e_il, e_al, e_ll, e_bin, e_un, e_fld, e_ald, e_tern, e_call, e_alen, b_cmp, b_cmp0, b_lcmp, b_and, b_or, b_not, o_add, o_sub, o_mul, o_and, o_or, o_xor, o_shl, o_shr, o_neg, o_i2l, o_l2i, o_i2c, r_eq, r_ne, r_lt, r_ge, r_gt, r_le, r_eq0, r_ne0, r_lt0, r_ge0, r_gt0, r_le0, x_fld, x_int, x_ref, x_long, x_args, x_nar, xKd, xst1, xst2, xlg, Option.bind_some, Option.bind_none, Option.map_some, Option.map_none, List.getElem?_cons_zero, List.getElem?_cons_succ, List.set_cons_zero, List.set_cons_succ, List.length_cons, List.length_nil, List.length_map, List.length_range, List.length_set, decide_eq_true_eq, if_true, if_false, reduceIte, reduceCtorEq, Bool.not_true, Bool.not_false, Bool.false_eq_true, x_ix_nI, ax_get, ax_set, e_aald, true_and, and_true, ite_true, ite_false, ↓bI_01, bI_eq0, bI_eq1, bool_or, tern_pure, and_pure, or_pure, bI_def, bne_t, ndf, decide_not, Bool.decide_eq_true, Bool.decide_and, Bool.decide_or, Nat.reduceEqDiff, Nat.reduceAdd, Nat.reduceMul, Nat.reduceSub, Nat.reduceLT, Nat.reduceLeDiff, or_false, false_or, or_true, true_or, and_false, false_and, Bool.or_eq_true, Bool.and_eq_true, Bool.or_false, Bool.or_true, Bool.true_or, Bool.false_or, Bool.and_true, Bool.and_false, Bool.true_and, Bool.false_and, decide_true, decide_false, not_true_eq_false, not_false_eq_true, h1, r2, z0, rx_get, hl, s1, s2]
  · by_cases q : i = M - 1
    · simp only [if_pos q]; exact h3 0 (by omega)
    · simp only [if_neg q]; exact h3 (i + 1) (by omega)
  · dsimp only at hij
    by_cases q : i = M - 1 <;> by_cases q2 : j = M - 1
    · omega
    · simp only [if_pos q, if_neg q2] at hij
      have := h4 _ _ (by omega) (by omega) hij
      omega
    · simp only [if_neg q, if_pos q2] at hij
      have := h4 _ _ (by omega) (by omega) hij
      omega
    · simp only [if_neg q, if_neg q2] at hij
      have := h4 _ _ (by omega) (by omega) hij
      omega
  · have hk : ∀ k, k < M → ∃ S, SAt g2 (rs k) S := fun k hk => by
      obtain ⟨S, hS⟩ := h5 k hk
      obtain ⟨j, hj, e1⟩ := h3 k hk
      exact ⟨S, hS.same (fun b b1 b2 => keep b (by omega) (by omega))⟩
    dsimp only
    split
    · exact hk 0 (by omega)
    · exact hk (i + 1) (by omega)
  · rw [List.getElem?_drop] at hS
    have hi := (List.getElem?_eq_some_iff.mp hS).1
    have q : ¬ i = M - 1 := by omega
    simp only [if_neg q]
    obtain ⟨j, hj, e1⟩ := h3 (i + 1) (by omega)
    exact (h6 (i + 1) S (by rw [Nat.add_comm]; exact hS)).same (fun b b1 b2 => keep b (by omega) (by omega))
  · exact (F1.trans F2).mono (fun b hb => by
      rcases hb with hb | hb
      · subst hb; exact ⟨by omega, by omega⟩
      · subst hb; exact ⟨by omega, by omega⟩)
theorem push_core (H : QAt h y M ps) (hM : M < 900) (hf : ps.length < M) (HS : SAt h a S) (ha : a + 5 < y) : ∃ g1 h', (s_call m_X6_copyFrom [(e_aald (e_fld 7 1 (e_al 0)) (e_fld 7 0 (e_al 0))), (e_al 1)]) [some (.ref y), some (.ref a)] h = some (none, [some (.ref y), some (.ref a)], g1) ∧ (s_putop 7 0 o_add (e_al 0) (e_lit 1)) [some (.ref y), some (.ref a)] g1 = some (none, [some (.ref y), some (.ref a)], h') ∧ QAt h' y M (ps ++ [S]) ∧ xFr (qCells y M) h h' := by
  obtain ⟨h0, h1, rs, h2, h3, h4, h5, h6⟩ := id H
  obtain ⟨j0, hj0, ej0⟩ := h3 ps.length hf
  obtain ⟨S0, HS0⟩ := h5 ps.length hf
  obtain ⟨g1, e1, K1, F1⟩ := copyS_x HS0 HS (Or.inr (by omega))
  have rr := rx_row h2
  have s1 : (s_call m_X6_copyFrom [(e_aald (e_fld 7 1 (e_al 0)) (e_fld 7 0 (e_al 0))), (e_al 1)]) [some (.ref y), some (.ref a)] h = some (none, [some (.ref y), some (.ref a)], g1) := by
    simp (disch := omega) only [x_out, s_seq, s_ite, s_ret, s_retZ, s_retV, s_iasg, s_aasg, s_lasg, s_inc, s_put, s_putop, s_ast, s_astop, s_exp, s_call, s_skip, s_brk, s_cont, s_oinit, e_lit, e_long, e_il, e_al, e_ll, e_bin, e_un, e_fld, e_ald, e_tern, e_call, e_alen, b_cmp, b_cmp0, b_lcmp, b_and, b_or, b_not, o_add, o_sub, o_mul, o_and, o_or, o_xor, o_shl, o_shr, o_neg, o_i2l, o_l2i, o_i2c, r_eq, r_ne, r_lt, r_ge, r_gt, r_le, r_eq0, r_ne0, r_lt0, r_ge0, r_gt0, r_le0, x_fld, x_int, x_ref, x_long, x_args, x_nar, xKd, xst1, xst2, xlg, Option.bind_some, Option.bind_none, Option.map_some, Option.map_none, List.getElem?_cons_zero, List.getElem?_cons_succ, List.set_cons_zero, List.set_cons_succ, List.length_cons, List.length_nil, List.length_map, List.length_range, List.length_set, decide_eq_true_eq, if_true, if_false, reduceIte, reduceCtorEq, Bool.not_true, Bool.not_false, Bool.false_eq_true, x_ix_nI, ax_get, ax_set, e_aald, s_aast, true_and, and_true, ite_true, ite_false, ↓bI_01, bI_eq0, bI_eq1, bool_or, tern_pure, and_pure, or_pure, bI_def, bne_t, ndf, decide_not, Bool.decide_eq_true, Bool.decide_and, Bool.decide_or, Nat.reduceEqDiff, Nat.reduceAdd, Nat.reduceMul, Nat.reduceSub, Nat.reduceLT, Nat.reduceLeDiff, or_false, false_or, or_true, true_or, and_false, false_and, Bool.or_eq_true, Bool.and_eq_true, Bool.or_false, Bool.or_true, Bool.true_or, Bool.false_or, Bool.and_true, Bool.and_false, Bool.true_and, Bool.false_and, decide_true, decide_false, not_true_eq_false, not_false_eq_true, h1, rr, rx_get, e1]
  have t1 : g1[y]? = some (.inl (7, [.int (nI ps.length), .ref (y + 1)])) := (F1.2.2 y (fun z => by have := z.1; omega)).trans h1
  have s2 : (s_putop 7 0 o_add (e_al 0) (e_lit 1)) [some (.ref y), some (.ref a)] g1 = some (none, [some (.ref y), some (.ref a)], g1.set y (.inl (7, [.int (nI (ps.length + 1)), .ref (y + 1)]))) := by
    simp (disch := omega) only [s_putop, x_out, s_seq, s_ite, s_ret, s_retZ, s_retV, s_iasg, s_aasg, s_lasg, s_inc, s_put, s_putop, s_ast, s_astop, s_exp, s_call, s_skip, s_brk, s_cont, s_oinit, e_lit, e_long, e_il, e_al, e_ll, e_bin, e_un, e_fld, e_ald, e_tern, e_call, e_alen, b_cmp, b_cmp0, b_lcmp, b_and, b_or, b_not, o_add, o_sub, o_mul, o_and, o_or, o_xor, o_shl, o_shr, o_neg, o_i2l, o_l2i, o_i2c, r_eq, r_ne, r_lt, r_ge, r_gt, r_le, r_eq0, r_ne0, r_lt0, r_ge0, r_gt0, r_le0, x_fld, x_int, x_ref, x_long, x_args, x_nar, xKd, xst1, xst2, xlg, Option.bind_some, Option.bind_none, Option.map_some, Option.map_none, List.getElem?_cons_zero, List.getElem?_cons_succ, List.set_cons_zero, List.set_cons_succ, List.length_cons, List.length_nil, List.length_map, List.length_range, List.length_set, decide_eq_true_eq, if_true, if_false, reduceIte, reduceCtorEq, Bool.not_true, Bool.not_false, Bool.false_eq_true, x_ix_nI, ax_get, ax_set, e_aald, s_aast, true_and, and_true, ite_true, ite_false, ↓bI_01, bI_eq0, bI_eq1, bool_or, tern_pure, and_pure, or_pure, bI_def, bne_t, ndf, decide_not, Bool.decide_eq_true, Bool.decide_and, Bool.decide_or, Nat.reduceEqDiff, Nat.reduceAdd, Nat.reduceMul, Nat.reduceSub, Nat.reduceLT, Nat.reduceLeDiff, or_false, false_or, or_true, true_or, and_false, false_and, Bool.or_eq_true, Bool.and_eq_true, Bool.or_false, Bool.or_true, Bool.true_or, Bool.false_or, Bool.and_true, Bool.and_false, Bool.true_and, Bool.false_and, decide_true, decide_false, not_true_eq_false, not_false_eq_true, t1, nI_1]
  have F2 := xFr.set t1 (c' := .inl (7, [.int (nI (ps.length + 1)), .ref (y + 1)])) (by rfl)
  have v0 := set_at (c' := .inl (7, [.int (nI (ps.length + 1)), .ref (y + 1)])) t1
  have vn : ∀ b, b ≠ y → (g1.set y (.inl (7, [.int (nI (ps.length + 1)), .ref (y + 1)])))[b]? = g1[b]? := fun b hb => set_ne hb.symm
  generalize g1.set y (.inl (7, [.int (nI (ps.length + 1)), .ref (y + 1)])) = g2 at s2 F2 v0 vn
  have keep : ∀ b, b ≠ y → ¬ sCells (rs ps.length) b → g2[b]? = h[b]? := fun b b1 b2 => (vn b b1).trans (F1.2.2 b b2)
  have blk : ∀ i, i < M → i ≠ ps.length → ∀ b, rs i ≤ b → b ≤ rs i + 5 → g2[b]? = h[b]? := fun i hi hne b b1 b2 => by
    obtain ⟨j, hj, e2⟩ := h3 i hi
    have hjj : j ≠ j0 := fun z => hne (h4 i ps.length hi hf (by rw [e2, ej0, z]))
    exact keep b (by omega) (fun z => by have := z.1; have := z.2; omega)
  have K2 : SAt g2 (rs ps.length) S := K1.same (fun b b1 b2 => vn b (by omega))
  refine ⟨g1, g2, s1, s2, ⟨by simp; omega, by rw [v0]; simp, rs, (keep _ (by omega) (fun z => by have := z.1; omega)).trans h2, h3, h4, fun i hi => ?_, fun i S' hS => ?_⟩, (F1.trans F2).mono (fun b hb => ?_)⟩
  · by_cases q : i = ps.length
    · subst q; exact ⟨S, K2⟩
    · obtain ⟨S', hS'⟩ := h5 i hi
      exact ⟨S', hS'.same (blk i hi q)⟩
  · by_cases q : i < ps.length
    · rw [List.getElem?_append_left q] at hS
      exact (h6 i S' hS).same (blk i (by omega) (by omega))
    · have hi := (List.getElem?_eq_some_iff.mp hS).1
      simp at hi
      have q2 : i = ps.length := by omega
      subst q2
      simp at hS
      subst hS
      exact K2
  · rcases hb with hb | hb
    · have := hb.1
      have := hb.2
      exact ⟨by omega, by omega⟩
    · subst hb
      exact ⟨by omega, by omega⟩
theorem push_x (H : QAt h y M ps) (hM : M < 900) (hM1 : 1 ≤ M) (HS : SAt h a S) (ha : a + 5 < y) : ∃ h', m_X7_push [.ref y, .ref a] h = some (none, h') ∧ QAt h' y M ((if ps.length = M then ps.drop 1 else ps) ++ [S]) ∧ xFr (qCells y M) h h' := by
  have h1 := H.2.1
  have hle := H.1
  have ef := isFull_x H (by omega)
  by_cases q : ps.length = M
  · obtain ⟨g0, e0, K0, F0⟩ := loseOldest_x H hM hM1 q
    have HS0 := HS.same (h' := g0) (fun b b1 b2 => F0.2.2 b (fun z => by have := z.1; omega))
    obtain ⟨g1, g2, s1, s2, K2, F2⟩ := push_core K0 hM (by simp; omega) HS0 ha
    have qf : M ≤ ps.length := by omega
    refine ⟨g2, ?_, by rw [if_pos q]; exact K2, (F0.trans F2).mono (fun b hb => hb.elim id id)⟩
    refine xM_run (env := [some (.ref y), some (.ref a)]) h1 rfl rfl (Nat.le_of_ble_eq_true rfl) rfl ?_ rfl
    have s0 : (s_ite (b_cmp0 r_ne0 (e_call m_X7_isFull [(e_al 0)])) (s_call m_X7_loseOldest [(e_al 0)]) s_skip) [some (.ref y), some (.ref a)] h = some (none, [some (.ref y), some (.ref a)], g0) := by
      simp (disch := omega) only [x_out, s_seq, s_ite, s_ret, s_retZ, s_retV, s_iasg, s_aasg, s_lasg, s_inc, s_put, s_putop, s_ast, s_astop, s_exp, s_call, s_skip, s_brk, s_cont, s_oinit, e_lit, e_long, e_il, e_al, e_ll, e_bin, e_un, e_fld, e_ald, e_tern, e_call, e_alen, b_cmp, b_cmp0, b_lcmp, b_and, b_or, b_not, o_add, o_sub, o_mul, o_and, o_or, o_xor, o_shl, o_shr, o_neg, o_i2l, o_l2i, o_i2c, r_eq, r_ne, r_lt, r_ge, r_gt, r_le, r_eq0, r_ne0, r_lt0, r_ge0, r_gt0, r_le0, x_fld, x_int, x_ref, x_long, x_args, x_nar, xKd, xst1, xst2, xlg, Option.bind_some, Option.bind_none, Option.map_some, Option.map_none, List.getElem?_cons_zero, List.getElem?_cons_succ, List.set_cons_zero, List.set_cons_succ, List.length_cons, List.length_nil, List.length_map, List.length_range, List.length_set, decide_eq_true_eq, if_true, if_false, reduceIte, reduceCtorEq, Bool.not_true, Bool.not_false, Bool.false_eq_true, x_ix_nI, ax_get, ax_set, e_aald, s_aast, true_and, and_true, ite_true, ite_false, ↓bI_01, bI_eq0, bI_eq1, bool_or, tern_pure, and_pure, or_pure, bI_def, bne_t, ndf, decide_not, Bool.decide_eq_true, Bool.decide_and, Bool.decide_or, Nat.reduceEqDiff, Nat.reduceAdd, Nat.reduceMul, Nat.reduceSub, Nat.reduceLT, Nat.reduceLeDiff, or_false, false_or, or_true, true_or, and_false, false_and, Bool.or_eq_true, Bool.and_eq_true, Bool.or_false, Bool.or_true, Bool.true_or, Bool.false_or, Bool.and_true, Bool.and_false, Bool.true_and, Bool.false_and, decide_true, decide_false, not_true_eq_false, not_false_eq_true, ef, qf, e0]
    simp only [bd_X7_push, s_seq, s0, s1, s2, s_retV, Option.bind_some, x_out, Option.map_some]
  · obtain ⟨g1, g2, s1, s2, K2, F2⟩ := push_core H hM (by omega) HS ha
    have qf : ¬ M ≤ ps.length := by omega
    refine ⟨g2, ?_, by rw [if_neg q]; exact K2, F2⟩
    refine xM_run (env := [some (.ref y), some (.ref a)]) h1 rfl rfl (Nat.le_of_ble_eq_true rfl) rfl ?_ rfl
    have s0 : (s_ite (b_cmp0 r_ne0 (e_call m_X7_isFull [(e_al 0)])) (s_call m_X7_loseOldest [(e_al 0)]) s_skip) [some (.ref y), some (.ref a)] h = some (none, [some (.ref y), some (.ref a)], h) := by
      simp (disch := omega) only [x_out, s_seq, s_ite, s_ret, s_retZ, s_retV, s_iasg, s_aasg, s_lasg, s_inc, s_put, s_putop, s_ast, s_astop, s_exp, s_call, s_skip, s_brk, s_cont, s_oinit, e_lit, e_long, e_il, e_al, e_ll, e_bin, e_un, e_fld, e_ald, e_tern, e_call, e_alen, b_cmp, b_cmp0, b_lcmp, b_and, b_or, b_not, o_add, o_sub, o_mul, o_and, o_or, o_xor, o_shl, o_shr, o_neg, o_i2l, o_l2i, o_i2c, r_eq, r_ne, r_lt, r_ge, r_gt, r_le, r_eq0, r_ne0, r_lt0, r_ge0, r_gt0, r_le0, x_fld, x_int, x_ref, x_long, x_args, x_nar, xKd, xst1, xst2, xlg, Option.bind_some, Option.bind_none, Option.map_some, Option.map_none, List.getElem?_cons_zero, List.getElem?_cons_succ, List.set_cons_zero, List.set_cons_succ, List.length_cons, List.length_nil, List.length_map, List.length_range, List.length_set, decide_eq_true_eq, if_true, if_false, reduceIte, reduceCtorEq, Bool.not_true, Bool.not_false, Bool.false_eq_true, x_ix_nI, ax_get, ax_set, e_aald, s_aast, true_and, and_true, ite_true, ite_false, ↓bI_01, bI_eq0, bI_eq1, bool_or, tern_pure, and_pure, or_pure, bI_def, bne_t, ndf, decide_not, Bool.decide_eq_true, Bool.decide_and, Bool.decide_or, Nat.reduceEqDiff, Nat.reduceAdd, Nat.reduceMul, Nat.reduceSub, Nat.reduceLT, Nat.reduceLeDiff, or_false, false_or, or_true, true_or, and_false, false_and, Bool.or_eq_true, Bool.and_eq_true, Bool.or_false, Bool.or_true, Bool.true_or, Bool.false_or, Bool.and_true, Bool.and_false, Bool.true_and, Bool.false_and, decide_true, decide_false, not_true_eq_false, not_false_eq_true, ef, qf]
    simp only [bd_X7_push, s_seq, s0, s1, s2, s_retV, Option.bind_some, x_out, Option.map_some]
end QP
