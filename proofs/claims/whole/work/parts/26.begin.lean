/-! loops by an invariant; a state's beginning -/
theorem s_loop_inv {c : XB} {a u : XS} (I : Nat → XE → XH → Prop) (R : XO × XE × XH → Prop) : ∀ (N n : Nat) (env : XE) (h : XH), N < n → I 0 env h → (∀ i env h, i < N → I i env h → ∃ env' h', s_step c a u env h = some (.inr (env', h')) ∧ I (i + 1) env' h') → (∀ env h, I N env h → ∃ r, s_step c a u env h = some (.inl r) ∧ R r) → ∃ r, s_loop n c a u env h = some r ∧ R r := by
  intro N
  induction N generalizing I with
  | zero =>
    intro n env h hn h0 _ he
    obtain ⟨m, rfl⟩ : ∃ m, n = m + 1 := ⟨n - 1, by omega⟩
    obtain ⟨r, h1, h2⟩ := he env h h0
    exact ⟨r, by rw [s_loop_step, h1]; rfl, h2⟩
  | succ N ih =>
    intro n env h hn h0 hs he
    obtain ⟨m, rfl⟩ : ∃ m, n = m + 1 := ⟨n - 1, by omega⟩
    obtain ⟨env', h', h1, h2⟩ := hs 0 env h (by omega) h0
    obtain ⟨r, h3, h4⟩ := ih (fun i => I (i + 1)) m env' h' (by omega) h2 (fun i env h hi hI => hs (i + 1) env h (by omega) hI) he
    exact ⟨r, by rw [s_loop_step, h1]; exact h3, h4⟩
section BG
variable {h : XH} {a : Nat} {P : XP} {S : XT}
def sBegin (P : XP) : XT := (0, fun _ => 0, wP P, fun _ => 0, fun _ => -4, fun _ => 0)
theorem begin_x (HP : PAt h 11 P) (ha : 17 < a) (H : SAt h a S) : ∃ h', m_X6_begin [.ref a] h = some (none, h') ∧ SAt h' a (sBegin P) ∧ xFr (sCells a) h h' := by
  have h0 := H.1
  have s0 : (s_put 6 0 0 (e_al 0) (e_lit 0)) [some (.ref a), none] h = some (none, [some (.ref a), none], h.set a (.inl (6, [.int 0, .ref (a + 1), .ref (a + 2), .ref (a + 3), .ref (a + 4), .ref (a + 5), .ref 11]))) := by
    simp (disch := omega) only [s_put, x_out, s_seq, s_ite, s_ret, s_retZ, s_retV, s_iasg, s_aasg, s_lasg, s_inc, s_put, s_putop, s_ast, s_astop, s_exp, s_call, s_skip, s_brk, s_cont, s_oinit, e_lit, e_long, e_il, e_al, e_ll, e_bin, e_un, e_fld, e_ald, e_tern, e_call, e_alen, b_cmp, b_cmp0, b_lcmp, b_and, b_or, b_not, o_add, o_sub, o_mul, o_and, o_or, o_xor, o_shl, o_shr, o_neg, o_i2l, o_l2i, o_i2c, r_eq, r_ne, r_lt, r_ge, r_gt, r_le, r_eq0, r_ne0, r_lt0, r_ge0, r_gt0, r_le0, x_fld, x_int, x_ref, x_long, x_args, x_nar, xKd, xst1, xst2, xlg, Option.bind_some, Option.bind_none, Option.map_some, Option.map_none, List.getElem?_cons_zero, List.getElem?_cons_succ, List.set_cons_zero, List.set_cons_succ, List.length_cons, List.length_nil, List.length_map, List.length_range, List.length_set, decide_eq_true_eq, if_true, if_false, reduceIte, reduceCtorEq, Bool.not_true, Bool.not_false, Bool.false_eq_true, x_ix_nI, ax_get, ax_set, e_aald, s_aast, true_and, and_true, ite_true, ite_false, ↓bI_01, bI_eq0, bI_eq1, bool_or, tern_pure, and_pure, or_pure, bI_def, bne_t, ndf, decide_not, Bool.decide_eq_true, Bool.decide_and, Bool.decide_or, Nat.reduceEqDiff, Nat.reduceAdd, Nat.reduceMul, Nat.reduceSub, Nat.reduceLT, Nat.reduceLeDiff, or_false, false_or, or_true, true_or, and_false, false_and, Bool.or_eq_true, Bool.and_eq_true, Bool.or_false, Bool.or_true, Bool.true_or, Bool.false_or, Bool.and_true, Bool.and_false, Bool.true_and, Bool.false_and, decide_true, decide_false, not_true_eq_false, not_false_eq_true, h0]
  have K0 := H.setT 0
  have F0 : xFr (sCells a) h (h.set a (.inl (6, [.int 0, .ref (a + 1), .ref (a + 2), .ref (a + 3), .ref (a + 4), .ref (a + 5), .ref 11]))) := (xFr.set h0 (by rfl)).mono (J := sCells a) (fun b hb => by subst hb; exact ⟨by omega, by omega⟩)
  generalize h.set a (.inl (6, [.int 0, .ref (a + 1), .ref (a + 2), .ref (a + 3), .ref (a + 4), .ref (a + 5), .ref 11])) = g0 at s0 K0 F0
  obtain ⟨r1, l1', R1⟩ := s_loop_inv (c := lc_X6_begin_1) (a := la_X6_begin_1) (u := lu_X6_begin_1) (fun i env k => env = [some (.ref a), some (.int (nI i))] ∧ xFr (sCells a) h k ∧ ∃ S' : XT, SAt k a S' ∧ tT S' = 0 ∧ (∀ s, s < i → tW S' s = 0) ∧ ∀ j, j < 36 → j % 9 < i → tA S' j = 0)
    (fun r => r.1 = none ∧ r.2.1 = [some (.ref a), some (.int (nI 9))] ∧ xFr (sCells a) h r.2.2 ∧ ∃ S' : XT, SAt r.2.2 a S' ∧ tT S' = 0 ∧ (∀ s, s < 9 → tW S' s = 0) ∧ ∀ j, j < 36 → tA S' j = 0) 9 1000 [some (.ref a), some (.int (nI 0))] g0 (by omega)
    ⟨rfl, F0, _, K0, rfl, fun s hs => absurd hs (by omega), fun j _ hj => absurd hj (by omega)⟩
    (fun i env k hi hI => by
      obtain ⟨rfl, F, S', K, e0, e1, e2⟩ := hI
      obtain ⟨k', e3, K', F'⟩ := renew_x K hi
      refine ⟨[some (.ref a), some (.int (nI (i + 1)))], k', ?_, rfl, (F.trans F').mono (fun b hb => hb.elim id id), _, K', e0, fun s hs => ?_, fun j hj hj2 => ?_⟩
      · simp (disch := omega) only [lc_X6_begin_1, la_X6_begin_1, lu_X6_begin_1, s_step, x_out, s_seq, s_ite, s_ret, s_retZ, s_retV, s_iasg, s_aasg, s_lasg, s_inc, s_put, s_putop, s_ast, s_astop, s_exp, s_call, s_skip, s_brk, s_cont, s_oinit, e_lit, e_long, e_il, e_al, e_ll, e_bin, e_un, e_fld, e_ald, e_tern, e_call, e_alen, b_cmp, b_cmp0, b_lcmp, b_and, b_or, b_not, o_add, o_sub, o_mul, o_and, o_or, o_xor, o_shl, o_shr, o_neg, o_i2l, o_l2i, o_i2c, r_eq, r_ne, r_lt, r_ge, r_gt, r_le, r_eq0, r_ne0, r_lt0, r_ge0, r_gt0, r_le0, x_fld, x_int, x_ref, x_long, x_args, x_nar, xKd, xst1, xst2, xlg, Option.bind_some, Option.bind_none, Option.map_some, Option.map_none, List.getElem?_cons_zero, List.getElem?_cons_succ, List.set_cons_zero, List.set_cons_succ, List.length_cons, List.length_nil, List.length_map, List.length_range, List.length_set, decide_eq_true_eq, if_true, if_false, reduceIte, reduceCtorEq, Bool.not_true, Bool.not_false, Bool.false_eq_true, x_ix_nI, ax_get, ax_set, e_aald, s_aast, true_and, and_true, ite_true, ite_false, ↓bI_01, bI_eq0, bI_eq1, bool_or, tern_pure, and_pure, or_pure, bI_def, bne_t, ndf, decide_not, Bool.decide_eq_true, Bool.decide_and, Bool.decide_or, Nat.reduceEqDiff, Nat.reduceAdd, Nat.reduceMul, Nat.reduceSub, Nat.reduceLT, Nat.reduceLeDiff, or_false, false_or, or_true, true_or, and_false, false_and, Bool.or_eq_true, Bool.and_eq_true, Bool.or_false, Bool.or_true, Bool.true_or, Bool.false_or, Bool.and_true, Bool.and_false, Bool.true_and, Bool.false_and, decide_true, decide_false, not_true_eq_false, not_false_eq_true, l9, nI_ltI, nI_1, hi, e3]
      · show (if s = i then 0 else tW S' s) = 0
        split
        · rfl
        · exact e1 s (by omega)
      · show (if j % 9 = i then 0 else tA S' j) = 0
        split
        · rfl
        · exact e2 j hj (by omega))
    (fun env k hI => by
      obtain ⟨rfl, F, S', K, e0, e1, e2⟩ := hI
      refine ⟨(none, [some (.ref a), some (.int (nI 9))], k), ?_, rfl, rfl, F, S', K, e0, e1, fun j hj => e2 j hj (by omega)⟩
      simp (disch := omega) only [lc_X6_begin_1, la_X6_begin_1, lu_X6_begin_1, s_step, x_out, s_seq, s_ite, s_ret, s_retZ, s_retV, s_iasg, s_aasg, s_lasg, s_inc, s_put, s_putop, s_ast, s_astop, s_exp, s_call, s_skip, s_brk, s_cont, s_oinit, e_lit, e_long, e_il, e_al, e_ll, e_bin, e_un, e_fld, e_ald, e_tern, e_call, e_alen, b_cmp, b_cmp0, b_lcmp, b_and, b_or, b_not, o_add, o_sub, o_mul, o_and, o_or, o_xor, o_shl, o_shr, o_neg, o_i2l, o_l2i, o_i2c, r_eq, r_ne, r_lt, r_ge, r_gt, r_le, r_eq0, r_ne0, r_lt0, r_ge0, r_gt0, r_le0, x_fld, x_int, x_ref, x_long, x_args, x_nar, xKd, xst1, xst2, xlg, Option.bind_some, Option.bind_none, Option.map_some, Option.map_none, List.getElem?_cons_zero, List.getElem?_cons_succ, List.set_cons_zero, List.set_cons_succ, List.length_cons, List.length_nil, List.length_map, List.length_range, List.length_set, decide_eq_true_eq, if_true, if_false, reduceIte, reduceCtorEq, Bool.not_true, Bool.not_false, Bool.false_eq_true, x_ix_nI, ax_get, ax_set, e_aald, s_aast, true_and, and_true, ite_true, ite_false, ↓bI_01, bI_eq0, bI_eq1, bool_or, tern_pure, and_pure, or_pure, bI_def, bne_t, ndf, decide_not, Bool.decide_eq_true, Bool.decide_and, Bool.decide_or, Nat.reduceEqDiff, Nat.reduceAdd, Nat.reduceMul, Nat.reduceSub, Nat.reduceLT, Nat.reduceLeDiff, or_false, false_or, or_true, true_or, and_false, false_and, Bool.or_eq_true, Bool.and_eq_true, Bool.or_false, Bool.or_true, Bool.true_or, Bool.false_or, Bool.and_true, Bool.and_false, Bool.true_and, Bool.false_and, decide_true, decide_false, not_true_eq_false, not_false_eq_true, l9, nI_ltI, nI_1, Nat.lt_irrefl])
  obtain ⟨o1, en1, k1⟩ := r1
  obtain ⟨q1, q2, F1, S1, K1, e0, e1, e2⟩ := R1
  dsimp only at q1 q2 F1 K1
  subst q1
  subst q2
  obtain ⟨r2, l2', R2⟩ := s_loop_inv (c := lc_X6_begin_2) (a := la_X6_begin_2) (u := lu_X6_begin_2) (fun i env k => env = [some (.ref a), some (.int (nI i))] ∧ xFr (sCells a) h k ∧ ∃ S' : XT, SAt k a S' ∧ tT S' = 0 ∧ (∀ s, s < 9 → tW S' s = 0) ∧ (∀ j, j < 36 → tA S' j = 0) ∧ ∀ w, w < i → tP S' w = wP P w ∧ tC S' w = 0 ∧ tL S' w = -4)
    (fun r => r.1 = none ∧ xFr (sCells a) h r.2.2 ∧ ∃ S' : XT, SAt r.2.2 a S' ∧ tT S' = 0 ∧ (∀ s, s < 9 → tW S' s = 0) ∧ (∀ j, j < 36 → tA S' j = 0) ∧ ∀ w, w < 4 → tP S' w = wP P w ∧ tC S' w = 0 ∧ tL S' w = -4) 4 1000 [some (.ref a), some (.int (nI 0))] k1 (by omega)
    ⟨rfl, F1, S1, K1, e0, e1, e2, fun s hs => absurd hs (by omega)⟩
    (fun i env k hi hI => by
      obtain ⟨rfl, F, S', K, e0, e1, e2, e3⟩ := hI
      have HP' : PAt k 11 P := HP.same (fun b h1 h2 => F.2.2 b (fun z => by have := z.1; omega))
      have p0 := HP'.1
      have p5 := ax_row HP'.2.2.2.2.2.1
      have f0 := K.1
      have y2 := ax_row K.2.2.1
      have y3 := ax_row K.2.2.2.1
      have y4 := ax_row K.2.2.2.2.1
      have M1 := K.setP (f := upd (fun i => nI (tP S' i)) i (nI (wP P i))) (g := fun w => if w = i then wP P i else tP S' w) (fun w hw => by unfold upd; split <;> rfl)
      have M2 := M1.setC (f := upd (tC S') i 0) (g := fun w => if w = i then 0 else tC S' w) (fun w hw => by unfold upd; rfl)
      have M3 := M2.setL (f := upd (tL S') i (-4)) (g := fun w => if w = i then -4 else tL S' w) (fun w hw => by unfold upd; rfl)
      refine ⟨[some (.ref a), some (.int (nI (i + 1)))], _, ?_, rfl, ?_, _, M3, e0, e1, e2, fun w hw => ?_⟩
      · simp (disch := omega) only [lc_X6_begin_2, la_X6_begin_2, lu_X6_begin_2, s_step, x_out, s_seq, s_ite, s_ret, s_retZ, s_retV, s_iasg, s_aasg, s_lasg, s_inc, s_put, s_putop, s_ast, s_astop, s_exp, s_call, s_skip, s_brk, s_cont, s_oinit, e_lit, e_long, e_il, e_al, e_ll, e_bin, e_un, e_fld, e_ald, e_tern, e_call, e_alen, b_cmp, b_cmp0, b_lcmp, b_and, b_or, b_not, o_add, o_sub, o_mul, o_and, o_or, o_xor, o_shl, o_shr, o_neg, o_i2l, o_l2i, o_i2c, r_eq, r_ne, r_lt, r_ge, r_gt, r_le, r_eq0, r_ne0, r_lt0, r_ge0, r_gt0, r_le0, x_fld, x_int, x_ref, x_long, x_args, x_nar, xKd, xst1, xst2, xlg, Option.bind_some, Option.bind_none, Option.map_some, Option.map_none, List.getElem?_cons_zero, List.getElem?_cons_succ, List.set_cons_zero, List.set_cons_succ, List.length_cons, List.length_nil, List.length_map, List.length_range, List.length_set, decide_eq_true_eq, if_true, if_false, reduceIte, reduceCtorEq, Bool.not_true, Bool.not_false, Bool.false_eq_true, x_ix_nI, ax_get, ax_set, e_aald, s_aast, true_and, and_true, ite_true, ite_false, ↓bI_01, bI_eq0, bI_eq1, bool_or, tern_pure, and_pure, or_pure, bI_def, bne_t, ndf, decide_not, Bool.decide_eq_true, Bool.decide_and, Bool.decide_or, Nat.reduceEqDiff, Nat.reduceAdd, Nat.reduceMul, Nat.reduceSub, Nat.reduceLT, Nat.reduceLeDiff, or_false, false_or, or_true, true_or, and_false, false_and, Bool.or_eq_true, Bool.and_eq_true, Bool.or_false, Bool.or_true, Bool.true_or, Bool.false_or, Bool.and_true, Bool.and_false, Bool.true_and, Bool.false_and, decide_true, decide_false, not_true_eq_false, not_false_eq_true, l4, nI_ltI, nI_1, hi, p0, p5, f0, y2, y3, y4, x_row_ne, List.getElem?_set_ne, ax_def]
      · have Z1 : xFr (sCells a) k (k.set (a + 2) (arr 4 (upd (fun i => nI (tP S' i)) i (nI (wP P i))))) := (xFr.set K.2.2.1 (by simp [arr, xSz])).mono (J := sCells a) (fun b hb => by subst hb; exact ⟨by omega, by omega⟩)
        have Z2 := (xFr.set M1.2.2.2.1 (c' := arr 4 (upd (tC S') i 0)) (by simp [arr, xSz])).mono (J := sCells a) (fun b hb => by subst hb; exact ⟨by omega, by omega⟩)
        have Z3 := (xFr.set M2.2.2.2.2.1 (c' := arr 4 (upd (tL S') i (-4))) (by simp [arr, xSz])).mono (J := sCells a) (fun b hb => by subst hb; exact ⟨by omega, by omega⟩)
        exact (((F.trans Z1).trans Z2).trans Z3).mono (fun b hb => by
          rcases hb with ((hb | hb) | hb) | hb <;> exact hb)
      · show (if w = i then wP P i else tP S' w) = wP P w ∧ (if w = i then (0 : Int32) else tC S' w) = 0 ∧ (if w = i then (-4 : Int32) else tL S' w) = -4
        by_cases q : w = i
        · subst q; simp
        · simp only [if_neg q]
          exact e3 w (by omega))
    (fun env k hI => by
      obtain ⟨rfl, F, S', K, e0, e1, e2, e3⟩ := hI
      refine ⟨(none, [some (.ref a), some (.int (nI 4))], k), ?_, rfl, F, S', K, e0, e1, e2, e3⟩
      simp (disch := omega) only [lc_X6_begin_2, la_X6_begin_2, lu_X6_begin_2, s_step, x_out, s_seq, s_ite, s_ret, s_retZ, s_retV, s_iasg, s_aasg, s_lasg, s_inc, s_put, s_putop, s_ast, s_astop, s_exp, s_call, s_skip, s_brk, s_cont, s_oinit, e_lit, e_long, e_il, e_al, e_ll, e_bin, e_un, e_fld, e_ald, e_tern, e_call, e_alen, b_cmp, b_cmp0, b_lcmp, b_and, b_or, b_not, o_add, o_sub, o_mul, o_and, o_or, o_xor, o_shl, o_shr, o_neg, o_i2l, o_l2i, o_i2c, r_eq, r_ne, r_lt, r_ge, r_gt, r_le, r_eq0, r_ne0, r_lt0, r_ge0, r_gt0, r_le0, x_fld, x_int, x_ref, x_long, x_args, x_nar, xKd, xst1, xst2, xlg, Option.bind_some, Option.bind_none, Option.map_some, Option.map_none, List.getElem?_cons_zero, List.getElem?_cons_succ, List.set_cons_zero, List.set_cons_succ, List.length_cons, List.length_nil, List.length_map, List.length_range, List.length_set, decide_eq_true_eq, if_true, if_false, reduceIte, reduceCtorEq, Bool.not_true, Bool.not_false, Bool.false_eq_true, x_ix_nI, ax_get, ax_set, e_aald, s_aast, true_and, and_true, ite_true, ite_false, ↓bI_01, bI_eq0, bI_eq1, bool_or, tern_pure, and_pure, or_pure, bI_def, bne_t, ndf, decide_not, Bool.decide_eq_true, Bool.decide_and, Bool.decide_or, Nat.reduceEqDiff, Nat.reduceAdd, Nat.reduceMul, Nat.reduceSub, Nat.reduceLT, Nat.reduceLeDiff, or_false, false_or, or_true, true_or, and_false, false_and, Bool.or_eq_true, Bool.and_eq_true, Bool.or_false, Bool.or_true, Bool.true_or, Bool.false_or, Bool.and_true, Bool.and_false, Bool.true_and, Bool.false_and, decide_true, decide_false, not_true_eq_false, not_false_eq_true, l4, nI_ltI, nI_1, Nat.lt_irrefl])
  obtain ⟨o2, en2, k2⟩ := r2
  obtain ⟨q1, F2, S2, K2, g0, g1, g2, g3⟩ := R2
  dsimp only at q1 F2 K2
  subst q1
  refine ⟨k2, ?_, K2.val g0 g1 (fun w hw => (g3 w hw).1) (fun w hw => (g3 w hw).2.1) (fun w hw => (g3 w hw).2.2) g2, F2⟩
  simp only [nI_0] at l1' l2'
  refine xM_run (env := [some (.ref a), none]) h0 rfl rfl (Nat.le_of_ble_eq_true rfl) rfl ?_ rfl
  simp (disch := omega) only [bd_X6_begin, ↓s0, x_out, s_seq, s_ite, s_ret, s_retZ, s_retV, s_iasg, s_aasg, s_lasg, s_inc, s_put, s_putop, s_ast, s_astop, s_exp, s_call, s_skip, s_brk, s_cont, s_oinit, e_lit, e_long, e_il, e_al, e_ll, e_bin, e_un, e_fld, e_ald, e_tern, e_call, e_alen, b_cmp, b_cmp0, b_lcmp, b_and, b_or, b_not, o_add, o_sub, o_mul, o_and, o_or, o_xor, o_shl, o_shr, o_neg, o_i2l, o_l2i, o_i2c, r_eq, r_ne, r_lt, r_ge, r_gt, r_le, r_eq0, r_ne0, r_lt0, r_ge0, r_gt0, r_le0, x_fld, x_int, x_ref, x_long, x_args, x_nar, xKd, xst1, xst2, xlg, Option.bind_some, Option.bind_none, Option.map_some, Option.map_none, List.getElem?_cons_zero, List.getElem?_cons_succ, List.set_cons_zero, List.set_cons_succ, List.length_cons, List.length_nil, List.length_map, List.length_range, List.length_set, decide_eq_true_eq, if_true, if_false, reduceIte, reduceCtorEq, Bool.not_true, Bool.not_false, Bool.false_eq_true, x_ix_nI, ax_get, ax_set, e_aald, s_aast, true_and, and_true, ite_true, ite_false, ↓bI_01, bI_eq0, bI_eq1, bool_or, tern_pure, and_pure, or_pure, bI_def, bne_t, ndf, decide_not, Bool.decide_eq_true, Bool.decide_and, Bool.decide_or, Nat.reduceEqDiff, Nat.reduceAdd, Nat.reduceMul, Nat.reduceSub, Nat.reduceLT, Nat.reduceLeDiff, or_false, false_or, or_true, true_or, and_false, false_and, Bool.or_eq_true, Bool.and_eq_true, Bool.or_false, Bool.or_true, Bool.true_or, Bool.false_or, Bool.and_true, Bool.and_false, Bool.true_and, Bool.false_and, decide_true, decide_false, not_true_eq_false, not_false_eq_true, l1', l2']
end BG
