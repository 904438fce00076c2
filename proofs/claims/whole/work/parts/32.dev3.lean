theorem i10 : ((1 : Int32) = 0) = False := by decide
section DF
variable {h h' : XH} {Y : XSy} {c : Nat}
theorem DAt.putS (H : DAt h Y) {S : XT} (F : xFr (sCells 18) h h') (HS : SAt h' 18 S) : DAt h' (yP Y, S, yQ Y, yK Y, yG Y, yL Y) := by
  obtain ⟨g0, g1, g2, g3, ⟨D, g4⟩, g5, g6, g7, g8⟩ := H
  exact ⟨(F.2.2 _ (by (try simp only [sCells, qCells]); omega)).trans g0, g1.same (fun a _ _ => F.2.2 a (by (try simp only [sCells, qCells]); omega)), g2.same (fun a _ _ => F.2.2 a (by (try simp only [sCells, qCells]); omega)), HS, ⟨D, g4.same (fun a _ _ => F.2.2 a (by (try simp only [sCells, qCells]); omega))⟩, g5.same (fun a q => F.2.2 a (by have q1 := q.1; have q2 := q.2; (try simp only [sCells, qCells]); omega)), g6.same (fun a q => F.2.2 a (by have q1 := q.1; have q2 := q.2; (try simp only [sCells, qCells]); omega)), g7.same (fun a _ _ => F.2.2 a (by (try simp only [sCells, qCells]); omega)), g8.same (fun a _ _ => F.2.2 a (by (try simp only [sCells, qCells]); omega))⟩
theorem DAt.putD (H : DAt h Y) {S : XT} (F : xFr (sCells 24) h h') (HS : SAt h' 24 S) : DAt h' Y := by
  obtain ⟨g0, g1, g2, g3, ⟨D, g4⟩, g5, g6, g7, g8⟩ := H
  exact ⟨(F.2.2 _ (by (try simp only [sCells, qCells]); omega)).trans g0, g1.same (fun a _ _ => F.2.2 a (by (try simp only [sCells, qCells]); omega)), g2.same (fun a _ _ => F.2.2 a (by (try simp only [sCells, qCells]); omega)), g3.same (fun a _ _ => F.2.2 a (by (try simp only [sCells, qCells]); omega)), ⟨S, HS⟩, g5.same (fun a q => F.2.2 a (by have q1 := q.1; have q2 := q.2; (try simp only [sCells, qCells]); omega)), g6.same (fun a q => F.2.2 a (by have q1 := q.1; have q2 := q.2; (try simp only [sCells, qCells]); omega)), g7.same (fun a _ _ => F.2.2 a (by (try simp only [sCells, qCells]); omega)), g8.same (fun a _ _ => F.2.2 a (by (try simp only [sCells, qCells]); omega))⟩
theorem DAt.putQ (H : DAt h Y) {ps : List XT} (F : xFr (qCells 30 8) h h') (HS : QAt h' 30 8 ps) : DAt h' (yP Y, yS Y, ps, yK Y, yG Y, yL Y) := by
  obtain ⟨g0, g1, g2, g3, ⟨D, g4⟩, g5, g6, g7, g8⟩ := H
  exact ⟨(F.2.2 _ (by (try simp only [sCells, qCells]); omega)).trans g0, g1.same (fun a _ _ => F.2.2 a (by (try simp only [sCells, qCells]); omega)), g2.same (fun a _ _ => F.2.2 a (by (try simp only [sCells, qCells]); omega)), g3.same (fun a _ _ => F.2.2 a (by (try simp only [sCells, qCells]); omega)), ⟨D, g4.same (fun a _ _ => F.2.2 a (by (try simp only [sCells, qCells]); omega))⟩, HS, g6.same (fun a q => F.2.2 a (by have q1 := q.1; have q2 := q.2; (try simp only [sCells, qCells]); omega)), g7.same (fun a _ _ => F.2.2 a (by (try simp only [sCells, qCells]); omega)), g8.same (fun a _ _ => F.2.2 a (by (try simp only [sCells, qCells]); omega))⟩
theorem DAt.putK (H : DAt h Y) {ps : List XT} (F : xFr (qCells 80 2) h h') (HS : QAt h' 80 2 ps) : DAt h' (yP Y, yS Y, yQ Y, ps, yG Y, yL Y) := by
  obtain ⟨g0, g1, g2, g3, ⟨D, g4⟩, g5, g6, g7, g8⟩ := H
  exact ⟨(F.2.2 _ (by (try simp only [sCells, qCells]); omega)).trans g0, g1.same (fun a _ _ => F.2.2 a (by (try simp only [sCells, qCells]); omega)), g2.same (fun a _ _ => F.2.2 a (by (try simp only [sCells, qCells]); omega)), g3.same (fun a _ _ => F.2.2 a (by (try simp only [sCells, qCells]); omega)), ⟨D, g4.same (fun a _ _ => F.2.2 a (by (try simp only [sCells, qCells]); omega))⟩, g5.same (fun a q => F.2.2 a (by have q1 := q.1; have q2 := q.2; (try simp only [sCells, qCells]); omega)), HS, g7.same (fun a _ _ => F.2.2 a (by (try simp only [sCells, qCells]); omega)), g8.same (fun a _ _ => F.2.2 a (by (try simp only [sCells, qCells]); omega))⟩
theorem DAt.putG (H : DAt h Y) {G : XGs} (F : xFr (fun b => 94 ≤ b ∧ b ≤ 96) h h') (HS : GAt h' 94 G) : DAt h' (yP Y, yS Y, yQ Y, yK Y, G, yL Y) := by
  obtain ⟨g0, g1, g2, g3, ⟨D, g4⟩, g5, g6, g7, g8⟩ := H
  exact ⟨(F.2.2 _ (by (try simp only [sCells, qCells]); omega)).trans g0, g1.same (fun a _ _ => F.2.2 a (by (try simp only [sCells, qCells]); omega)), g2.same (fun a _ _ => F.2.2 a (by (try simp only [sCells, qCells]); omega)), g3.same (fun a _ _ => F.2.2 a (by (try simp only [sCells, qCells]); omega)), ⟨D, g4.same (fun a _ _ => F.2.2 a (by (try simp only [sCells, qCells]); omega))⟩, g5.same (fun a q => F.2.2 a (by have q1 := q.1; have q2 := q.2; (try simp only [sCells, qCells]); omega)), g6.same (fun a q => F.2.2 a (by have q1 := q.1; have q2 := q.2; (try simp only [sCells, qCells]); omega)), HS, g8.same (fun a _ _ => F.2.2 a (by (try simp only [sCells, qCells]); omega))⟩
theorem DAt.putL (H : DAt h Y) {l : List Nat} (F : xFr (fun b => 1 ≤ b ∧ b ≤ 10) h h') (HS : LAt h' l) : DAt h' (yP Y, yS Y, yQ Y, yK Y, yG Y, l) := by
  obtain ⟨g0, g1, g2, g3, ⟨D, g4⟩, g5, g6, g7, g8⟩ := H
  exact ⟨(F.2.2 _ (by (try simp only [sCells, qCells]); omega)).trans g0, HS, g2.same (fun a _ _ => F.2.2 a (by (try simp only [sCells, qCells]); omega)), g3.same (fun a _ _ => F.2.2 a (by (try simp only [sCells, qCells]); omega)), ⟨D, g4.same (fun a _ _ => F.2.2 a (by (try simp only [sCells, qCells]); omega))⟩, g5.same (fun a q => F.2.2 a (by have q1 := q.1; have q2 := q.2; (try simp only [sCells, qCells]); omega)), g6.same (fun a q => F.2.2 a (by have q1 := q.1; have q2 := q.2; (try simp only [sCells, qCells]); omega)), g7.same (fun a _ _ => F.2.2 a (by (try simp only [sCells, qCells]); omega)), g8.same (fun a _ _ => F.2.2 a (by (try simp only [sCells, qCells]); omega))⟩
theorem DAt.putW (H : DAt h Y) (F : xFr (fun b => 97 ≤ b ∧ b ≤ 105) h h') (HS : WAt h') : DAt h' Y := by
  obtain ⟨g0, g1, g2, g3, ⟨D, g4⟩, g5, g6, g7, g8⟩ := H
  exact ⟨(F.2.2 _ (by (try simp only [sCells, qCells]); omega)).trans g0, g1.same (fun a _ _ => F.2.2 a (by (try simp only [sCells, qCells]); omega)), g2.same (fun a _ _ => F.2.2 a (by (try simp only [sCells, qCells]); omega)), g3.same (fun a _ _ => F.2.2 a (by (try simp only [sCells, qCells]); omega)), ⟨D, g4.same (fun a _ _ => F.2.2 a (by (try simp only [sCells, qCells]); omega))⟩, g5.same (fun a q => F.2.2 a (by have q1 := q.1; have q2 := q.2; (try simp only [sCells, qCells]); omega)), g6.same (fun a q => F.2.2 a (by have q1 := q.1; have q2 := q.2; (try simp only [sCells, qCells]); omega)), g7.same (fun a _ _ => F.2.2 a (by (try simp only [sCells, qCells]); omega)), HS⟩
theorem wipe_d (H : DAt h Y) (K : YOK c Y) : ∃ h', m_X9_wipe [.ref 0] h = some (some (.int (nI (yL Y).length)), h') ∧ DAt h' (yP Y, yS Y, yQ Y, yK Y, yG Y, []) ∧ xFr dC h h' := by
  obtain ⟨g0, ⟨⟨nc, ff, t0⟩, ⟨f, t1, t2⟩, ⟨f3, t3⟩, t4⟩, -⟩ := id H
  have F := xFr.set t0 (c' := .inl (8, [.int (nI 0), .ref 2, .ref 9, .ref 10, .int nc, .int ff])) (by rfl)
  refine ⟨_, ?_, H.putL (F.mono fun b hb => ?_) ⟨⟨nc, ff, set_at t0⟩, ⟨f, (set_ne (by omega)).trans t1, fun i hi => ?_⟩, ⟨f3, (set_ne (by omega)).trans t3⟩, t4.same fun a _ _ => set_ne (by omega)⟩, F.mono fun b hb => ?_⟩
  · refine xM_run (env := [some (.ref 0), none]) g0 rfl rfl (Nat.le_of_ble_eq_true rfl) rfl ?_ rfl
    simp (disch := omega) only [bd_X9_wipe, x_out, s_seq, s_ite, s_ret, s_retZ, s_retV, s_iasg, s_aasg, s_lasg, s_inc, s_put, s_putop, s_ast, s_astop, s_exp, s_call, s_skip, s_brk, s_cont, s_oinit, e_lit, e_long, e_il, e_al, e_ll, e_bin, e_un, e_fld, e_ald, e_tern, e_call, e_alen, b_cmp, b_cmp0, b_lcmp, b_and, b_or, b_not, o_add, o_sub, o_mul, o_and, o_or, o_xor, o_shl, o_shr, o_neg, o_i2l, o_l2i, o_i2c, r_eq, r_ne, r_lt, r_ge, r_gt, r_le, r_eq0, r_ne0, r_lt0, r_ge0, r_gt0, r_le0, x_fld, x_int, x_ref, x_long, x_args, x_nar, xKd, xst1, xst2, xlg, Option.bind_some, Option.bind_none, Option.map_some, Option.map_none, List.getElem?_cons_zero, List.getElem?_cons_succ, List.set_cons_zero, List.set_cons_succ, List.length_cons, List.length_nil, List.length_map, List.length_range, List.length_set, decide_eq_true_eq, if_true, if_false, reduceIte, reduceCtorEq, Bool.not_true, Bool.not_false, Bool.false_eq_true, x_ix_nI, ax_get, ax_set, e_aald, s_aast, true_and, and_true, ite_true, ite_false, ↓bI_01, bI_eq0, bI_eq1, bool_or, tern_pure, and_pure, or_pure, bI_def, bne_t, ndf, decide_not, Bool.decide_eq_true, Bool.decide_and, Bool.decide_or, Nat.reduceEqDiff, Nat.reduceAdd, Nat.reduceMul, Nat.reduceSub, Nat.reduceLT, Nat.reduceLeDiff, or_false, false_or, or_true, true_or, and_false, false_and, Bool.or_eq_true, Bool.and_eq_true, Bool.or_false, Bool.or_true, Bool.true_or, Bool.false_or, Bool.and_true, Bool.and_false, Bool.true_and, Bool.false_and, decide_true, decide_false, not_true_eq_false, not_false_eq_true, nI_0, g0, t0]
  · subst hb; exact ⟨by omega, by omega⟩
  · simp at hi
  · subst hb; unfold dC; omega
theorem forget_d (H : DAt h Y) (K : YOK c Y) : ∃ h', m_X9_forget [.ref 0] h = some (some (.int (nI (yG Y).1)), h') ∧ DAt h' (yP Y, yS Y, yQ Y, yK Y, (0, (yG Y).2), yL Y) ∧ xFr dC h h' := by
  obtain ⟨g0, g1, g2, g3, g4, g5, g6, ⟨t0, t1, t2⟩, g8⟩ := id H
  have F := xFr.set t0 (c' := .inl (5, [.int (nI 0), .ref (94 + 1), .ref (94 + 2)])) (by rfl)
  refine ⟨_, ?_, H.putG (F.mono fun b hb => ?_) ⟨set_at t0, (set_ne (by omega)).trans t1, (set_ne (by omega)).trans t2⟩, F.mono fun b hb => ?_⟩
  · refine xM_run (env := [some (.ref 0), none]) g0 rfl rfl (Nat.le_of_ble_eq_true rfl) rfl ?_ rfl
    simp (disch := omega) only [bd_X9_forget, x_out, s_seq, s_ite, s_ret, s_retZ, s_retV, s_iasg, s_aasg, s_lasg, s_inc, s_put, s_putop, s_ast, s_astop, s_exp, s_call, s_skip, s_brk, s_cont, s_oinit, e_lit, e_long, e_il, e_al, e_ll, e_bin, e_un, e_fld, e_ald, e_tern, e_call, e_alen, b_cmp, b_cmp0, b_lcmp, b_and, b_or, b_not, o_add, o_sub, o_mul, o_and, o_or, o_xor, o_shl, o_shr, o_neg, o_i2l, o_l2i, o_i2c, r_eq, r_ne, r_lt, r_ge, r_gt, r_le, r_eq0, r_ne0, r_lt0, r_ge0, r_gt0, r_le0, x_fld, x_int, x_ref, x_long, x_args, x_nar, xKd, xst1, xst2, xlg, Option.bind_some, Option.bind_none, Option.map_some, Option.map_none, List.getElem?_cons_zero, List.getElem?_cons_succ, List.set_cons_zero, List.set_cons_succ, List.length_cons, List.length_nil, List.length_map, List.length_range, List.length_set, decide_eq_true_eq, if_true, if_false, reduceIte, reduceCtorEq, Bool.not_true, Bool.not_false, Bool.false_eq_true, x_ix_nI, ax_get, ax_set, e_aald, s_aast, true_and, and_true, ite_true, ite_false, ↓bI_01, bI_eq0, bI_eq1, bool_or, tern_pure, and_pure, or_pure, bI_def, bne_t, ndf, decide_not, Bool.decide_eq_true, Bool.decide_and, Bool.decide_or, Nat.reduceEqDiff, Nat.reduceAdd, Nat.reduceMul, Nat.reduceSub, Nat.reduceLT, Nat.reduceLeDiff, or_false, false_or, or_true, true_or, and_false, false_and, Bool.or_eq_true, Bool.and_eq_true, Bool.or_false, Bool.or_true, Bool.true_or, Bool.false_or, Bool.and_true, Bool.and_false, Bool.true_and, Bool.false_and, decide_true, decide_false, not_true_eq_false, not_false_eq_true, nI_0, g0, t0]
  · subst hb; exact ⟨by omega, by omega⟩
  · subst hb; unfold dC; omega
def aSee (Y : XSy) (x v : Int32) : Int32 := if inR x (pN (yP Y)) = false then -1 else if inR v 1000 = false then -1 else if (yG Y).1 = 6 then -3 else nI ((yG Y).1 + 1)
def yAdd (Y : XSy) (x v : Int32) : XSy := if inR x (pN (yP Y)) = false then Y else if inR v 1000 = false then Y else if (yG Y).1 = 6 then Y else (yP Y, yS Y, yQ Y, yK Y, ((yG Y).1 + 1, fun i => if i = (yG Y).1 then iN x else (yG Y).2.1 i, fun i => if i = (yG Y).1 then iN v else (yG Y).2.2 i), yL Y)
theorem see_d (H : DAt h Y) (K : YOK c Y) (x v : Int32) : ∃ h', m_X9_see [.ref 0, .int x, .int v] h = some (some (.int (aSee Y x v)), h') ∧ DAt h' (yAdd Y x v) ∧ xFr dC h h' := by
  obtain ⟨g0, g1, g2, g3, g4, g5, g6, g7, g8⟩ := id H
  have O := K.2.1
  have o5 := O.2.2.2.2.1
  have e1 := hasStile_d g2 x
  have bg := inR_big (v := v)
  unfold aSee yAdd
  rcases inR_cases x (n := pN (yP Y)) (by omega) with q | ⟨k, hk, rfl, q⟩
  · refine ⟨h, ?_, by simpa [q] using H, xFr.rf _ _⟩
    refine xM_run (env := [some (.ref 0), some (.int x), some (.int v)]) g0 rfl rfl (Nat.le_of_ble_eq_true rfl) rfl ?_ rfl
    simp (disch := omega) only [bd_X9_see, x_out, s_seq, s_ite, s_ret, s_retZ, s_retV, s_iasg, s_aasg, s_lasg, s_inc, s_put, s_putop, s_ast, s_astop, s_exp, s_call, s_skip, s_brk, s_cont, s_oinit, e_lit, e_long, e_il, e_al, e_ll, e_bin, e_un, e_fld, e_ald, e_tern, e_call, e_alen, b_cmp, b_cmp0, b_lcmp, b_and, b_or, b_not, o_add, o_sub, o_mul, o_and, o_or, o_xor, o_shl, o_shr, o_neg, o_i2l, o_l2i, o_i2c, r_eq, r_ne, r_lt, r_ge, r_gt, r_le, r_eq0, r_ne0, r_lt0, r_ge0, r_gt0, r_le0, x_fld, x_int, x_ref, x_long, x_args, x_nar, xKd, xst1, xst2, xlg, Option.bind_some, Option.bind_none, Option.map_some, Option.map_none, List.getElem?_cons_zero, List.getElem?_cons_succ, List.set_cons_zero, List.set_cons_succ, List.length_cons, List.length_nil, List.length_map, List.length_range, List.length_set, decide_eq_true_eq, if_true, if_false, reduceIte, reduceCtorEq, Bool.not_true, Bool.not_false, Bool.false_eq_true, x_ix_nI, ax_get, ax_set, e_aald, s_aast, true_and, and_true, ite_true, ite_false, ↓bI_01, bI_eq0, bI_eq1, bool_or, tern_pure, and_pure, or_pure, bI_def, bne_t, ndf, decide_not, Bool.decide_eq_true, Bool.decide_and, Bool.decide_or, Nat.reduceEqDiff, Nat.reduceAdd, Nat.reduceMul, Nat.reduceSub, Nat.reduceLT, Nat.reduceLeDiff, or_false, false_or, or_true, true_or, and_false, false_and, Bool.or_eq_true, Bool.and_eq_true, Bool.or_false, Bool.or_true, Bool.true_or, Bool.false_or, Bool.and_true, Bool.and_false, Bool.true_and, Bool.false_and, decide_true, decide_false, not_true_eq_false, not_false_eq_true, g0, e1, q, bI_f, if_true]
  · rcases inR_cases v (n := 1000) (by omega) with q3 | ⟨z, hz, rfl, q3⟩
    · refine ⟨h, ?_, by simpa [q, q3] using H, xFr.rf _ _⟩
      refine xM_run (env := [some (.ref 0), some (.int (nI k)), some (.int v)]) g0 rfl rfl (Nat.le_of_ble_eq_true rfl) rfl ?_ rfl
      rw [q3] at bg
      by_cases b1 : v < 0
      · simp (disch := omega) only [bd_X9_see, x_out, s_seq, s_ite, s_ret, s_retZ, s_retV, s_iasg, s_aasg, s_lasg, s_inc, s_put, s_putop, s_ast, s_astop, s_exp, s_call, s_skip, s_brk, s_cont, s_oinit, e_lit, e_long, e_il, e_al, e_ll, e_bin, e_un, e_fld, e_ald, e_tern, e_call, e_alen, b_cmp, b_cmp0, b_lcmp, b_and, b_or, b_not, o_add, o_sub, o_mul, o_and, o_or, o_xor, o_shl, o_shr, o_neg, o_i2l, o_l2i, o_i2c, r_eq, r_ne, r_lt, r_ge, r_gt, r_le, r_eq0, r_ne0, r_lt0, r_ge0, r_gt0, r_le0, x_fld, x_int, x_ref, x_long, x_args, x_nar, xKd, xst1, xst2, xlg, Option.bind_some, Option.bind_none, Option.map_some, Option.map_none, List.getElem?_cons_zero, List.getElem?_cons_succ, List.set_cons_zero, List.set_cons_succ, List.length_cons, List.length_nil, List.length_map, List.length_range, List.length_set, decide_eq_true_eq, if_true, if_false, reduceIte, reduceCtorEq, Bool.not_true, Bool.not_false, Bool.false_eq_true, x_ix_nI, ax_get, ax_set, e_aald, s_aast, true_and, and_true, ite_true, ite_false, ↓bI_01, bI_eq0, bI_eq1, bool_or, tern_pure, and_pure, or_pure, bI_def, bne_t, ndf, decide_not, Bool.decide_eq_true, Bool.decide_and, Bool.decide_or, Nat.reduceEqDiff, Nat.reduceAdd, Nat.reduceMul, Nat.reduceSub, Nat.reduceLT, Nat.reduceLeDiff, or_false, false_or, or_true, true_or, and_false, false_and, Bool.or_eq_true, Bool.and_eq_true, Bool.or_false, Bool.or_true, Bool.true_or, Bool.false_or, Bool.and_true, Bool.and_false, Bool.true_and, Bool.false_and, decide_true, decide_false, not_true_eq_false, not_false_eq_true, g0, e1, q, q3, b1, if_true]
      · have b2 : nI 999 < v := by simpa [b1] using bg
        simp (disch := omega) only [bd_X9_see, x_out, s_seq, s_ite, s_ret, s_retZ, s_retV, s_iasg, s_aasg, s_lasg, s_inc, s_put, s_putop, s_ast, s_astop, s_exp, s_call, s_skip, s_brk, s_cont, s_oinit, e_lit, e_long, e_il, e_al, e_ll, e_bin, e_un, e_fld, e_ald, e_tern, e_call, e_alen, b_cmp, b_cmp0, b_lcmp, b_and, b_or, b_not, o_add, o_sub, o_mul, o_and, o_or, o_xor, o_shl, o_shr, o_neg, o_i2l, o_l2i, o_i2c, r_eq, r_ne, r_lt, r_ge, r_gt, r_le, r_eq0, r_ne0, r_lt0, r_ge0, r_gt0, r_le0, x_fld, x_int, x_ref, x_long, x_args, x_nar, xKd, xst1, xst2, xlg, Option.bind_some, Option.bind_none, Option.map_some, Option.map_none, List.getElem?_cons_zero, List.getElem?_cons_succ, List.set_cons_zero, List.set_cons_succ, List.length_cons, List.length_nil, List.length_map, List.length_range, List.length_set, decide_eq_true_eq, if_true, if_false, reduceIte, reduceCtorEq, Bool.not_true, Bool.not_false, Bool.false_eq_true, x_ix_nI, ax_get, ax_set, e_aald, s_aast, true_and, and_true, ite_true, ite_false, ↓bI_01, bI_eq0, bI_eq1, bool_or, tern_pure, and_pure, or_pure, bI_def, bne_t, ndf, decide_not, Bool.decide_eq_true, Bool.decide_and, Bool.decide_or, Nat.reduceEqDiff, Nat.reduceAdd, Nat.reduceMul, Nat.reduceSub, Nat.reduceLT, Nat.reduceLeDiff, or_false, false_or, or_true, true_or, and_false, false_and, Bool.or_eq_true, Bool.and_eq_true, Bool.or_false, Bool.or_true, Bool.true_or, Bool.false_or, Bool.and_true, Bool.and_false, Bool.true_and, Bool.false_and, decide_true, decide_false, not_true_eq_false, not_false_eq_true, l999, g0, e1, q, q3, b1, b2, if_true]
    · have b1 : ¬ nI z < 0 := nI_pos (by omega)
      have b2 : ¬ nI 999 < nI z := by rw [nI_ltI (by omega) (by omega)]; omega
      have k6 := K.2.2.2.2.2.1
      have e2 := see_x g7 k6 (s := k) (v := z)
      by_cases q4 : (yG Y).1 = 6
      · have e3 := e2.1 q4
        refine ⟨h, ?_, by simpa [q, q3, q4] using H, xFr.rf _ _⟩
        refine xM_run (env := [some (.ref 0), some (.int (nI k)), some (.int (nI z))]) g0 rfl rfl (Nat.le_of_ble_eq_true rfl) rfl ?_ rfl
        simp (disch := omega) only [bd_X9_see, x_out, s_seq, s_ite, s_ret, s_retZ, s_retV, s_iasg, s_aasg, s_lasg, s_inc, s_put, s_putop, s_ast, s_astop, s_exp, s_call, s_skip, s_brk, s_cont, s_oinit, e_lit, e_long, e_il, e_al, e_ll, e_bin, e_un, e_fld, e_ald, e_tern, e_call, e_alen, b_cmp, b_cmp0, b_lcmp, b_and, b_or, b_not, o_add, o_sub, o_mul, o_and, o_or, o_xor, o_shl, o_shr, o_neg, o_i2l, o_l2i, o_i2c, r_eq, r_ne, r_lt, r_ge, r_gt, r_le, r_eq0, r_ne0, r_lt0, r_ge0, r_gt0, r_le0, x_fld, x_int, x_ref, x_long, x_args, x_nar, xKd, xst1, xst2, xlg, Option.bind_some, Option.bind_none, Option.map_some, Option.map_none, List.getElem?_cons_zero, List.getElem?_cons_succ, List.set_cons_zero, List.set_cons_succ, List.length_cons, List.length_nil, List.length_map, List.length_range, List.length_set, decide_eq_true_eq, if_true, if_false, reduceIte, reduceCtorEq, Bool.not_true, Bool.not_false, Bool.false_eq_true, x_ix_nI, ax_get, ax_set, e_aald, s_aast, true_and, and_true, ite_true, ite_false, ↓bI_01, bI_eq0, bI_eq1, bool_or, tern_pure, and_pure, or_pure, bI_def, bne_t, ndf, decide_not, Bool.decide_eq_true, Bool.decide_and, Bool.decide_or, Nat.reduceEqDiff, Nat.reduceAdd, Nat.reduceMul, Nat.reduceSub, Nat.reduceLT, Nat.reduceLeDiff, or_false, false_or, or_true, true_or, and_false, false_and, Bool.or_eq_true, Bool.and_eq_true, Bool.or_false, Bool.or_true, Bool.true_or, Bool.false_or, Bool.and_true, Bool.and_false, Bool.true_and, Bool.false_and, decide_true, decide_false, not_true_eq_false, not_false_eq_true, l999, g0, e1, e3, q, q3, q4, b1, b2]
      · obtain ⟨h', e3, e4, e5⟩ := e2.2 (by omega)
        have g0' := (e5.2.2 _ (by (try simp only [sCells, qCells]); omega)).trans g0
        have t0 := e4.1
        refine ⟨h', ?_, ?_, e5.mono fun b hb => ?_⟩
        · refine xM_run (env := [some (.ref 0), some (.int (nI k)), some (.int (nI z))]) g0 rfl rfl (Nat.le_of_ble_eq_true rfl) rfl ?_ rfl
          simp (disch := omega) only [bd_X9_see, x_out, s_seq, s_ite, s_ret, s_retZ, s_retV, s_iasg, s_aasg, s_lasg, s_inc, s_put, s_putop, s_ast, s_astop, s_exp, s_call, s_skip, s_brk, s_cont, s_oinit, e_lit, e_long, e_il, e_al, e_ll, e_bin, e_un, e_fld, e_ald, e_tern, e_call, e_alen, b_cmp, b_cmp0, b_lcmp, b_and, b_or, b_not, o_add, o_sub, o_mul, o_and, o_or, o_xor, o_shl, o_shr, o_neg, o_i2l, o_l2i, o_i2c, r_eq, r_ne, r_lt, r_ge, r_gt, r_le, r_eq0, r_ne0, r_lt0, r_ge0, r_gt0, r_le0, x_fld, x_int, x_ref, x_long, x_args, x_nar, xKd, xst1, xst2, xlg, Option.bind_some, Option.bind_none, Option.map_some, Option.map_none, List.getElem?_cons_zero, List.getElem?_cons_succ, List.set_cons_zero, List.set_cons_succ, List.length_cons, List.length_nil, List.length_map, List.length_range, List.length_set, decide_eq_true_eq, if_true, if_false, reduceIte, reduceCtorEq, Bool.not_true, Bool.not_false, Bool.false_eq_true, x_ix_nI, ax_get, ax_set, e_aald, s_aast, true_and, and_true, ite_true, ite_false, ↓bI_01, bI_eq0, bI_eq1, bool_or, tern_pure, and_pure, or_pure, bI_def, bne_t, ndf, decide_not, Bool.decide_eq_true, Bool.decide_and, Bool.decide_or, Nat.reduceEqDiff, Nat.reduceAdd, Nat.reduceMul, Nat.reduceSub, Nat.reduceLT, Nat.reduceLeDiff, or_false, false_or, or_true, true_or, and_false, false_and, Bool.or_eq_true, Bool.and_eq_true, Bool.or_false, Bool.or_true, Bool.true_or, Bool.false_or, Bool.and_true, Bool.and_false, Bool.true_and, Bool.false_and, decide_true, decide_false, not_true_eq_false, not_false_eq_true, l999, i10, decide_false, g0, g0', t0, e1, e3, q, q3, q4, b1, b2]
        · simp only [q, q3, q4, Bool.true_eq_false, if_false, iN_nI (show k < 2 ^ 31 by omega), iN_nI (show z < 2 ^ 31 by omega)]
          exact H.putG e5 e4
        · unfold dC; omega
def yPush (Y : XSy) : List XT := (if (yQ Y).length = 8 then (yQ Y).drop 1 else yQ Y) ++ [yS Y]
def aReplace (Y : XSy) (x : Int32) : Int32 := if inR x (pN (yP Y)) = false then -1 else nI (tW (yS Y) (iN x))
def yReplace (Y : XSy) (x : Int32) : XSy := if inR x (pN (yP Y)) = false then Y else (yP Y, sRenew (yS Y) (iN x), yPush Y, yK Y, yG Y, yL Y)
theorem replace_d (H : DAt h Y) (K : YOK c Y) (x : Int32) : ∃ h', m_X9_replace [.ref 0, .int x] h = some (some (.int (aReplace Y x)), h') ∧ DAt h' (yReplace Y x) ∧ xFr dC h h' := by
  obtain ⟨g0, g1, g2, g3, g4, g5, g6, g7, g8⟩ := id H
  have O := K.2.1
  have o5 := O.2.2.2.2.1
  have e1 := hasStile_d g2 x
  unfold aReplace yReplace
  rcases inR_cases x (n := pN (yP Y)) (by omega) with q | ⟨k, hk, rfl, q⟩
  · refine ⟨h, ?_, by simpa [q] using H, xFr.rf _ _⟩
    refine xM_run (env := [some (.ref 0), some (.int x), none]) g0 rfl rfl (Nat.le_of_ble_eq_true rfl) rfl ?_ rfl
    simp (disch := omega) only [bd_X9_replace, x_out, s_seq, s_ite, s_ret, s_retZ, s_retV, s_iasg, s_aasg, s_lasg, s_inc, s_put, s_putop, s_ast, s_astop, s_exp, s_call, s_skip, s_brk, s_cont, s_oinit, e_lit, e_long, e_il, e_al, e_ll, e_bin, e_un, e_fld, e_ald, e_tern, e_call, e_alen, b_cmp, b_cmp0, b_lcmp, b_and, b_or, b_not, o_add, o_sub, o_mul, o_and, o_or, o_xor, o_shl, o_shr, o_neg, o_i2l, o_l2i, o_i2c, r_eq, r_ne, r_lt, r_ge, r_gt, r_le, r_eq0, r_ne0, r_lt0, r_ge0, r_gt0, r_le0, x_fld, x_int, x_ref, x_long, x_args, x_nar, xKd, xst1, xst2, xlg, Option.bind_some, Option.bind_none, Option.map_some, Option.map_none, List.getElem?_cons_zero, List.getElem?_cons_succ, List.set_cons_zero, List.set_cons_succ, List.length_cons, List.length_nil, List.length_map, List.length_range, List.length_set, decide_eq_true_eq, if_true, if_false, reduceIte, reduceCtorEq, Bool.not_true, Bool.not_false, Bool.false_eq_true, x_ix_nI, ax_get, ax_set, e_aald, s_aast, true_and, and_true, ite_true, ite_false, ↓bI_01, bI_eq0, bI_eq1, bool_or, tern_pure, and_pure, or_pure, bI_def, bne_t, ndf, decide_not, Bool.decide_eq_true, Bool.decide_and, Bool.decide_or, Nat.reduceEqDiff, Nat.reduceAdd, Nat.reduceMul, Nat.reduceSub, Nat.reduceLT, Nat.reduceLeDiff, or_false, false_or, or_true, true_or, and_false, false_and, Bool.or_eq_true, Bool.and_eq_true, Bool.or_false, Bool.or_true, Bool.true_or, Bool.false_or, Bool.and_true, Bool.and_false, Bool.true_and, Bool.false_and, decide_true, decide_false, not_true_eq_false, not_false_eq_true, g0, e1, q, bI_f, if_true]
  · have hk9 : k < 9 := by omega
    obtain ⟨h1, a1, a2, a3⟩ := push_x g5 (by omega) (by omega) g3 (by omega)
    have D1 := H.putQ a3 a2
    obtain ⟨h2, b1, b2, b3⟩ := renew_x D1.2.2.2.1 hk9
    have D2 := D1.putS b3 b2
    have s0 := g3.1
    have r1 := ax_row g3.2.1
    have g0' := D1.1
    refine ⟨h2, ?_, ?_, (a3.trans b3).mono fun b hb => ?_⟩
    · refine xM_run (env := [some (.ref 0), some (.int (nI k)), none]) g0 rfl rfl (Nat.le_of_ble_eq_true rfl) rfl ?_ rfl
      rw [iN_nI (by omega)]
      simp (disch := omega) only [bd_X9_replace, x_out, s_seq, s_ite, s_ret, s_retZ, s_retV, s_iasg, s_aasg, s_lasg, s_inc, s_put, s_putop, s_ast, s_astop, s_exp, s_call, s_skip, s_brk, s_cont, s_oinit, e_lit, e_long, e_il, e_al, e_ll, e_bin, e_un, e_fld, e_ald, e_tern, e_call, e_alen, b_cmp, b_cmp0, b_lcmp, b_and, b_or, b_not, o_add, o_sub, o_mul, o_and, o_or, o_xor, o_shl, o_shr, o_neg, o_i2l, o_l2i, o_i2c, r_eq, r_ne, r_lt, r_ge, r_gt, r_le, r_eq0, r_ne0, r_lt0, r_ge0, r_gt0, r_le0, x_fld, x_int, x_ref, x_long, x_args, x_nar, xKd, xst1, xst2, xlg, Option.bind_some, Option.bind_none, Option.map_some, Option.map_none, List.getElem?_cons_zero, List.getElem?_cons_succ, List.set_cons_zero, List.set_cons_succ, List.length_cons, List.length_nil, List.length_map, List.length_range, List.length_set, decide_eq_true_eq, if_true, if_false, reduceIte, reduceCtorEq, Bool.not_true, Bool.not_false, Bool.false_eq_true, x_ix_nI, ax_get, ax_set, e_aald, s_aast, true_and, and_true, ite_true, ite_false, ↓bI_01, bI_eq0, bI_eq1, bool_or, tern_pure, and_pure, or_pure, bI_def, bne_t, ndf, decide_not, Bool.decide_eq_true, Bool.decide_and, Bool.decide_or, Nat.reduceEqDiff, Nat.reduceAdd, Nat.reduceMul, Nat.reduceSub, Nat.reduceLT, Nat.reduceLeDiff, or_false, false_or, or_true, true_or, and_false, false_and, Bool.or_eq_true, Bool.and_eq_true, Bool.or_false, Bool.or_true, Bool.true_or, Bool.false_or, Bool.and_true, Bool.and_false, Bool.true_and, Bool.false_and, decide_true, decide_false, not_true_eq_false, not_false_eq_true, g0, g0', e1, q, s0, r1, a1, b1, hk9]
    · simp only [q, Bool.true_eq_false, if_false, iN_nI (show k < 2 ^ 31 by omega)]
      exact D2
    · rcases hb with hb | hb
      · have := hb.2; unfold dC; omega
      · have := hb.2; unfold dC; omega
def aSand (Y : XSy) (x : Int32) : Int32 := if inR x (pN (yP Y)) = false then -1 else nI (min (tW (yS Y) (iN x) + 5) 999)
def ySand (Y : XSy) (x : Int32) : XSy := if inR x (pN (yP Y)) = false then Y else (yP Y, sWear (yS Y) (iN x) 5, yPush Y, yK Y, yG Y, yL Y)
theorem sand_d (H : DAt h Y) (K : YOK c Y) (x : Int32) : ∃ h', m_X9_sand [.ref 0, .int x] h = some (some (.int (aSand Y x)), h') ∧ DAt h' (ySand Y x) ∧ xFr dC h h' := by
  obtain ⟨g0, g1, g2, g3, g4, g5, g6, g7, g8⟩ := id H
  have O := K.2.1
  have o5 := O.2.2.2.2.1
  have e1 := hasStile_d g2 x
  unfold aSand ySand
  rcases inR_cases x (n := pN (yP Y)) (by omega) with q | ⟨k, hk, rfl, q⟩
  · refine ⟨h, ?_, by simpa [q] using H, xFr.rf _ _⟩
    refine xM_run (env := [some (.ref 0), some (.int x)]) g0 rfl rfl (Nat.le_of_ble_eq_true rfl) rfl ?_ rfl
    simp (disch := omega) only [bd_X9_sand, x_out, s_seq, s_ite, s_ret, s_retZ, s_retV, s_iasg, s_aasg, s_lasg, s_inc, s_put, s_putop, s_ast, s_astop, s_exp, s_call, s_skip, s_brk, s_cont, s_oinit, e_lit, e_long, e_il, e_al, e_ll, e_bin, e_un, e_fld, e_ald, e_tern, e_call, e_alen, b_cmp, b_cmp0, b_lcmp, b_and, b_or, b_not, o_add, o_sub, o_mul, o_and, o_or, o_xor, o_shl, o_shr, o_neg, o_i2l, o_l2i, o_i2c, r_eq, r_ne, r_lt, r_ge, r_gt, r_le, r_eq0, r_ne0, r_lt0, r_ge0, r_gt0, r_le0, x_fld, x_int, x_ref, x_long, x_args, x_nar, xKd, xst1, xst2, xlg, Option.bind_some, Option.bind_none, Option.map_some, Option.map_none, List.getElem?_cons_zero, List.getElem?_cons_succ, List.set_cons_zero, List.set_cons_succ, List.length_cons, List.length_nil, List.length_map, List.length_range, List.length_set, decide_eq_true_eq, if_true, if_false, reduceIte, reduceCtorEq, Bool.not_true, Bool.not_false, Bool.false_eq_true, x_ix_nI, ax_get, ax_set, e_aald, s_aast, true_and, and_true, ite_true, ite_false, ↓bI_01, bI_eq0, bI_eq1, bool_or, tern_pure, and_pure, or_pure, bI_def, bne_t, ndf, decide_not, Bool.decide_eq_true, Bool.decide_and, Bool.decide_or, Nat.reduceEqDiff, Nat.reduceAdd, Nat.reduceMul, Nat.reduceSub, Nat.reduceLT, Nat.reduceLeDiff, or_false, false_or, or_true, true_or, and_false, false_and, Bool.or_eq_true, Bool.and_eq_true, Bool.or_false, Bool.or_true, Bool.true_or, Bool.false_or, Bool.and_true, Bool.and_false, Bool.true_and, Bool.false_and, decide_true, decide_false, not_true_eq_false, not_false_eq_true, g0, e1, q, bI_f, if_true]
  · have hk9 : k < 9 := by omega
    obtain ⟨h1, a1, a2, a3⟩ := push_x g5 (by omega) (by omega) g3 (by omega)
    have D1 := H.putQ a3 a2
    obtain ⟨h2, b1, b2, b3⟩ := wearBy_x (show SAt h1 18 (yS Y) from D1.2.2.2.1) (K.2.2.1.1 k hk9) hk9 (k := 5) (by omega)
    have D2 := D1.putS b3 b2
    have s0 := b2.1
    have r1 := ax_row b2.2.1
    have g0' := D1.1
    have g0'' := D2.1
    have w1 : (tW (sWear (yS Y) k 5)) k = min (tW (yS Y) k + 5) 999 := by simp [sWear, tW]
    refine ⟨h2, ?_, ?_, (a3.trans b3).mono fun b hb => ?_⟩
    · refine xM_run (env := [some (.ref 0), some (.int (nI k))]) g0 rfl rfl (Nat.le_of_ble_eq_true rfl) rfl ?_ rfl
      rw [iN_nI (by omega)]
      have b1' : m_X6_wearBy [.ref 18, .int (nI k), .int 5] h1 = some (none, h2) := b1
      simp (disch := omega) only [bd_X9_sand, x_out, s_seq, s_ite, s_ret, s_retZ, s_retV, s_iasg, s_aasg, s_lasg, s_inc, s_put, s_putop, s_ast, s_astop, s_exp, s_call, s_skip, s_brk, s_cont, s_oinit, e_lit, e_long, e_il, e_al, e_ll, e_bin, e_un, e_fld, e_ald, e_tern, e_call, e_alen, b_cmp, b_cmp0, b_lcmp, b_and, b_or, b_not, o_add, o_sub, o_mul, o_and, o_or, o_xor, o_shl, o_shr, o_neg, o_i2l, o_l2i, o_i2c, r_eq, r_ne, r_lt, r_ge, r_gt, r_le, r_eq0, r_ne0, r_lt0, r_ge0, r_gt0, r_le0, x_fld, x_int, x_ref, x_long, x_args, x_nar, xKd, xst1, xst2, xlg, Option.bind_some, Option.bind_none, Option.map_some, Option.map_none, List.getElem?_cons_zero, List.getElem?_cons_succ, List.set_cons_zero, List.set_cons_succ, List.length_cons, List.length_nil, List.length_map, List.length_range, List.length_set, decide_eq_true_eq, if_true, if_false, reduceIte, reduceCtorEq, Bool.not_true, Bool.not_false, Bool.false_eq_true, x_ix_nI, ax_get, ax_set, e_aald, s_aast, true_and, and_true, ite_true, ite_false, ↓bI_01, bI_eq0, bI_eq1, bool_or, tern_pure, and_pure, or_pure, bI_def, bne_t, ndf, decide_not, Bool.decide_eq_true, Bool.decide_and, Bool.decide_or, Nat.reduceEqDiff, Nat.reduceAdd, Nat.reduceMul, Nat.reduceSub, Nat.reduceLT, Nat.reduceLeDiff, or_false, false_or, or_true, true_or, and_false, false_and, Bool.or_eq_true, Bool.and_eq_true, Bool.or_false, Bool.or_true, Bool.true_or, Bool.false_or, Bool.and_true, Bool.and_false, Bool.true_and, Bool.false_and, decide_true, decide_false, not_true_eq_false, not_false_eq_true, g0, g0', g0'', e1, q, s0, r1, a1, b1', hk9, w1]
    · simp only [q, Bool.true_eq_false, if_false, iN_nI (show k < 2 ^ 31 by omega)]
      exact D2
    · rcases hb with hb | hb
      · have := hb.2; unfold dC; omega
      · have := hb.2; unfold dC; omega
def aTread (Y : XSy) (x y : Int32) : Int32 := if inR x (pM (yP Y)) = false then -1 else if inR y (pN (yP Y)) = false then -1 else if sOp (yP Y) (yS Y) (tP (yS Y) (iN x)) (iN y) = true then nI (pX (yP Y) (iN y) (tP (yS Y) (iN x))) else -2
def yTread (Y : XSy) (x y : Int32) : XSy := if inR x (pM (yP Y)) = false then Y else if inR y (pN (yP Y)) = false then Y else if sOp (yP Y) (yS Y) (tP (yS Y) (iN x)) (iN y) = true then (yP Y, sGo (yP Y) (yS Y) (iN x) (iN y), yPush Y, yK Y, yG Y, yL Y) else Y
theorem tread_d (H : DAt h Y) (K : YOK c Y) (x y : Int32) : ∃ h', m_X9_tread [.ref 0, .int x, .int y] h = some (some (.int (aTread Y x y)), h') ∧ DAt h' (yTread Y x y) ∧ xFr dC h h' := by
  obtain ⟨g0, g1, g2, g3, g4, g5, g6, g7, g8⟩ := id H
  have O := K.2.1
  have T := K.2.2.1
  have o2 := O.2.1
  have o5 := O.2.2.2.2.1
  have o6 := O.2.2.2.2.2.1
  have e1 := hasStile_d g2 y
  have e2 := hasWalker_d g2 x
  unfold aTread yTread
  rcases inR_cases x (n := pM (yP Y)) (by omega) with q | ⟨w, hw, rfl, q⟩
  · refine ⟨h, ?_, by simpa [q] using H, xFr.rf _ _⟩
    refine xM_run (env := [some (.ref 0), some (.int x), some (.int y)]) g0 rfl rfl (Nat.le_of_ble_eq_true rfl) rfl ?_ rfl
    simp (disch := omega) only [bd_X9_tread, x_out, s_seq, s_ite, s_ret, s_retZ, s_retV, s_iasg, s_aasg, s_lasg, s_inc, s_put, s_putop, s_ast, s_astop, s_exp, s_call, s_skip, s_brk, s_cont, s_oinit, e_lit, e_long, e_il, e_al, e_ll, e_bin, e_un, e_fld, e_ald, e_tern, e_call, e_alen, b_cmp, b_cmp0, b_lcmp, b_and, b_or, b_not, o_add, o_sub, o_mul, o_and, o_or, o_xor, o_shl, o_shr, o_neg, o_i2l, o_l2i, o_i2c, r_eq, r_ne, r_lt, r_ge, r_gt, r_le, r_eq0, r_ne0, r_lt0, r_ge0, r_gt0, r_le0, x_fld, x_int, x_ref, x_long, x_args, x_nar, xKd, xst1, xst2, xlg, Option.bind_some, Option.bind_none, Option.map_some, Option.map_none, List.getElem?_cons_zero, List.getElem?_cons_succ, List.set_cons_zero, List.set_cons_succ, List.length_cons, List.length_nil, List.length_map, List.length_range, List.length_set, decide_eq_true_eq, if_true, if_false, reduceIte, reduceCtorEq, Bool.not_true, Bool.not_false, Bool.false_eq_true, x_ix_nI, ax_get, ax_set, e_aald, s_aast, true_and, and_true, ite_true, ite_false, ↓bI_01, bI_eq0, bI_eq1, bool_or, tern_pure, and_pure, or_pure, bI_def, bne_t, ndf, decide_not, Bool.decide_eq_true, Bool.decide_and, Bool.decide_or, Nat.reduceEqDiff, Nat.reduceAdd, Nat.reduceMul, Nat.reduceSub, Nat.reduceLT, Nat.reduceLeDiff, or_false, false_or, or_true, true_or, and_false, false_and, Bool.or_eq_true, Bool.and_eq_true, Bool.or_false, Bool.or_true, Bool.true_or, Bool.false_or, Bool.and_true, Bool.and_false, Bool.true_and, Bool.false_and, decide_true, decide_false, not_true_eq_false, not_false_eq_true, g0, e2, q, bI_f, if_true]
  · rcases inR_cases y (n := pN (yP Y)) (by omega) with q2 | ⟨k, hk, rfl, q2⟩
    · refine ⟨h, ?_, by simpa [q, q2] using H, xFr.rf _ _⟩
      refine xM_run (env := [some (.ref 0), some (.int (nI w)), some (.int y)]) g0 rfl rfl (Nat.le_of_ble_eq_true rfl) rfl ?_ rfl
      simp (disch := omega) only [bd_X9_tread, x_out, s_seq, s_ite, s_ret, s_retZ, s_retV, s_iasg, s_aasg, s_lasg, s_inc, s_put, s_putop, s_ast, s_astop, s_exp, s_call, s_skip, s_brk, s_cont, s_oinit, e_lit, e_long, e_il, e_al, e_ll, e_bin, e_un, e_fld, e_ald, e_tern, e_call, e_alen, b_cmp, b_cmp0, b_lcmp, b_and, b_or, b_not, o_add, o_sub, o_mul, o_and, o_or, o_xor, o_shl, o_shr, o_neg, o_i2l, o_l2i, o_i2c, r_eq, r_ne, r_lt, r_ge, r_gt, r_le, r_eq0, r_ne0, r_lt0, r_ge0, r_gt0, r_le0, x_fld, x_int, x_ref, x_long, x_args, x_nar, xKd, xst1, xst2, xlg, Option.bind_some, Option.bind_none, Option.map_some, Option.map_none, List.getElem?_cons_zero, List.getElem?_cons_succ, List.set_cons_zero, List.set_cons_succ, List.length_cons, List.length_nil, List.length_map, List.length_range, List.length_set, decide_eq_true_eq, if_true, if_false, reduceIte, reduceCtorEq, Bool.not_true, Bool.not_false, Bool.false_eq_true, x_ix_nI, ax_get, ax_set, e_aald, s_aast, true_and, and_true, ite_true, ite_false, ↓bI_01, bI_eq0, bI_eq1, bool_or, tern_pure, and_pure, or_pure, bI_def, bne_t, ndf, decide_not, Bool.decide_eq_true, Bool.decide_and, Bool.decide_or, Nat.reduceEqDiff, Nat.reduceAdd, Nat.reduceMul, Nat.reduceSub, Nat.reduceLT, Nat.reduceLeDiff, or_false, false_or, or_true, true_or, and_false, false_and, Bool.or_eq_true, Bool.and_eq_true, Bool.or_false, Bool.or_true, Bool.true_or, Bool.false_or, Bool.and_true, Bool.and_false, Bool.true_and, Bool.false_and, decide_true, decide_false, not_true_eq_false, not_false_eq_true, g0, e1, e2, q, q2, bI_f, if_true]
    · have hk9 : k < 9 := by omega
      have hw4 : w < 4 := by omega
      have tp := T.2.1 w hw
      have s0 := g3.1
      have r1 := ax_row g3.2.2.1
      have e3 := isOpenAt_x g2 O g3 T hk (f := tP (yS Y) w) (by omega)
      rw [iN_nI (show w < 2 ^ 31 by omega), iN_nI (show k < 2 ^ 31 by omega)]
      cases q3 : sOp (yP Y) (yS Y) (tP (yS Y) w) k with
      | false =>
        rw [q3] at e3
        refine ⟨h, ?_, by simpa [q, q2, q3] using H, xFr.rf _ _⟩
        refine xM_run (env := [some (.ref 0), some (.int (nI w)), some (.int (nI k))]) g0 rfl rfl (Nat.le_of_ble_eq_true rfl) rfl ?_ rfl
        simp (disch := omega) only [bd_X9_tread, x_out, s_seq, s_ite, s_ret, s_retZ, s_retV, s_iasg, s_aasg, s_lasg, s_inc, s_put, s_putop, s_ast, s_astop, s_exp, s_call, s_skip, s_brk, s_cont, s_oinit, e_lit, e_long, e_il, e_al, e_ll, e_bin, e_un, e_fld, e_ald, e_tern, e_call, e_alen, b_cmp, b_cmp0, b_lcmp, b_and, b_or, b_not, o_add, o_sub, o_mul, o_and, o_or, o_xor, o_shl, o_shr, o_neg, o_i2l, o_l2i, o_i2c, r_eq, r_ne, r_lt, r_ge, r_gt, r_le, r_eq0, r_ne0, r_lt0, r_ge0, r_gt0, r_le0, x_fld, x_int, x_ref, x_long, x_args, x_nar, xKd, xst1, xst2, xlg, Option.bind_some, Option.bind_none, Option.map_some, Option.map_none, List.getElem?_cons_zero, List.getElem?_cons_succ, List.set_cons_zero, List.set_cons_succ, List.length_cons, List.length_nil, List.length_map, List.length_range, List.length_set, decide_eq_true_eq, if_true, if_false, reduceIte, reduceCtorEq, Bool.not_true, Bool.not_false, Bool.false_eq_true, x_ix_nI, ax_get, ax_set, e_aald, s_aast, true_and, and_true, ite_true, ite_false, ↓bI_01, bI_eq0, bI_eq1, bool_or, tern_pure, and_pure, or_pure, bI_def, bne_t, ndf, decide_not, Bool.decide_eq_true, Bool.decide_and, Bool.decide_or, Nat.reduceEqDiff, Nat.reduceAdd, Nat.reduceMul, Nat.reduceSub, Nat.reduceLT, Nat.reduceLeDiff, or_false, false_or, or_true, true_or, and_false, false_and, Bool.or_eq_true, Bool.and_eq_true, Bool.or_false, Bool.or_true, Bool.true_or, Bool.false_or, Bool.and_true, Bool.and_false, Bool.true_and, Bool.false_and, decide_true, decide_false, not_true_eq_false, not_false_eq_true, g0, e1, e2, e3, s0, r1, q, q2, q3, hw4, bI_f, if_true]
      | true =>
        rw [q3] at e3
        obtain ⟨h1, a1, a2, a3⟩ := push_x g5 (by omega) (by omega) g3 (by omega)
        have D1 := H.putQ a3 a2
        obtain ⟨h2, b1, b2, b3⟩ := goOver_x (show PAt h1 11 (yP Y) from D1.2.2.1) O (by omega) (show SAt h1 18 (yS Y) from D1.2.2.2.1) T hw hk
        have D2 := D1.putS b3 b2
        have s0' := b2.1
        have r1' := ax_row b2.2.2.1
        have g0' := D1.1
        have g0'' := D2.1
        have w1 : (tP (sGo (yP Y) (yS Y) w k)) w = pX (yP Y) k (tP (yS Y) w) := by simp [sGo, tP]
        refine ⟨h2, ?_, ?_, (a3.trans b3).mono fun b hb => ?_⟩
        · refine xM_run (env := [some (.ref 0), some (.int (nI w)), some (.int (nI k))]) g0 rfl rfl (Nat.le_of_ble_eq_true rfl) rfl ?_ rfl
          simp (disch := omega) only [bd_X9_tread, x_out, s_seq, s_ite, s_ret, s_retZ, s_retV, s_iasg, s_aasg, s_lasg, s_inc, s_put, s_putop, s_ast, s_astop, s_exp, s_call, s_skip, s_brk, s_cont, s_oinit, e_lit, e_long, e_il, e_al, e_ll, e_bin, e_un, e_fld, e_ald, e_tern, e_call, e_alen, b_cmp, b_cmp0, b_lcmp, b_and, b_or, b_not, o_add, o_sub, o_mul, o_and, o_or, o_xor, o_shl, o_shr, o_neg, o_i2l, o_l2i, o_i2c, r_eq, r_ne, r_lt, r_ge, r_gt, r_le, r_eq0, r_ne0, r_lt0, r_ge0, r_gt0, r_le0, x_fld, x_int, x_ref, x_long, x_args, x_nar, xKd, xst1, xst2, xlg, Option.bind_some, Option.bind_none, Option.map_some, Option.map_none, List.getElem?_cons_zero, List.getElem?_cons_succ, List.set_cons_zero, List.set_cons_succ, List.length_cons, List.length_nil, List.length_map, List.length_range, List.length_set, decide_eq_true_eq, if_true, if_false, reduceIte, reduceCtorEq, Bool.not_true, Bool.not_false, Bool.false_eq_true, x_ix_nI, ax_get, ax_set, e_aald, s_aast, true_and, and_true, ite_true, ite_false, ↓bI_01, bI_eq0, bI_eq1, bool_or, tern_pure, and_pure, or_pure, bI_def, bne_t, ndf, decide_not, Bool.decide_eq_true, Bool.decide_and, Bool.decide_or, Nat.reduceEqDiff, Nat.reduceAdd, Nat.reduceMul, Nat.reduceSub, Nat.reduceLT, Nat.reduceLeDiff, or_false, false_or, or_true, true_or, and_false, false_and, Bool.or_eq_true, Bool.and_eq_true, Bool.or_false, Bool.or_true, Bool.true_or, Bool.false_or, Bool.and_true, Bool.and_false, Bool.true_and, Bool.false_and, decide_true, decide_false, not_true_eq_false, not_false_eq_true, g0, g0', g0'', e1, e2, e3, q, q2, q3, s0, r1, s0', r1', a1, b1, hw4, w1]
        · simp only [q, q2, q3, Bool.true_eq_false, if_false, if_true]
          exact D2
        · rcases hb with hb | hb
          · have := hb.2; unfold dC; omega
          · have := hb.2; unfold dC; omega
theorem snoc_or {α : Type} (l : List α) : l = [] ∨ ∃ (qs : List α) (x : α), l = qs ++ [x] := by
  rcases List.eq_nil_or_concat l with q | ⟨qs, x, q⟩
  · exact Or.inl q
  · exact Or.inr ⟨qs, x, by simpa using q⟩
def aUndo (Y : XSy) : Int32 := if (yQ Y).length = 0 then -2 else nI ((yQ Y).length - 1)
def yUndo (Y : XSy) : XSy := match (yQ Y).getLast? with
  | none => Y
  | some S => (yP Y, S, (yQ Y).dropLast, yK Y, yG Y, yL Y)
theorem undo_d (H : DAt h Y) (K : YOK c Y) : ∃ h', m_X9_undo [.ref 0] h = some (some (.int (aUndo Y)), h') ∧ DAt h' (yUndo Y) ∧ xFr dC h h' := by
  obtain ⟨g0, g1, g2, g3, ⟨D, g4⟩, g5, g6, g7, g8⟩ := id H
  have e1 := popInto_x g5 (by omega) g3 (by omega)
  unfold aUndo yUndo
  rcases snoc_or (yQ Y) with q | ⟨qs, S', q⟩
  · have e2 := e1.1 q
    refine ⟨h, ?_, by simpa [q] using H, xFr.rf _ _⟩
    refine xM_run (env := [some (.ref 0)]) g0 rfl rfl (Nat.le_of_ble_eq_true rfl) rfl ?_ rfl
    simp (disch := omega) only [bd_X9_undo, x_out, s_seq, s_ite, s_ret, s_retZ, s_retV, s_iasg, s_aasg, s_lasg, s_inc, s_put, s_putop, s_ast, s_astop, s_exp, s_call, s_skip, s_brk, s_cont, s_oinit, e_lit, e_long, e_il, e_al, e_ll, e_bin, e_un, e_fld, e_ald, e_tern, e_call, e_alen, b_cmp, b_cmp0, b_lcmp, b_and, b_or, b_not, o_add, o_sub, o_mul, o_and, o_or, o_xor, o_shl, o_shr, o_neg, o_i2l, o_l2i, o_i2c, r_eq, r_ne, r_lt, r_ge, r_gt, r_le, r_eq0, r_ne0, r_lt0, r_ge0, r_gt0, r_le0, x_fld, x_int, x_ref, x_long, x_args, x_nar, xKd, xst1, xst2, xlg, Option.bind_some, Option.bind_none, Option.map_some, Option.map_none, List.getElem?_cons_zero, List.getElem?_cons_succ, List.set_cons_zero, List.set_cons_succ, List.length_cons, List.length_nil, List.length_map, List.length_range, List.length_set, decide_eq_true_eq, if_true, if_false, reduceIte, reduceCtorEq, Bool.not_true, Bool.not_false, Bool.false_eq_true, x_ix_nI, ax_get, ax_set, e_aald, s_aast, true_and, and_true, ite_true, ite_false, ↓bI_01, bI_eq0, bI_eq1, bool_or, tern_pure, and_pure, or_pure, bI_def, bne_t, ndf, decide_not, Bool.decide_eq_true, Bool.decide_and, Bool.decide_or, Nat.reduceEqDiff, Nat.reduceAdd, Nat.reduceMul, Nat.reduceSub, Nat.reduceLT, Nat.reduceLeDiff, or_false, false_or, or_true, true_or, and_false, false_and, Bool.or_eq_true, Bool.and_eq_true, Bool.or_false, Bool.or_true, Bool.true_or, Bool.false_or, Bool.and_true, Bool.and_false, Bool.true_and, Bool.false_and, decide_true, decide_false, not_true_eq_false, not_false_eq_true, g0, e2, q]
  · obtain ⟨h', e2, e3, e4, F⟩ := e1.2 qs S' q
    have g0' := (F.2.2 _ (by (try simp only [sCells, qCells]); omega)).trans g0
    have k0 := e4.2.1
    refine ⟨h', ?_, ?_, F.mono fun b hb => ?_⟩
    · have q9 : ¬ qs.length + 1 = 0 := by omega
      refine xM_run (env := [some (.ref 0)]) g0 rfl rfl (Nat.le_of_ble_eq_true rfl) rfl ?_ rfl
      simp (disch := omega) only [bd_X9_undo, x_out, s_seq, s_ite, s_ret, s_retZ, s_retV, s_iasg, s_aasg, s_lasg, s_inc, s_put, s_putop, s_ast, s_astop, s_exp, s_call, s_skip, s_brk, s_cont, s_oinit, e_lit, e_long, e_il, e_al, e_ll, e_bin, e_un, e_fld, e_ald, e_tern, e_call, e_alen, b_cmp, b_cmp0, b_lcmp, b_and, b_or, b_not, o_add, o_sub, o_mul, o_and, o_or, o_xor, o_shl, o_shr, o_neg, o_i2l, o_l2i, o_i2c, r_eq, r_ne, r_lt, r_ge, r_gt, r_le, r_eq0, r_ne0, r_lt0, r_ge0, r_gt0, r_le0, x_fld, x_int, x_ref, x_long, x_args, x_nar, xKd, xst1, xst2, xlg, Option.bind_some, Option.bind_none, Option.map_some, Option.map_none, List.getElem?_cons_zero, List.getElem?_cons_succ, List.set_cons_zero, List.set_cons_succ, List.length_cons, List.length_nil, List.length_map, List.length_range, List.length_set, decide_eq_true_eq, if_true, if_false, reduceIte, reduceCtorEq, Bool.not_true, Bool.not_false, Bool.false_eq_true, x_ix_nI, ax_get, ax_set, e_aald, s_aast, true_and, and_true, ite_true, ite_false, ↓bI_01, bI_eq0, bI_eq1, bool_or, tern_pure, and_pure, or_pure, bI_def, bne_t, ndf, decide_not, Bool.decide_eq_true, Bool.decide_and, Bool.decide_or, Nat.reduceEqDiff, Nat.reduceAdd, Nat.reduceMul, Nat.reduceSub, Nat.reduceLT, Nat.reduceLeDiff, or_false, false_or, or_true, true_or, and_false, false_and, Bool.or_eq_true, Bool.and_eq_true, Bool.or_false, Bool.or_true, Bool.true_or, Bool.false_or, Bool.and_true, Bool.and_false, Bool.true_and, Bool.false_and, decide_true, decide_false, not_true_eq_false, not_false_eq_true, i10, g0, g0', e2, k0, q, List.length_append, q9, Nat.add_sub_cancel]
    · simp only [q, List.getLast?_append, List.getLast?_singleton, Option.some_or, List.dropLast_concat]
      exact ⟨g0', g1.same (fun a _ _ => F.2.2 a (by (try simp only [sCells, qCells]); omega)), g2.same (fun a _ _ => F.2.2 a (by (try simp only [sCells, qCells]); omega)), e3, ⟨D, g4.same (fun a _ _ => F.2.2 a (by (try simp only [sCells, qCells]); omega))⟩, e4, g6.same (fun a q => F.2.2 a (by have q1 := q.1; have q2 := q.2; (try simp only [sCells, qCells]); omega)), g7.same (fun a _ _ => F.2.2 a (by (try simp only [sCells, qCells]); omega)), g8.same (fun a _ _ => F.2.2 a (by (try simp only [sCells, qCells]); omega))⟩
    · rcases hb with hb | hb
      · have := hb.2; unfold dC; omega
      · unfold dC; omega
def aKeep (Y : XSy) : Int32 := if 2 ≤ (yK Y).length then -3 else nI ((yK Y).length + 1)
def yKeep (Y : XSy) : XSy := if 2 ≤ (yK Y).length then Y else (yP Y, yS Y, yQ Y, yK Y ++ [yS Y], yG Y, yL Y)
theorem keep_d (H : DAt h Y) (K : YOK c Y) : ∃ h', m_X9_keep [.ref 0] h = some (some (.int (aKeep Y)), h') ∧ DAt h' (yKeep Y) ∧ xFr dC h h' := by
  obtain ⟨g0, g1, g2, g3, ⟨D, g4⟩, g5, g6, g7, g8⟩ := id H
  have e1 := isFull_x g6 (by omega)
  unfold aKeep yKeep
  by_cases q : 2 ≤ (yK Y).length
  · refine ⟨h, ?_, by simpa [q] using H, xFr.rf _ _⟩
    refine xM_run (env := [some (.ref 0)]) g0 rfl rfl (Nat.le_of_ble_eq_true rfl) rfl ?_ rfl
    simp (disch := omega) only [bd_X9_keep, x_out, s_seq, s_ite, s_ret, s_retZ, s_retV, s_iasg, s_aasg, s_lasg, s_inc, s_put, s_putop, s_ast, s_astop, s_exp, s_call, s_skip, s_brk, s_cont, s_oinit, e_lit, e_long, e_il, e_al, e_ll, e_bin, e_un, e_fld, e_ald, e_tern, e_call, e_alen, b_cmp, b_cmp0, b_lcmp, b_and, b_or, b_not, o_add, o_sub, o_mul, o_and, o_or, o_xor, o_shl, o_shr, o_neg, o_i2l, o_l2i, o_i2c, r_eq, r_ne, r_lt, r_ge, r_gt, r_le, r_eq0, r_ne0, r_lt0, r_ge0, r_gt0, r_le0, x_fld, x_int, x_ref, x_long, x_args, x_nar, xKd, xst1, xst2, xlg, Option.bind_some, Option.bind_none, Option.map_some, Option.map_none, List.getElem?_cons_zero, List.getElem?_cons_succ, List.set_cons_zero, List.set_cons_succ, List.length_cons, List.length_nil, List.length_map, List.length_range, List.length_set, decide_eq_true_eq, if_true, if_false, reduceIte, reduceCtorEq, Bool.not_true, Bool.not_false, Bool.false_eq_true, x_ix_nI, ax_get, ax_set, e_aald, s_aast, true_and, and_true, ite_true, ite_false, ↓bI_01, bI_eq0, bI_eq1, bool_or, tern_pure, and_pure, or_pure, bI_def, bne_t, ndf, decide_not, Bool.decide_eq_true, Bool.decide_and, Bool.decide_or, Nat.reduceEqDiff, Nat.reduceAdd, Nat.reduceMul, Nat.reduceSub, Nat.reduceLT, Nat.reduceLeDiff, or_false, false_or, or_true, true_or, and_false, false_and, Bool.or_eq_true, Bool.and_eq_true, Bool.or_false, Bool.or_true, Bool.true_or, Bool.false_or, Bool.and_true, Bool.and_false, Bool.true_and, Bool.false_and, decide_true, decide_false, not_true_eq_false, not_false_eq_true, g0, e1, q]
  · obtain ⟨h1, a1, a2, a3⟩ := push_x g6 (by omega) (by omega) g3 (by omega)
    rw [if_neg (by omega)] at a2
    have D1 := H.putK a3 a2
    have g0' := D1.1
    have k0 := a2.2.1
    refine ⟨h1, ?_, ?_, a3.mono fun b hb => ?_⟩
    · refine xM_run (env := [some (.ref 0)]) g0 rfl rfl (Nat.le_of_ble_eq_true rfl) rfl ?_ rfl
      simp (disch := omega) only [bd_X9_keep, x_out, s_seq, s_ite, s_ret, s_retZ, s_retV, s_iasg, s_aasg, s_lasg, s_inc, s_put, s_putop, s_ast, s_astop, s_exp, s_call, s_skip, s_brk, s_cont, s_oinit, e_lit, e_long, e_il, e_al, e_ll, e_bin, e_un, e_fld, e_ald, e_tern, e_call, e_alen, b_cmp, b_cmp0, b_lcmp, b_and, b_or, b_not, o_add, o_sub, o_mul, o_and, o_or, o_xor, o_shl, o_shr, o_neg, o_i2l, o_l2i, o_i2c, r_eq, r_ne, r_lt, r_ge, r_gt, r_le, r_eq0, r_ne0, r_lt0, r_ge0, r_gt0, r_le0, x_fld, x_int, x_ref, x_long, x_args, x_nar, xKd, xst1, xst2, xlg, Option.bind_some, Option.bind_none, Option.map_some, Option.map_none, List.getElem?_cons_zero, List.getElem?_cons_succ, List.set_cons_zero, List.set_cons_succ, List.length_cons, List.length_nil, List.length_map, List.length_range, List.length_set, decide_eq_true_eq, if_true, if_false, reduceIte, reduceCtorEq, Bool.not_true, Bool.not_false, Bool.false_eq_true, x_ix_nI, ax_get, ax_set, e_aald, s_aast, true_and, and_true, ite_true, ite_false, ↓bI_01, bI_eq0, bI_eq1, bool_or, tern_pure, and_pure, or_pure, bI_def, bne_t, ndf, decide_not, Bool.decide_eq_true, Bool.decide_and, Bool.decide_or, Nat.reduceEqDiff, Nat.reduceAdd, Nat.reduceMul, Nat.reduceSub, Nat.reduceLT, Nat.reduceLeDiff, or_false, false_or, or_true, true_or, and_false, false_and, Bool.or_eq_true, Bool.and_eq_true, Bool.or_false, Bool.or_true, Bool.true_or, Bool.false_or, Bool.and_true, Bool.and_false, Bool.true_and, Bool.false_and, decide_true, decide_false, not_true_eq_false, not_false_eq_true, g0, g0', e1, q, a1, k0, List.length_append]
    · rw [if_neg q]
      exact D1
    · have := hb.2; unfold dC; omega
def aBack (Y : XSy) : Int32 := if (yK Y).length = 0 then -2 else nI ((yK Y).length - 1)
def yBack (Y : XSy) : XSy := match (yK Y).getLast? with
  | none => Y
  | some S => (yP Y, S, [], (yK Y).dropLast, yG Y, yL Y)
theorem QAt.cut {y M : Nat} {ps : List XT} (H : QAt h y M ps) : QAt (h.set y (.inl (7, [.int 0, .ref (y + 1)]))) y M [] ∧ xFr (fun b => b = y) h (h.set y (.inl (7, [.int 0, .ref (y + 1)]))) := by
  obtain ⟨h0, h1, rs, h2, h3, h4, h5, h6⟩ := H
  refine ⟨⟨Nat.zero_le _, set_at h1, rs, (set_ne (by omega)).trans h2, h3, h4, fun i hi => ?_, fun i S hS => by simp at hS⟩, xFr.set h1 (by rfl)⟩
  obtain ⟨S, hS⟩ := h5 i hi
  obtain ⟨j, hj, e1⟩ := h3 i hi
  exact ⟨S, hS.same fun b b1 b2 => set_ne (by omega)⟩
theorem back_d (H : DAt h Y) (K : YOK c Y) : ∃ h', m_X9_back [.ref 0] h = some (some (.int (aBack Y)), h') ∧ DAt h' (yBack Y) ∧ xFr dC h h' := by
  obtain ⟨g0, g1, g2, g3, ⟨D, g4⟩, g5, g6, g7, g8⟩ := id H
  have e1 := popInto_x g6 (by omega) g3 (by omega)
  unfold aBack yBack
  rcases snoc_or (yK Y) with q | ⟨qs, S', q⟩
  · have e2 := e1.1 q
    refine ⟨h, ?_, by simpa [q] using H, xFr.rf _ _⟩
    refine xM_run (env := [some (.ref 0)]) g0 rfl rfl (Nat.le_of_ble_eq_true rfl) rfl ?_ rfl
    simp (disch := omega) only [bd_X9_back, x_out, s_seq, s_ite, s_ret, s_retZ, s_retV, s_iasg, s_aasg, s_lasg, s_inc, s_put, s_putop, s_ast, s_astop, s_exp, s_call, s_skip, s_brk, s_cont, s_oinit, e_lit, e_long, e_il, e_al, e_ll, e_bin, e_un, e_fld, e_ald, e_tern, e_call, e_alen, b_cmp, b_cmp0, b_lcmp, b_and, b_or, b_not, o_add, o_sub, o_mul, o_and, o_or, o_xor, o_shl, o_shr, o_neg, o_i2l, o_l2i, o_i2c, r_eq, r_ne, r_lt, r_ge, r_gt, r_le, r_eq0, r_ne0, r_lt0, r_ge0, r_gt0, r_le0, x_fld, x_int, x_ref, x_long, x_args, x_nar, xKd, xst1, xst2, xlg, Option.bind_some, Option.bind_none, Option.map_some, Option.map_none, List.getElem?_cons_zero, List.getElem?_cons_succ, List.set_cons_zero, List.set_cons_succ, List.length_cons, List.length_nil, List.length_map, List.length_range, List.length_set, decide_eq_true_eq, if_true, if_false, reduceIte, reduceCtorEq, Bool.not_true, Bool.not_false, Bool.false_eq_true, x_ix_nI, ax_get, ax_set, e_aald, s_aast, true_and, and_true, ite_true, ite_false, ↓bI_01, bI_eq0, bI_eq1, bool_or, tern_pure, and_pure, or_pure, bI_def, bne_t, ndf, decide_not, Bool.decide_eq_true, Bool.decide_and, Bool.decide_or, Nat.reduceEqDiff, Nat.reduceAdd, Nat.reduceMul, Nat.reduceSub, Nat.reduceLT, Nat.reduceLeDiff, or_false, false_or, or_true, true_or, and_false, false_and, Bool.or_eq_true, Bool.and_eq_true, Bool.or_false, Bool.or_true, Bool.true_or, Bool.false_or, Bool.and_true, Bool.and_false, Bool.true_and, Bool.false_and, decide_true, decide_false, not_true_eq_false, not_false_eq_true, g0, e2, q]
  · obtain ⟨h1, e2, e3, e4, F⟩ := e1.2 qs S' q
    have g0' := (F.2.2 _ (by (try simp only [sCells, qCells]); omega)).trans g0
    have D1 : DAt h1 (yP Y, S', yQ Y, qs, yG Y, yL Y) := ⟨g0', g1.same (fun a _ _ => F.2.2 a (by (try simp only [sCells, qCells]); omega)), g2.same (fun a _ _ => F.2.2 a (by (try simp only [sCells, qCells]); omega)), e3, ⟨D, g4.same (fun a _ _ => F.2.2 a (by (try simp only [sCells, qCells]); omega))⟩, g5.same (fun a q => F.2.2 a (by have q1 := q.1; have q2 := q.2; (try simp only [sCells, qCells]); omega)), e4, g7.same (fun a _ _ => F.2.2 a (by (try simp only [sCells, qCells]); omega)), g8.same (fun a _ _ => F.2.2 a (by (try simp only [sCells, qCells]); omega))⟩
    obtain ⟨c1, c2⟩ := (show QAt h1 30 8 (yQ Y) from D1.2.2.2.2.2.1).cut
    have k1 := (show QAt h1 30 8 (yQ Y) from D1.2.2.2.2.2.1).2.1
    generalize hh : h1.set 30 (.inl (7, [.int 0, .ref (30 + 1)])) = h2 at c1 c2
    have D2 := D1.putQ (c2.mono fun b hb => ⟨by omega, by omega⟩) c1
    have g0'' := D2.1
    have k0 := (show QAt h2 80 2 qs from D2.2.2.2.2.2.2.1).2.1
    refine ⟨h2, ?_, ?_, (F.trans c2).mono fun b hb => ?_⟩
    · have q9 : ¬ qs.length + 1 = 0 := by omega
      refine xM_run (env := [some (.ref 0)]) g0 rfl rfl (Nat.le_of_ble_eq_true rfl) rfl ?_ rfl
      simp (disch := omega) only [bd_X9_back, x_out, s_seq, s_ite, s_ret, s_retZ, s_retV, s_iasg, s_aasg, s_lasg, s_inc, s_put, s_putop, s_ast, s_astop, s_exp, s_call, s_skip, s_brk, s_cont, s_oinit, e_lit, e_long, e_il, e_al, e_ll, e_bin, e_un, e_fld, e_ald, e_tern, e_call, e_alen, b_cmp, b_cmp0, b_lcmp, b_and, b_or, b_not, o_add, o_sub, o_mul, o_and, o_or, o_xor, o_shl, o_shr, o_neg, o_i2l, o_l2i, o_i2c, r_eq, r_ne, r_lt, r_ge, r_gt, r_le, r_eq0, r_ne0, r_lt0, r_ge0, r_gt0, r_le0, x_fld, x_int, x_ref, x_long, x_args, x_nar, xKd, xst1, xst2, xlg, Option.bind_some, Option.bind_none, Option.map_some, Option.map_none, List.getElem?_cons_zero, List.getElem?_cons_succ, List.set_cons_zero, List.set_cons_succ, List.length_cons, List.length_nil, List.length_map, List.length_range, List.length_set, decide_eq_true_eq, if_true, if_false, reduceIte, reduceCtorEq, Bool.not_true, Bool.not_false, Bool.false_eq_true, x_ix_nI, ax_get, ax_set, e_aald, s_aast, true_and, and_true, ite_true, ite_false, ↓bI_01, bI_eq0, bI_eq1, bool_or, tern_pure, and_pure, or_pure, bI_def, bne_t, ndf, decide_not, Bool.decide_eq_true, Bool.decide_and, Bool.decide_or, Nat.reduceEqDiff, Nat.reduceAdd, Nat.reduceMul, Nat.reduceSub, Nat.reduceLT, Nat.reduceLeDiff, or_false, false_or, or_true, true_or, and_false, false_and, Bool.or_eq_true, Bool.and_eq_true, Bool.or_false, Bool.or_true, Bool.true_or, Bool.false_or, Bool.and_true, Bool.and_false, Bool.true_and, Bool.false_and, decide_true, decide_false, not_true_eq_false, not_false_eq_true, i10, g0, g0', g0'', e2, k0, k1, hh, q, List.length_append, q9, Nat.add_sub_cancel]
    · simp only [q, List.getLast?_append, List.getLast?_singleton, Option.some_or, List.dropLast_concat]
      exact D2
    · rcases hb with (hb | hb) | hb
      · have := hb.2; unfold dC; omega
      · unfold dC; omega
      · unfold dC; omega
end DF
