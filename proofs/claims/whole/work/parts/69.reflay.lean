/-! the reference: the fault's place, the laying -/
def zO (q k : Nat) (P : XP) (sn tx : Nat) (z : XZ) : XC := .inl (10, [.ref 107, .int (nI q), .int (nI k), .int (nI (pF P)), .int (nI (pN P)), .ref 108, .ref 109, .ref 110, .int (nI (pM P)), .ref 111, .ref 112, .int (nI (pB P)), .int (nI sn), .ref 113, .ref 114, .ref 115, .int (nI tx), .int (z 0), .int (z 1), .int (z 2), .int (z 3), .ref 116, .int (z 4), .ref 117, .int (z 5), .int (z 6), .ref 118, .ref 119])
theorem zput {h : XH} {q k : Nat} {P : XP} {sn tx : Nat} {z : XZ} {s : XS} {i : Nat} {v : Int32} (h0 : h[106]? = some (zO q k P sn tx z)) (hs : s [some (.ref 106), none] h = some (none, [some (.ref 106), none], h.set 106 (zO q k P sn tx (upd z i v)))) : ∃ h', s [some (.ref 106), none] h = some (none, [some (.ref 106), none], h') ∧ h'[106]? = some (zO q k P sn tx (upd z i v)) ∧ xFr (fun b => b = 106) h h' := ⟨_, hs, set_at h0, xFr.set h0 (by rfl)⟩
section RK
variable {h h' : XH} {Y : XSy} {c : Nat}
theorem RPa.at {pl nm : Nat} {T : XP} {ot : Bool} (H0 : RAt h Y) (F : xFr rZ h h') (H : RPa h' (yQ Y).length (yK Y).length (yP Y) (yG Y).1 (yL Y) pl nm T ot) : RAt h' Y := by
  obtain ⟨g0, -, ⟨f, g2, g3⟩, g4, g5, g6, -, -, g8, g9⟩ := H0
  obtain ⟨x0, ⟨f1, x1, -⟩, ⟨f2, x2, -⟩, x3⟩ := H
  have e : ∀ b, b ≠ 106 → b ≠ 116 → b ≠ 117 → h'[b]? = h[b]? := fun b h1 h2 h3 => F.2.2 b (by unfold rZ; omega)
  obtain ⟨f8, g8⟩ := g8
  obtain ⟨f9, g9⟩ := g9
  exact ⟨g0, ⟨fun i => match i with
    | 0 => nI pl
    | 1 => nI nm
    | 2 => nI (pF T)
    | 3 => nI (pN T)
    | 4 => nI (pM T)
    | 5 => nI (pB T)
    | _ => bI ot, x0⟩, ⟨f, (e _ (by omega) (by omega) (by omega)).trans g2, g3⟩, g4.same fun b _ _ => e b (by omega) (by omega) (by omega), g5.same fun b _ _ => e b (by omega) (by omega) (by omega), x3, ⟨f1, x1⟩, ⟨f2, x2⟩, ⟨f8, (e _ (by omega) (by omega) (by omega)).trans g8⟩, f9, (e _ (by omega) (by omega) (by omega)).trans g9⟩
theorem faultOf_r (H : RAt h Y) (K : YOK c Y) (J : XP) : ∃ h', m_X10_faultOf [.ref 106] h = some (some (.int (oI (pfL (yL Y) J).1)), h') ∧ xFr rZ h h' ∧ (∃ pl nm T ot, RPa h' (yQ Y).length (yK Y).length (yP Y) (yG Y).1 (yL Y) pl nm T ot) ∧ ((pfL (yL Y) J).1 = none → ∃ pl nm ot, RPa h' (yQ Y).length (yK Y).length (yP Y) (yG Y).1 (yL Y) pl nm (pfL (yL Y) J).2 ot) := by
  have kl := K.2.2.2.2.2.2.2.1
  have ka := K.2.2.2.2.2.2.2.2.1
  obtain ⟨-, ⟨z, h0⟩, -, -, -, t, ⟨f1, w1⟩, ⟨f2, w2⟩, -⟩ := id H
  have h0 : h[106]? = some (zO (yQ Y).length (yK Y).length (yP Y) (yG Y).1 (yL Y).length z) := h0
  generalize (yQ Y).length = q at h0 ⊢
  generalize (yK Y).length = k at h0 ⊢
  generalize (yP Y) = P at h0 ⊢
  generalize (yG Y).1 = sn at h0 ⊢
  generalize yL Y = l at h0 kl ka t ⊢
  have h0' : h[106]? = some (.inl (10, _)) := h0
  obtain ⟨h1, s1, m1, F1⟩ := zput (i := 2) (v := 5) h0 (s := s_put 10 19 0 (e_al 0) (e_lit 5)) (by simp (disch := omega) only [x_out, s_seq, s_ite, s_ret, s_retZ, s_retV, s_iasg, s_aasg, s_lasg, s_inc, s_put, s_putop, s_ast, s_astop, s_exp, s_call, s_skip, s_brk, s_cont, s_oinit, e_lit, e_long, e_il, e_al, e_ll, e_bin, e_un, e_fld, e_ald, e_tern, e_call, e_alen, b_cmp, b_cmp0, b_lcmp, b_and, b_or, b_not, o_add, o_sub, o_mul, o_and, o_or, o_xor, o_shl, o_shr, o_neg, o_i2l, o_l2i, o_i2c, r_eq, r_ne, r_lt, r_ge, r_gt, r_le, r_eq0, r_ne0, r_lt0, r_ge0, r_gt0, r_le0, x_fld, x_int, x_ref, x_long, x_args, x_nar, xKd, xst1, xst2, xlg, Option.bind_some, Option.bind_none, Option.map_some, Option.map_none, List.getElem?_cons_zero, List.getElem?_cons_succ, List.set_cons_zero, List.set_cons_succ, List.length_cons, List.length_nil, List.length_map, List.length_range, List.length_set, decide_eq_true_eq, if_true, if_false, reduceIte, reduceCtorEq, Bool.not_true, Bool.not_false, Bool.false_eq_true, x_ix_nI, ax_get, ax_set, e_aald, s_aast, true_and, and_true, ite_true, ite_false, ↓bI_01, bI_eq0, bI_eq1, bool_or, tern_pure, and_pure, or_pure, bI_def, bne_t, ndf, decide_not, Bool.decide_eq_true, Bool.decide_and, Bool.decide_or, Nat.reduceEqDiff, Nat.reduceAdd, Nat.reduceMul, Nat.reduceSub, Nat.reduceLT, Nat.reduceLeDiff, or_false, false_or, or_true, true_or, and_false, false_and, Bool.or_eq_true, Bool.and_eq_true, Bool.or_false, Bool.or_true, Bool.true_or, Bool.false_or, Bool.and_true, Bool.and_false, Bool.true_and, Bool.false_and, decide_true, decide_false, not_true_eq_false, not_false_eq_true, h0']; rfl)
  have m1' : h1[106]? = some (.inl (10, _)) := m1
  obtain ⟨h2, s2, m2, F2⟩ := zput (i := 3) (v := 0) m1 (s := s_put 10 20 0 (e_al 0) (e_lit 0)) (by simp (disch := omega) only [x_out, s_seq, s_ite, s_ret, s_retZ, s_retV, s_iasg, s_aasg, s_lasg, s_inc, s_put, s_putop, s_ast, s_astop, s_exp, s_call, s_skip, s_brk, s_cont, s_oinit, e_lit, e_long, e_il, e_al, e_ll, e_bin, e_un, e_fld, e_ald, e_tern, e_call, e_alen, b_cmp, b_cmp0, b_lcmp, b_and, b_or, b_not, o_add, o_sub, o_mul, o_and, o_or, o_xor, o_shl, o_shr, o_neg, o_i2l, o_l2i, o_i2c, r_eq, r_ne, r_lt, r_ge, r_gt, r_le, r_eq0, r_ne0, r_lt0, r_ge0, r_gt0, r_le0, x_fld, x_int, x_ref, x_long, x_args, x_nar, xKd, xst1, xst2, xlg, Option.bind_some, Option.bind_none, Option.map_some, Option.map_none, List.getElem?_cons_zero, List.getElem?_cons_succ, List.set_cons_zero, List.set_cons_succ, List.length_cons, List.length_nil, List.length_map, List.length_range, List.length_set, decide_eq_true_eq, if_true, if_false, reduceIte, reduceCtorEq, Bool.not_true, Bool.not_false, Bool.false_eq_true, x_ix_nI, ax_get, ax_set, e_aald, s_aast, true_and, and_true, ite_true, ite_false, ↓bI_01, bI_eq0, bI_eq1, bool_or, tern_pure, and_pure, or_pure, bI_def, bne_t, ndf, decide_not, Bool.decide_eq_true, Bool.decide_and, Bool.decide_or, Nat.reduceEqDiff, Nat.reduceAdd, Nat.reduceMul, Nat.reduceSub, Nat.reduceLT, Nat.reduceLeDiff, or_false, false_or, or_true, true_or, and_false, false_and, Bool.or_eq_true, Bool.and_eq_true, Bool.or_false, Bool.or_true, Bool.true_or, Bool.false_or, Bool.and_true, Bool.and_false, Bool.true_and, Bool.false_and, decide_true, decide_false, not_true_eq_false, not_false_eq_true, m1']; rfl)
  have m2' : h2[106]? = some (.inl (10, _)) := m2
  obtain ⟨h3, s3, m3, F3⟩ := zput (i := 4) (v := 0) m2 (s := s_put 10 22 0 (e_al 0) (e_lit 0)) (by simp (disch := omega) only [x_out, s_seq, s_ite, s_ret, s_retZ, s_retV, s_iasg, s_aasg, s_lasg, s_inc, s_put, s_putop, s_ast, s_astop, s_exp, s_call, s_skip, s_brk, s_cont, s_oinit, e_lit, e_long, e_il, e_al, e_ll, e_bin, e_un, e_fld, e_ald, e_tern, e_call, e_alen, b_cmp, b_cmp0, b_lcmp, b_and, b_or, b_not, o_add, o_sub, o_mul, o_and, o_or, o_xor, o_shl, o_shr, o_neg, o_i2l, o_l2i, o_i2c, r_eq, r_ne, r_lt, r_ge, r_gt, r_le, r_eq0, r_ne0, r_lt0, r_ge0, r_gt0, r_le0, x_fld, x_int, x_ref, x_long, x_args, x_nar, xKd, xst1, xst2, xlg, Option.bind_some, Option.bind_none, Option.map_some, Option.map_none, List.getElem?_cons_zero, List.getElem?_cons_succ, List.set_cons_zero, List.set_cons_succ, List.length_cons, List.length_nil, List.length_map, List.length_range, List.length_set, decide_eq_true_eq, if_true, if_false, reduceIte, reduceCtorEq, Bool.not_true, Bool.not_false, Bool.false_eq_true, x_ix_nI, ax_get, ax_set, e_aald, s_aast, true_and, and_true, ite_true, ite_false, ↓bI_01, bI_eq0, bI_eq1, bool_or, tern_pure, and_pure, or_pure, bI_def, bne_t, ndf, decide_not, Bool.decide_eq_true, Bool.decide_and, Bool.decide_or, Nat.reduceEqDiff, Nat.reduceAdd, Nat.reduceMul, Nat.reduceSub, Nat.reduceLT, Nat.reduceLeDiff, or_false, false_or, or_true, true_or, and_false, false_and, Bool.or_eq_true, Bool.and_eq_true, Bool.or_false, Bool.or_true, Bool.true_or, Bool.false_or, Bool.and_true, Bool.and_false, Bool.true_and, Bool.false_and, decide_true, decide_false, not_true_eq_false, not_false_eq_true, m2']; rfl)
  have m3' : h3[106]? = some (.inl (10, _)) := m3
  obtain ⟨h4, s4, m4, F4⟩ := zput (i := 5) (v := 40) m3 (s := s_put 10 24 0 (e_al 0) (e_lit 40)) (by simp (disch := omega) only [x_out, s_seq, s_ite, s_ret, s_retZ, s_retV, s_iasg, s_aasg, s_lasg, s_inc, s_put, s_putop, s_ast, s_astop, s_exp, s_call, s_skip, s_brk, s_cont, s_oinit, e_lit, e_long, e_il, e_al, e_ll, e_bin, e_un, e_fld, e_ald, e_tern, e_call, e_alen, b_cmp, b_cmp0, b_lcmp, b_and, b_or, b_not, o_add, o_sub, o_mul, o_and, o_or, o_xor, o_shl, o_shr, o_neg, o_i2l, o_l2i, o_i2c, r_eq, r_ne, r_lt, r_ge, r_gt, r_le, r_eq0, r_ne0, r_lt0, r_ge0, r_gt0, r_le0, x_fld, x_int, x_ref, x_long, x_args, x_nar, xKd, xst1, xst2, xlg, Option.bind_some, Option.bind_none, Option.map_some, Option.map_none, List.getElem?_cons_zero, List.getElem?_cons_succ, List.set_cons_zero, List.set_cons_succ, List.length_cons, List.length_nil, List.length_map, List.length_range, List.length_set, decide_eq_true_eq, if_true, if_false, reduceIte, reduceCtorEq, Bool.not_true, Bool.not_false, Bool.false_eq_true, x_ix_nI, ax_get, ax_set, e_aald, s_aast, true_and, and_true, ite_true, ite_false, ↓bI_01, bI_eq0, bI_eq1, bool_or, tern_pure, and_pure, or_pure, bI_def, bne_t, ndf, decide_not, Bool.decide_eq_true, Bool.decide_and, Bool.decide_or, Nat.reduceEqDiff, Nat.reduceAdd, Nat.reduceMul, Nat.reduceSub, Nat.reduceLT, Nat.reduceLeDiff, or_false, false_or, or_true, true_or, and_false, false_and, Bool.or_eq_true, Bool.and_eq_true, Bool.or_false, Bool.or_true, Bool.true_or, Bool.false_or, Bool.and_true, Bool.and_false, Bool.true_and, Bool.false_and, decide_true, decide_false, not_true_eq_false, not_false_eq_true, m3']; rfl)
  have m4' : h4[106]? = some (.inl (10, _)) := m4
  obtain ⟨h5, s5, m5, F5⟩ := zput (i := 6) (v := 0) m4 (s := s_put 10 25 1 (e_al 0) (e_lit 0)) (by simp (disch := omega) only [x_out, s_seq, s_ite, s_ret, s_retZ, s_retV, s_iasg, s_aasg, s_lasg, s_inc, s_put, s_putop, s_ast, s_astop, s_exp, s_call, s_skip, s_brk, s_cont, s_oinit, e_lit, e_long, e_il, e_al, e_ll, e_bin, e_un, e_fld, e_ald, e_tern, e_call, e_alen, b_cmp, b_cmp0, b_lcmp, b_and, b_or, b_not, o_add, o_sub, o_mul, o_and, o_or, o_xor, o_shl, o_shr, o_neg, o_i2l, o_l2i, o_i2c, r_eq, r_ne, r_lt, r_ge, r_gt, r_le, r_eq0, r_ne0, r_lt0, r_ge0, r_gt0, r_le0, x_fld, x_int, x_ref, x_long, x_args, x_nar, xKd, xst1, xst2, xlg, Option.bind_some, Option.bind_none, Option.map_some, Option.map_none, List.getElem?_cons_zero, List.getElem?_cons_succ, List.set_cons_zero, List.set_cons_succ, List.length_cons, List.length_nil, List.length_map, List.length_range, List.length_set, decide_eq_true_eq, if_true, if_false, reduceIte, reduceCtorEq, Bool.not_true, Bool.not_false, Bool.false_eq_true, x_ix_nI, ax_get, ax_set, e_aald, s_aast, true_and, and_true, ite_true, ite_false, ↓bI_01, bI_eq0, bI_eq1, bool_or, tern_pure, and_pure, or_pure, bI_def, bne_t, ndf, decide_not, Bool.decide_eq_true, Bool.decide_and, Bool.decide_or, Nat.reduceEqDiff, Nat.reduceAdd, Nat.reduceMul, Nat.reduceSub, Nat.reduceLT, Nat.reduceLeDiff, or_false, false_or, or_true, true_or, and_false, false_and, Bool.or_eq_true, Bool.and_eq_true, Bool.or_false, Bool.or_true, Bool.true_or, Bool.false_or, Bool.and_true, Bool.and_false, Bool.true_and, Bool.false_and, decide_true, decide_false, not_true_eq_false, not_false_eq_true, m4', bq00]; rfl)
  have m5' : h5[106]? = some (.inl (10, _)) := m5
  obtain ⟨h6, s6, m6, F6⟩ := zput (i := 0) (v := 0) m5 (s := s_put 10 17 0 (e_al 0) (e_lit 0)) (by simp (disch := omega) only [x_out, s_seq, s_ite, s_ret, s_retZ, s_retV, s_iasg, s_aasg, s_lasg, s_inc, s_put, s_putop, s_ast, s_astop, s_exp, s_call, s_skip, s_brk, s_cont, s_oinit, e_lit, e_long, e_il, e_al, e_ll, e_bin, e_un, e_fld, e_ald, e_tern, e_call, e_alen, b_cmp, b_cmp0, b_lcmp, b_and, b_or, b_not, o_add, o_sub, o_mul, o_and, o_or, o_xor, o_shl, o_shr, o_neg, o_i2l, o_l2i, o_i2c, r_eq, r_ne, r_lt, r_ge, r_gt, r_le, r_eq0, r_ne0, r_lt0, r_ge0, r_gt0, r_le0, x_fld, x_int, x_ref, x_long, x_args, x_nar, xKd, xst1, xst2, xlg, Option.bind_some, Option.bind_none, Option.map_some, Option.map_none, List.getElem?_cons_zero, List.getElem?_cons_succ, List.set_cons_zero, List.set_cons_succ, List.length_cons, List.length_nil, List.length_map, List.length_range, List.length_set, decide_eq_true_eq, if_true, if_false, reduceIte, reduceCtorEq, Bool.not_true, Bool.not_false, Bool.false_eq_true, x_ix_nI, ax_get, ax_set, e_aald, s_aast, true_and, and_true, ite_true, ite_false, ↓bI_01, bI_eq0, bI_eq1, bool_or, tern_pure, and_pure, or_pure, bI_def, bne_t, ndf, decide_not, Bool.decide_eq_true, Bool.decide_and, Bool.decide_or, Nat.reduceEqDiff, Nat.reduceAdd, Nat.reduceMul, Nat.reduceSub, Nat.reduceLT, Nat.reduceLeDiff, or_false, false_or, or_true, true_or, and_false, false_and, Bool.or_eq_true, Bool.and_eq_true, Bool.or_false, Bool.or_true, Bool.true_or, Bool.false_or, Bool.and_true, Bool.and_false, Bool.true_and, Bool.false_and, decide_true, decide_false, not_true_eq_false, not_false_eq_true, m5']; rfl)
  obtain ⟨nm, hn⟩ := nI_all (z 1)
  have Fr : xFr (fun b => b = 106) h h6 := (((((F1.trans F2).trans F3).trans F4).trans F5).trans F6).mono fun b hb => by rcases hb with ((((hb | hb) | hb) | hb) | hb) | hb <;> exact hb
  have eo : zO q k P sn l.length (upd (upd (upd (upd (upd (upd z 2 5) 3 0) 4 0) 5 40) 6 0) 0 0) = pZ0 q k P sn l.length 0 nm (pClr J) false := by
    have e1 : (upd (upd (upd (upd (upd (upd z 2 5) 3 0) 4 0) 5 40) 6 0) 0 0) 1 = nI nm := hn
    unfold zO pZ0
    rw [e1]
    rfl
  rw [eo] at m6
  have R : RPa h6 q k P sn l 0 nm (pClr J) false := ⟨m6, ⟨f1, (Fr.2.2 116 (by omega)).trans w1, fun s hs => absurd (show s < 0 from hs) (by omega)⟩, ⟨f2, (Fr.2.2 117 (by omega)).trans w2, fun s hs => absurd (show s < 0 from hs) (by omega)⟩, t.same (Fr.2.2 115 (by omega))⟩
  obtain ⟨o, env', h', x1, x2, x3, x4, x5⟩ := fo_x kl ka 1000 0 (pClr J) false nm h6 none (by omega) (by omega) (pClr_PK J) R
  refine ⟨h', ?_, ((f6Z Fr).trans x5).mono fun b hb => hb.elim id id, x4, x3⟩
  refine xM_run (env := [some (.ref 106), none]) h0' rfl rfl (Nat.le_of_ble_eq_true rfl) rfl ?_ rfl
  unfold bd_X10_faultOf
  rw [s_seq_n s1, s_seq_n s2, s_seq_n s3, s_seq_n s4, s_seq_n s5, s_seq_n s6]
  unfold pfL
  cases hq : (pf l 1000 0 (pClr J) false).1 with
  | none =>
    rw [hq] at x2
    subst x2
    rw [s_seq_n x1]
    rfl
  | some kk =>
    rw [hq] at x2
    subst x2
    rw [s_seq_r x1]
    rfl
theorem fault_m (H : RAt h Y) (K : YOK c Y) (J : XP) : ∃ h', m_X10_fault [.ref 106] h = some (some (.int (oI (pf (yL Y) 1000 0 (pClr J) false).1)), h') ∧ RAt h' Y ∧ xFr rC h h' := by
  obtain ⟨h', e1, F, ⟨pl, nm, T, ot, R⟩, -⟩ := faultOf_r H K J
  have h0 := H.2.1
  obtain ⟨z, h0⟩ := h0
  have h0 : h[106]? = some (.inl (10, _)) := h0
  refine ⟨h', ?_, R.at H F, F.mono fun b hb => by unfold rZ at hb; unfold rC; omega⟩
  refine xM_run (env := [some (.ref 106)]) h0 rfl rfl (Nat.le_of_ble_eq_true rfl) rfl ?_ rfl
  have c1 := call0 (env := [some (.ref 106)]) rfl e1
  simp only [bd_X10_fault, s_ret, c1, Option.bind_some, Option.map_some, x_int, x_out]
  rfl
/-- the row of states while the plan is laid -/
def bgF (T : XP) (f : Nat → Int32) (i : Nat) : Nat → Int32 := fun j => if 10 ≤ j ∧ j < 10 + i then nI (wP T (j - 10)) else if 18 ≤ j ∧ j < 18 + i then -4 else if j < 58 then 0 else f j
theorem bgF_s (T : XP) (f : Nat → Int32) {i : Nat} (hi : i < 4) : upd (upd (bgF T f i) (10 + i) (nI (wP T i))) (18 + i) (-4) = bgF T f (i + 1) := by
  funext j
  unfold upd bgF
  by_cases y : j = 18 + i
  · subst y
    rw [if_pos rfl, if_neg (by omega), if_pos (by omega)]
  · rw [if_neg y]
    by_cases y2 : j = 10 + i
    · subst y2
      rw [if_pos rfl, if_pos (by omega)]
      congr 2
      omega
    · rw [if_neg y2]
      by_cases y3 : 10 ≤ j ∧ j < 10 + i
      · rw [if_pos y3, if_pos (by omega)]
      · rw [if_neg y3, if_neg (show ¬ (10 ≤ j ∧ j < 10 + (i + 1)) by omega)]
        by_cases y4 : 18 ≤ j ∧ j < 18 + i
        · rw [if_pos y4, if_pos (by omega)]
        · rw [if_neg y4, if_neg (show ¬ (18 ≤ j ∧ j < 18 + (i + 1)) by omega)]
theorem bgF_0 (T : XP) (f : Nat → Int32) : bgF T f 0 = fun j => if j < 58 then 0 else f j := by
  funext j
  unfold bgF
  rw [if_neg (by omega), if_neg (by omega)]
theorem bgF_Bk {T : XP} (O : POK T) (f : Nat → Int32) : Bk (bgF T f (pM T)) 0 T (sBegin T) := by
  have o5 := O.2.2.2.2.1
  have o6 := O.2.2.2.2.2.1
  refine ⟨?_, fun s hs => ?_, fun w hw => ?_, fun w hw => ?_, fun w hw => ?_, fun w hw s hs => ?_⟩
  · unfold bgF; rw [if_neg (by omega), if_neg (by omega), if_pos (by omega)]; rfl
  · unfold bgF; rw [if_neg (by omega), if_neg (by omega), if_pos (by omega)]; rfl
  · unfold bgF; rw [if_pos (by omega)]
    show nI (wP T (0 + 10 + w - 10)) = nI (wP T w)
    congr 2
    omega
  · unfold bgF; rw [if_neg (by omega), if_neg (by omega), if_pos (by omega)]; rfl
  · unfold bgF; rw [if_neg (by omega), if_pos (by omega)]; rfl
  · unfold bgF; rw [if_neg (by omega), if_neg (by omega), if_pos (by omega)]; rfl
end RK
