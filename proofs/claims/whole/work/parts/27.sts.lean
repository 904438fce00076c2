/-! the rows of states put by -/
def rarr (n : Nat) (f : Nat → Nat) : XC := .inr (.inr ((List.range n).map fun i => some (f i)))
theorem rx_row {h : XH} {a n : Nat} {f : Nat → Nat} (hh : h[a]? = some (rarr n f)) : x_rrow (.ref a) h = some (a, (List.range n).map fun i => some (f i)) := by
  simp [x_rrow, hh, rarr]
theorem rx_get {f : Nat → Nat} {i n : Nat} {d : Option Nat} (h : i < n) : ((List.range n).map fun i => some (f i)).getD i d = some (f i) := by
  simp [List.getD_eq_getElem?_getD, h]
def updN (f : Nat → Nat) (k v : Nat) : Nat → Nat := fun j => if j = k then v else f j
theorem rx_set {f : Nat → Nat} {i n v : Nat} : ((List.range n).map fun i => some (f i)).set i (some v) = (List.range n).map fun j => some (updN f i v j) := by
  apply List.ext_getElem?
  intro j
  by_cases hj : j < n
  · by_cases hij : i = j
    · subst hij
      simp [hj, updN]
    · have : ¬ j = i := fun q => hij q.symm
      simp [List.getElem?_set, hij, hj, updN, this]
  · simp [List.getElem?_set, hj]
theorem rx_def (n : Nat) (f : Nat → Nat) : (Sum.inr (Sum.inr ((List.range n).map fun i => some (f i))) : XC) = rarr n f := rfl
theorem rarr_ext {n : Nat} {f g : Nat → Nat} (h : ∀ i, i < n → f i = g i) : rarr n f = rarr n g := by
  unfold rarr
  congr 2
  apply List.map_congr_left
  intro i hi
  rw [h i (List.mem_range.mp hi)]
def QAt (h : XH) (y M : Nat) (ps : List XT) : Prop := ps.length ≤ M ∧ h[y]? = some (.inl (7, [.int (nI ps.length), .ref (y + 1)])) ∧ ∃ rs : Nat → Nat, h[y + 1]? = some (rarr M rs) ∧ (∀ i, i < M → ∃ j, j < M ∧ rs i = y + 2 + 6 * j) ∧ (∀ i j, i < M → j < M → rs i = rs j → i = j) ∧ (∀ i, i < M → ∃ S, SAt h (rs i) S) ∧ ∀ i S, ps[i]? = some S → SAt h (rs i) S
def qCells (y M : Nat) : Nat → Prop := fun b => y ≤ b ∧ b < y + 2 + 6 * M
theorem QAt.same {h h' : XH} {y M : Nat} {ps : List XT} (H : QAt h y M ps) (e : ∀ b, qCells y M b → h'[b]? = h[b]?) : QAt h' y M ps := by
  obtain ⟨h0, h1, rs, h2, h3, h4, h5, h6⟩ := H
  have blk : ∀ i, i < M → ∀ b, rs i ≤ b → b ≤ rs i + 5 → h'[b]? = h[b]? := by
    intro i hi b b1 b2
    obtain ⟨j, hj, e1⟩ := h3 i hi
    exact e b ⟨by omega, by omega⟩
  refine ⟨h0, (e _ ⟨by omega, by omega⟩).trans h1, rs, (e _ ⟨?_, ?_⟩).trans h2, h3, h4, fun i hi => ?_, fun i S hS => ?_⟩
  · omega
  · by_cases q : M = 0
    · subst q; omega
    · omega
  · obtain ⟨S, hS⟩ := h5 i hi
    exact ⟨S, hS.same (blk i hi)⟩
  · have := (List.getElem?_eq_some_iff.mp hS).1
    exact (h6 i S hS).same (blk i (by omega))
section QQ
variable {h : XH} {y M a c : Nat} {P : XP} {S : XT} {ps : List XT}
theorem isFull_x (H : QAt h y M ps) (hM : M < 2 ^ 20) : m_X7_isFull [.ref y] h = some (some (.int (bI (decide (M ≤ ps.length)))), h) := by
  obtain ⟨h0, h1, rs, h2, h3, h4, h5, h6⟩ := H
  have rl : x_len (.ref (y + 1)) h = some (nI M) := by simp [x_len, h2, rarr, nI]
  refine xM_run (env := [some (.ref y)]) h1 rfl rfl (Nat.le_of_ble_eq_true rfl) rfl ?_ rfl
  simp (disch := omega) only [bd_X7_isFull, x_out, s_seq, s_ite, s_ret, s_retZ, s_retV, s_iasg, s_aasg, s_lasg, s_inc, s_put, s_putop, s_ast, s_astop, s_exp, s_call, s_skip, s_brk, s_cont, s_oinit, e_lit, e_long, e_il, e_al, e_ll, e_bin, e_un, e_fld, e_ald, e_tern, e_call, e_alen, b_cmp, b_cmp0, b_lcmp, b_and, b_or, b_not, o_add, o_sub, o_mul, o_and, o_or, o_xor, o_shl, o_shr, o_neg, o_i2l, o_l2i, o_i2c, r_eq, r_ne, r_lt, r_ge, r_gt, r_le, r_eq0, r_ne0, r_lt0, r_ge0, r_gt0, r_le0, x_fld, x_int, x_ref, x_long, x_args, x_nar, xKd, xst1, xst2, xlg, Option.bind_some, Option.bind_none, Option.map_some, Option.map_none, List.getElem?_cons_zero, List.getElem?_cons_succ, List.set_cons_zero, List.set_cons_succ, List.length_cons, List.length_nil, List.length_map, List.length_range, List.length_set, decide_eq_true_eq, if_true, if_false, reduceIte, reduceCtorEq, Bool.not_true, Bool.not_false, Bool.false_eq_true, x_ix_nI, ax_get, ax_set, e_aald, s_aast, true_and, and_true, ite_true, ite_false, ↓bI_01, bI_eq0, bI_eq1, bool_or, tern_pure, and_pure, or_pure, bI_def, bne_t, ndf, decide_not, Bool.decide_eq_true, Bool.decide_and, Bool.decide_or, Nat.reduceEqDiff, Nat.reduceAdd, Nat.reduceMul, Nat.reduceSub, Nat.reduceLT, Nat.reduceLeDiff, or_false, false_or, or_true, true_or, and_false, false_and, Bool.or_eq_true, Bool.and_eq_true, Bool.or_false, Bool.or_true, Bool.true_or, Bool.false_or, Bool.and_true, Bool.and_false, Bool.true_and, Bool.false_and, decide_true, decide_false, not_true_eq_false, not_false_eq_true, h1, rl, nI_leI]
theorem popInto_x (H : QAt h y M ps) (hM : M < 2 ^ 20) (HS : SAt h a S) (ha : a + 5 < y) : (ps = [] → m_X7_popInto [.ref y, .ref a] h = some (some (.int 0), h)) ∧ ∀ (qs : List XT) (S' : XT), ps = qs ++ [S'] → ∃ h', m_X7_popInto [.ref y, .ref a] h = some (some (.int 1), h') ∧ SAt h' a S' ∧ QAt h' y M qs ∧ xFr (fun b => sCells a b ∨ b = y) h h' := by
  obtain ⟨h0, h1, rs, h2, h3, h4, h5, h6⟩ := id H
  refine ⟨fun hp => ?_, fun qs S' hp => ?_⟩
  · subst hp
    simp only [List.length_nil, nI_0] at h1
    refine xM_run (env := [some (.ref y), some (.ref a)]) h1 rfl rfl (Nat.le_of_ble_eq_true rfl) rfl ?_ rfl
    simp (disch := omega) only [bd_X7_popInto, x_out, s_seq, s_ite, s_ret, s_retZ, s_retV, s_iasg, s_aasg, s_lasg, s_inc, s_put, s_putop, s_ast, s_astop, s_exp, s_call, s_skip, s_brk, s_cont, s_oinit, e_lit, e_long, e_il, e_al, e_ll, e_bin, e_un, e_fld, e_ald, e_tern, e_call, e_alen, b_cmp, b_cmp0, b_lcmp, b_and, b_or, b_not, o_add, o_sub, o_mul, o_and, o_or, o_xor, o_shl, o_shr, o_neg, o_i2l, o_l2i, o_i2c, r_eq, r_ne, r_lt, r_ge, r_gt, r_le, r_eq0, r_ne0, r_lt0, r_ge0, r_gt0, r_le0, x_fld, x_int, x_ref, x_long, x_args, x_nar, xKd, xst1, xst2, xlg, Option.bind_some, Option.bind_none, Option.map_some, Option.map_none, List.getElem?_cons_zero, List.getElem?_cons_succ, List.set_cons_zero, List.set_cons_succ, List.length_cons, List.length_nil, List.length_map, List.length_range, List.length_set, decide_eq_true_eq, if_true, if_false, reduceIte, reduceCtorEq, Bool.not_true, Bool.not_false, Bool.false_eq_true, x_ix_nI, ax_get, ax_set, e_aald, s_aast, true_and, and_true, ite_true, ite_false, ↓bI_01, bI_eq0, bI_eq1, bool_or, tern_pure, and_pure, or_pure, bI_def, bne_t, ndf, decide_not, Bool.decide_eq_true, Bool.decide_and, Bool.decide_or, Nat.reduceEqDiff, Nat.reduceAdd, Nat.reduceMul, Nat.reduceSub, Nat.reduceLT, Nat.reduceLeDiff, or_false, false_or, or_true, true_or, and_false, false_and, Bool.or_eq_true, Bool.and_eq_true, Bool.or_false, Bool.or_true, Bool.true_or, Bool.false_or, Bool.and_true, Bool.and_false, Bool.true_and, Bool.false_and, decide_true, decide_false, not_true_eq_false, not_false_eq_true, h1]
    simp
  · subst hp
    simp only [List.length_append, List.length_cons, List.length_nil, Nat.zero_add] at h0 h1
    have hlast : (qs ++ [S'])[qs.length]? = some S' := by simp
    have HL := h6 _ _ hlast
    obtain ⟨j, hj, e1⟩ := h3 qs.length (by omega)
    have s1 : (s_putop 7 0 o_sub (e_al 0) (e_lit 1)) [some (.ref y), some (.ref a)] h = some (none, [some (.ref y), some (.ref a)], h.set y (.inl (7, [.int (nI qs.length), .ref (y + 1)]))) := by
      simp (disch := omega) only [s_putop, x_out, s_seq, s_ite, s_ret, s_retZ, s_retV, s_iasg, s_aasg, s_lasg, s_inc, s_put, s_putop, s_ast, s_astop, s_exp, s_call, s_skip, s_brk, s_cont, s_oinit, e_lit, e_long, e_il, e_al, e_ll, e_bin, e_un, e_fld, e_ald, e_tern, e_call, e_alen, b_cmp, b_cmp0, b_lcmp, b_and, b_or, b_not, o_add, o_sub, o_mul, o_and, o_or, o_xor, o_shl, o_shr, o_neg, o_i2l, o_l2i, o_i2c, r_eq, r_ne, r_lt, r_ge, r_gt, r_le, r_eq0, r_ne0, r_lt0, r_ge0, r_gt0, r_le0, x_fld, x_int, x_ref, x_long, x_args, x_nar, xKd, xst1, xst2, xlg, Option.bind_some, Option.bind_none, Option.map_some, Option.map_none, List.getElem?_cons_zero, List.getElem?_cons_succ, List.set_cons_zero, List.set_cons_succ, List.length_cons, List.length_nil, List.length_map, List.length_range, List.length_set, decide_eq_true_eq, if_true, if_false, reduceIte, reduceCtorEq, Bool.not_true, Bool.not_false, Bool.false_eq_true, x_ix_nI, ax_get, ax_set, e_aald, s_aast, true_and, and_true, ite_true, ite_false, ↓bI_01, bI_eq0, bI_eq1, bool_or, tern_pure, and_pure, or_pure, bI_def, bne_t, ndf, decide_not, Bool.decide_eq_true, Bool.decide_and, Bool.decide_or, Nat.reduceEqDiff, Nat.reduceAdd, Nat.reduceMul, Nat.reduceSub, Nat.reduceLT, Nat.reduceLeDiff, or_false, false_or, or_true, true_or, and_false, false_and, Bool.or_eq_true, Bool.and_eq_true, Bool.or_false, Bool.or_true, Bool.true_or, Bool.false_or, Bool.and_true, Bool.and_false, Bool.true_and, Bool.false_and, decide_true, decide_false, not_true_eq_false, not_false_eq_true, h1, nI_pred]
    have t1 := set_at (c' := .inl (7, [.int (nI qs.length), .ref (y + 1)])) h1
    have n1 : ∀ b, b ≠ y → (h.set y (.inl (7, [.int (nI qs.length), .ref (y + 1)])))[b]? = h[b]? := fun b hb => set_ne hb.symm
    have F1 := xFr.set (c' := .inl (7, [.int (nI qs.length), .ref (y + 1)])) h1 (by rfl)
    generalize h.set y (.inl (7, [.int (nI qs.length), .ref (y + 1)])) = g1 at s1 t1 n1 F1
    have HS1 := HS.same (h' := g1) (fun b b1 b2 => n1 b (by omega))
    have HL1 := HL.same (h' := g1) (fun b b1 b2 => n1 b (by omega))
    have rr := rx_row ((n1 (y + 1) (by omega)).trans h2)
    obtain ⟨g2, e2, K2, F2⟩ := copyS_x HS1 HL1 (Or.inl (by omega))
    have F := F1.trans F2
    refine ⟨g2, ?_, K2, ?_, F.mono (fun b hb => hb.elim Or.inr Or.inl)⟩
    · have hlt : ¬ (nI (qs.length + 1) < 1) := by
        rw [l1, nI_ltI (by omega) (by decide)]; omega
      refine xM_run (env := [some (.ref y), some (.ref a)]) h1 rfl rfl (Nat.le_of_ble_eq_true rfl) rfl ?_ rfl
      simp (disch := omega) only [bd_X7_popInto, x_out, s_seq, s_ite, s_ret, s_retZ, s_retV, s_iasg, s_aasg, s_lasg, s_inc, s_exp, s_call, s_skip, s_brk, s_cont, s_oinit, e_lit, e_long, e_il, e_al, e_ll, e_bin, e_un, e_fld, e_ald, e_tern, e_call, e_alen, b_cmp, b_cmp0, b_lcmp, b_and, b_or, b_not, o_add, o_sub, o_mul, o_and, o_or, o_xor, o_shl, o_shr, o_neg, o_i2l, o_l2i, o_i2c, r_eq, r_ne, r_lt, r_ge, r_gt, r_le, r_eq0, r_ne0, r_lt0, r_ge0, r_gt0, r_le0, x_fld, x_int, x_ref, x_long, x_args, x_nar, xKd, xst1, xst2, xlg, Option.bind_some, Option.bind_none, Option.map_some, Option.map_none, List.getElem?_cons_zero, List.getElem?_cons_succ, List.set_cons_zero, List.set_cons_succ, List.length_cons, List.length_nil, List.length_map, List.length_range, List.length_set, decide_eq_true_eq, if_true, if_false, reduceIte, reduceCtorEq, Bool.not_true, Bool.not_false, Bool.false_eq_true, x_ix_nI, ax_get, ax_set, e_aald, true_and, and_true, ite_true, ite_false, ↓bI_01, bI_eq0, bI_eq1, bool_or, tern_pure, and_pure, or_pure, bI_def, bne_t, ndf, decide_not, Bool.decide_eq_true, Bool.decide_and, Bool.decide_or, Nat.reduceEqDiff, Nat.reduceAdd, Nat.reduceMul, Nat.reduceSub, Nat.reduceLT, Nat.reduceLeDiff, or_false, false_or, or_true, true_or, and_false, false_and, Bool.or_eq_true, Bool.and_eq_true, Bool.or_false, Bool.or_true, Bool.true_or, Bool.false_or, Bool.and_true, Bool.and_false, Bool.true_and, Bool.false_and, decide_true, decide_false, not_true_eq_false, not_false_eq_true, s1, h1, hlt, t1, rr, rx_get, e2]
    · have keep : ∀ b, b ≠ y → ¬ sCells a b → g2[b]? = h[b]? := fun b b1 b2 => (F2.2.2 b b2).trans (n1 b b1)
      refine ⟨by omega, (F2.2.2 y (fun z => by have := z.2; omega)).trans t1, rs, (keep _ (by omega) (fun z => by have := z.2; omega)).trans h2, h3, h4, fun i hi => ?_, fun i S hS => ?_⟩
      · obtain ⟨S, hS⟩ := h5 i hi
        obtain ⟨j, hj, e1⟩ := h3 i hi
        exact ⟨S, hS.same (fun b b1 b2 => keep b (by omega) (fun z => by have := z.2; omega))⟩
      · have hi := (List.getElem?_eq_some_iff.mp hS).1
        obtain ⟨j, hj, e1⟩ := h3 i (by omega)
        exact (h6 i S (by rw [List.getElem?_append_left hi]; exact hS)).same (fun b b1 b2 => keep b (by omega) (fun z => by have := z.2; omega))
end QQ
