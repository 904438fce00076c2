/-! the reference's row of states: what is written into it -/
theorem Bk.same {f g : Nat → Int32} {r : Nat} {P : XP} {S : XT} (O : POK P) (B : Bk f r P S) (e : ∀ i, i < 58 → g (r + i) = f (r + i)) : Bk g r P S := by
  have o5 := O.2.2.2.2.1
  have o6 := O.2.2.2.2.2.1
  obtain ⟨b0, b1, b2, b3, b4, b5⟩ := B
  refine ⟨(e 0 (by omega)).trans b0, fun s hs => ?_, fun w hw => ?_, fun w hw => ?_, fun w hw => ?_, fun w hw s hs => ?_⟩
  · rw [← b1 s hs, Nat.add_assoc]; exact e _ (by omega)
  · rw [← b2 w hw, Nat.add_assoc]; exact e _ (by omega)
  · rw [← b3 w hw, Nat.add_assoc]; exact e _ (by omega)
  · rw [← b4 w hw, Nat.add_assoc]; exact e _ (by omega)
  · rw [← b5 w hw s hs, Nat.add_assoc, Nat.add_assoc]; exact e _ (by omega)
/-- the block moved -/
theorem Bk.move {f g : Nat → Int32} {r t : Nat} {P : XP} {S : XT} (O : POK P) (B : Bk f r P S) (e : ∀ i, i < 58 → g (t + i) = f (r + i)) : Bk g t P S := by
  have o5 := O.2.2.2.2.1
  have o6 := O.2.2.2.2.2.1
  obtain ⟨b0, b1, b2, b3, b4, b5⟩ := B
  refine ⟨(e 0 (by omega)).trans b0, fun s hs => ?_, fun w hw => ?_, fun w hw => ?_, fun w hw => ?_, fun w hw s hs => ?_⟩
  · rw [← b1 s hs, Nat.add_assoc, Nat.add_assoc]; exact e _ (by omega)
  · rw [← b2 w hw, Nat.add_assoc, Nat.add_assoc]; exact e _ (by omega)
  · rw [← b3 w hw, Nat.add_assoc, Nat.add_assoc]; exact e _ (by omega)
  · rw [← b4 w hw, Nat.add_assoc, Nat.add_assoc]; exact e _ (by omega)
  · rw [← b5 w hw s hs, Nat.add_assoc, Nat.add_assoc, Nat.add_assoc, Nat.add_assoc]; exact e _ (by omega)
theorem Bk.val {f : Nat → Int32} {r : Nat} {P : XP} {S S' : XT} (B : Bk f r P S) (e0 : tT S = tT S') (e1 : ∀ s, s < pN P → tW S s = tW S' s) (e2 : ∀ w, w < pM P → tP S w = tP S' w) (e3 : ∀ w, w < pM P → tC S w = tC S' w) (e4 : ∀ w, w < pM P → tL S w = tL S' w) (e5 : ∀ w, w < pM P → ∀ s, s < pN P → tA S (9 * w + s) = tA S' (9 * w + s)) : Bk f r P S' := by
  obtain ⟨b0, b1, b2, b3, b4, b5⟩ := B
  exact ⟨by rw [b0, e0], fun s hs => by rw [b1 s hs, e1 s hs], fun w hw => by rw [b2 w hw, e2 w hw], fun w hw => by rw [b3 w hw, e3 w hw], fun w hw => by rw [b4 w hw, e4 w hw], fun w hw s hs => by rw [b5 w hw s hs, e5 w hw s hs]⟩
section BK
variable {f : Nat → Int32} {r : Nat} {P : XP} {S : XT}
theorem Bk.setT (O : POK P) (B : Bk f r P S) (x : Int32) : Bk (upd f r x) r P (x, S.2) := by
  obtain ⟨b0, b1, b2, b3, b4, b5⟩ := B
  refine ⟨by simp [upd, tT], fun s hs => ?_, fun w hw => ?_, fun w hw => ?_, fun w hw => ?_, fun w hw s hs => ?_⟩ <;> unfold upd <;> rw [if_neg (by omega)]
  · exact b1 s hs
  · exact b2 w hw
  · exact b3 w hw
  · exact b4 w hw
  · exact b5 w hw s hs
theorem Bk.setW (O : POK P) (B : Bk f r P S) {s : Nat} (hs : s < pN P) (v : Nat) : Bk (upd f (r + 1 + s) (nI v)) r P (tT S, fun i => if i = s then v else tW S i, tP S, tC S, tL S, tA S) := by
  have o5 := O.2.2.2.2.1
  obtain ⟨b0, b1, b2, b3, b4, b5⟩ := B
  refine ⟨?_, fun j hj => ?_, fun w hw => ?_, fun w hw => ?_, fun w hw => ?_, fun w hw j hj => ?_⟩ <;> unfold upd
  · rw [if_neg (by omega)]; exact b0
  · show _ = nI (if j = s then v else tW S j)
    by_cases q : j = s
    · subst q; simp
    · rw [if_neg (by omega), if_neg q]; exact b1 j hj
  · rw [if_neg (by omega)]; exact b2 w hw
  · rw [if_neg (by omega)]; exact b3 w hw
  · rw [if_neg (by omega)]; exact b4 w hw
  · rw [if_neg (by omega)]; exact b5 w hw j hj
theorem Bk.setP (O : POK P) (B : Bk f r P S) {k : Nat} (hk : k < pM P) (v : Nat) : Bk (upd f (r + 10 + k) (nI v)) r P (tT S, tW S, fun i => if i = k then v else tP S i, tC S, tL S, tA S) := by
  have o5 := O.2.2.2.2.1
  have o6 := O.2.2.2.2.2.1
  obtain ⟨b0, b1, b2, b3, b4, b5⟩ := B
  refine ⟨?_, fun j hj => ?_, fun w hw => ?_, fun w hw => ?_, fun w hw => ?_, fun w hw j hj => ?_⟩ <;> unfold upd
  · rw [if_neg (by omega)]; exact b0
  · rw [if_neg (by omega)]; exact b1 j hj
  · show _ = nI (if w = k then v else tP S w)
    by_cases q : w = k
    · subst q; simp
    · rw [if_neg (by omega), if_neg q]; exact b2 w hw
  · rw [if_neg (by omega)]; exact b3 w hw
  · rw [if_neg (by omega)]; exact b4 w hw
  · rw [if_neg (by omega)]; exact b5 w hw j hj
theorem Bk.setC (O : POK P) (B : Bk f r P S) {k : Nat} (hk : k < pM P) (v : Int32) : Bk (upd f (r + 14 + k) v) r P (tT S, tW S, tP S, fun i => if i = k then v else tC S i, tL S, tA S) := by
  have o5 := O.2.2.2.2.1
  have o6 := O.2.2.2.2.2.1
  obtain ⟨b0, b1, b2, b3, b4, b5⟩ := B
  refine ⟨?_, fun j hj => ?_, fun w hw => ?_, fun w hw => ?_, fun w hw => ?_, fun w hw j hj => ?_⟩ <;> unfold upd
  · rw [if_neg (by omega)]; exact b0
  · rw [if_neg (by omega)]; exact b1 j hj
  · rw [if_neg (by omega)]; exact b2 w hw
  · show _ = (if w = k then v else tC S w)
    by_cases q : w = k
    · subst q; simp
    · rw [if_neg (by omega), if_neg q]; exact b3 w hw
  · rw [if_neg (by omega)]; exact b4 w hw
  · rw [if_neg (by omega)]; exact b5 w hw j hj
theorem Bk.setL (O : POK P) (B : Bk f r P S) {k : Nat} (hk : k < pM P) (v : Int32) : Bk (upd f (r + 18 + k) v) r P (tT S, tW S, tP S, tC S, fun i => if i = k then v else tL S i, tA S) := by
  have o5 := O.2.2.2.2.1
  have o6 := O.2.2.2.2.2.1
  obtain ⟨b0, b1, b2, b3, b4, b5⟩ := B
  refine ⟨?_, fun j hj => ?_, fun w hw => ?_, fun w hw => ?_, fun w hw => ?_, fun w hw j hj => ?_⟩ <;> unfold upd
  · rw [if_neg (by omega)]; exact b0
  · rw [if_neg (by omega)]; exact b1 j hj
  · rw [if_neg (by omega)]; exact b2 w hw
  · rw [if_neg (by omega)]; exact b3 w hw
  · show _ = (if w = k then v else tL S w)
    by_cases q : w = k
    · subst q; simp
    · rw [if_neg (by omega), if_neg q]; exact b4 w hw
  · rw [if_neg (by omega)]; exact b5 w hw j hj
theorem Bk.setA (O : POK P) (B : Bk f r P S) {k s : Nat} (hk : k < pM P) (hs : s < pN P) (v : Int) : Bk (upd f (r + 22 + 9 * k + s) (Int32.ofInt v)) r P (tT S, tW S, tP S, tC S, tL S, fun i => if i = 9 * k + s then v else tA S i) := by
  have o5 := O.2.2.2.2.1
  have o6 := O.2.2.2.2.2.1
  obtain ⟨b0, b1, b2, b3, b4, b5⟩ := B
  refine ⟨?_, fun j hj => ?_, fun w hw => ?_, fun w hw => ?_, fun w hw => ?_, fun w hw j hj => ?_⟩ <;> unfold upd
  · rw [if_neg (by omega)]; exact b0
  · rw [if_neg (by omega)]; exact b1 j hj
  · rw [if_neg (by omega)]; exact b2 w hw
  · rw [if_neg (by omega)]; exact b3 w hw
  · rw [if_neg (by omega)]; exact b4 w hw
  · show _ = Int32.ofInt (if 9 * w + j = 9 * k + s then v else tA S (9 * w + j))
    by_cases q : 9 * w + j = 9 * k + s
    · rw [if_pos q, if_pos (by omega)]
    · rw [if_neg q, if_neg (by omega)]; exact b5 w hw j hj
end BK
section CP
variable {h : XH} {P : XP} {S : XT} {f : Nat → Int32} {r c : Nat}
theorem RV.put (V : RV h P f) (g : Nat → Int32) : RV (h.set 107 (arr 696 g)) P g ∧ xFr (fun b => b = 107) h (h.set 107 (arr 696 g)) := by
  obtain ⟨⟨q, k, sn, tx, z, h0⟩, hw, p⟩ := V
  have F := xFr.set hw (c' := arr 696 g) (by simp [arr, xSz])
  exact ⟨⟨⟨q, k, sn, tx, z, (F.2.2 106 (by omega)).trans h0⟩, set_at hw, p.same fun b b1 b2 => F.2.2 b (by omega)⟩, F⟩
def cpF (f : Nat → Int32) (a b k : Nat) : Nat → Int32 := fun i => if b ≤ i ∧ i < b + k then f (a + (i - b)) else f i
theorem copy_r (V : RV h P f) {a b : Nat} (ha : a + 58 ≤ 696) (hb : b + 58 ≤ 696) (hab : a + 58 ≤ b ∨ b + 58 ≤ a) : ∃ h', m_X10_copy [.ref 106, .int (nI a), .int (nI b)] h = some (none, h') ∧ RV h' P (cpF f a b 58) ∧ xFr (fun b => b = 107) h h' := by
  obtain ⟨env', h', e1, rfl, e2, e3⟩ := s_loop_J (c := lc_X10_copy_1) (a := la_X10_copy_1) (u := lu_X10_copy_1) (h := h) (env := [some (.ref 106), some (.int (nI a)), some (.int (nI b)), some (.int (nI 0))]) (fun i env k => env = [some (.ref 106), some (.int (nI a)), some (.int (nI b)), some (.int (nI i))] ∧ RV k P (cpF f a b i) ∧ xFr (fun b => b = 107) h k) 58 1000 (by omega) ⟨rfl, by
      have : cpF f a b 0 = f := by funext i; unfold cpF; rw [if_neg (by omega)]
      rw [this]; exact V, xFr.rf _ _⟩
    (fun i env k hi hJ => by
      obtain ⟨rfl, VK, Fr⟩ := hJ
      obtain ⟨⟨q, kk, sn, tx, z, h0⟩, hw, -⟩ := id VK
      have h0 : k[106]? = some (.inl (10, _)) := h0
      obtain ⟨xf0, xf1, xf2, xf3, xf4, xf5, xf6, xf7, xf8, xf9, xf10, xf11, xf12, xf13, xf14, xf15, xf16, xf17, xf18, xf19, xf20, xf21, xf22, xf23, xf24, xf25, xf26, xf27⟩ := rfs h0
      have rw := ax_row hw
      obtain ⟨V', F'⟩ := VK.put (upd (cpF f a b i) (b + i) (cpF f a b i (a + i)))
      have eq : upd (cpF f a b i) (b + i) (cpF f a b i (a + i)) = cpF f a b (i + 1) := by
        funext j
        unfold upd cpF
        by_cases y : j = b + i
        · subst y
          rw [if_pos rfl, if_neg (by omega), if_pos (by omega)]
          congr 1
          omega
        · rw [if_neg y]
          by_cases y2 : b ≤ j ∧ j < b + i
          · rw [if_pos y2, if_pos (by omega)]
          · rw [if_neg y2, if_neg (by omega)]
      have hl1 : b + i < 696 := by omega
      have hl2 : a + i < 696 := by omega
      have s1 : la_X10_copy_1 [some (.ref 106), some (.int (nI a)), some (.int (nI b)), some (.int (nI i))] k = some (none, [some (.ref 106), some (.int (nI a)), some (.int (nI b)), some (.int (nI i))], k.set 107 (arr 696 (upd (cpF f a b i) (b + i) (cpF f a b i (a + i))))) := by
        simp (disch := omega) only [la_X10_copy_1, x_out, s_seq, s_ite, s_ret, s_retZ, s_retV, s_iasg, s_aasg, s_lasg, s_inc, s_put, s_putop, s_ast, s_astop, s_exp, s_call, s_skip, s_brk, s_cont, s_oinit, e_lit, e_long, e_il, e_al, e_ll, e_bin, e_un, e_fld, e_ald, e_tern, e_call, e_alen, b_cmp, b_cmp0, b_lcmp, b_and, b_or, b_not, o_add, o_sub, o_mul, o_and, o_or, o_xor, o_shl, o_shr, o_neg, o_i2l, o_l2i, o_i2c, r_eq, r_ne, r_lt, r_ge, r_gt, r_le, r_eq0, r_ne0, r_lt0, r_ge0, r_gt0, r_le0, x_int, x_ref, x_long, x_args, x_nar, xKd, xst1, xst2, xlg, Option.bind_some, Option.bind_none, Option.map_some, Option.map_none, List.getElem?_cons_zero, List.getElem?_cons_succ, List.set_cons_zero, List.set_cons_succ, List.length_cons, List.length_nil, List.length_map, List.length_range, List.length_set, decide_eq_true_eq, if_true, if_false, reduceIte, reduceCtorEq, Bool.not_true, Bool.not_false, Bool.false_eq_true, x_ix_nI, ax_get, ax_set, e_aald, s_aast, true_and, and_true, ite_true, ite_false, ↓bI_01, bI_eq0, bI_eq1, bool_or, tern_pure, and_pure, or_pure, bI_def, bne_t, ndf, decide_not, Bool.decide_eq_true, Bool.decide_and, Bool.decide_or, Nat.reduceEqDiff, Nat.reduceAdd, Nat.reduceMul, Nat.reduceSub, Nat.reduceLT, Nat.reduceLeDiff, or_false, false_or, or_true, true_or, and_false, false_and, Bool.or_eq_true, Bool.and_eq_true, Bool.or_false, Bool.or_true, Bool.true_or, Bool.false_or, Bool.and_true, Bool.and_false, Bool.true_and, Bool.false_and, decide_true, decide_false, not_true_eq_false, not_false_eq_true, xf0, xf1, xf2, xf3, xf4, xf5, xf6, xf7, xf8, xf9, xf10, xf11, xf12, xf13, xf14, xf15, xf16, xf17, xf18, xf19, xf20, xf21, xf22, xf23, xf24, xf25, xf26, xf27, nI_add, rw, hl1, hl2, ax_def]
      rw [eq] at V' F' s1
      refine ⟨_, _, s_step_on ?_ s1 (?_ : _ = some (none, [some (.ref 106), some (.int (nI a)), some (.int (nI b)), some (.int (nI (i + 1)))], _)), rfl, V', (Fr.trans F').mono fun b hb => hb.elim id id⟩
      · simp (disch := omega) only [lc_X10_copy_1, x_out, s_seq, s_ite, s_ret, s_retZ, s_retV, s_iasg, s_aasg, s_lasg, s_inc, s_put, s_putop, s_ast, s_astop, s_exp, s_call, s_skip, s_brk, s_cont, s_oinit, e_lit, e_long, e_il, e_al, e_ll, e_bin, e_un, e_fld, e_ald, e_tern, e_call, e_alen, b_cmp, b_cmp0, b_lcmp, b_and, b_or, b_not, o_add, o_sub, o_mul, o_and, o_or, o_xor, o_shl, o_shr, o_neg, o_i2l, o_l2i, o_i2c, r_eq, r_ne, r_lt, r_ge, r_gt, r_le, r_eq0, r_ne0, r_lt0, r_ge0, r_gt0, r_le0, x_int, x_ref, x_long, x_args, x_nar, xKd, xst1, xst2, xlg, Option.bind_some, Option.bind_none, Option.map_some, Option.map_none, List.getElem?_cons_zero, List.getElem?_cons_succ, List.set_cons_zero, List.set_cons_succ, List.length_cons, List.length_nil, List.length_map, List.length_range, List.length_set, decide_eq_true_eq, if_true, if_false, reduceIte, reduceCtorEq, Bool.not_true, Bool.not_false, Bool.false_eq_true, x_ix_nI, ax_get, ax_set, e_aald, s_aast, true_and, and_true, ite_true, ite_false, ↓bI_01, bI_eq0, bI_eq1, bool_or, tern_pure, and_pure, or_pure, bI_def, bne_t, ndf, decide_not, Bool.decide_eq_true, Bool.decide_and, Bool.decide_or, Nat.reduceEqDiff, Nat.reduceAdd, Nat.reduceMul, Nat.reduceSub, Nat.reduceLT, Nat.reduceLeDiff, or_false, false_or, or_true, true_or, and_false, false_and, Bool.or_eq_true, Bool.and_eq_true, Bool.or_false, Bool.or_true, Bool.true_or, Bool.false_or, Bool.and_true, Bool.and_false, Bool.true_and, Bool.false_and, decide_true, decide_false, not_true_eq_false, not_false_eq_true, xf0, xf1, xf2, xf3, xf4, xf5, xf6, xf7, xf8, xf9, xf10, xf11, xf12, xf13, xf14, xf15, xf16, xf17, xf18, xf19, xf20, xf21, xf22, xf23, xf24, xf25, xf26, xf27, l58, nI_ltI, hi]
      · simp only [lu_X10_copy_1, x_out, s_seq, s_ite, s_ret, s_retZ, s_retV, s_iasg, s_aasg, s_lasg, s_inc, s_put, s_putop, s_ast, s_astop, s_exp, s_call, s_skip, s_brk, s_cont, s_oinit, e_lit, e_long, e_il, e_al, e_ll, e_bin, e_un, e_fld, e_ald, e_tern, e_call, e_alen, b_cmp, b_cmp0, b_lcmp, b_and, b_or, b_not, o_add, o_sub, o_mul, o_and, o_or, o_xor, o_shl, o_shr, o_neg, o_i2l, o_l2i, o_i2c, r_eq, r_ne, r_lt, r_ge, r_gt, r_le, r_eq0, r_ne0, r_lt0, r_ge0, r_gt0, r_le0, x_int, x_ref, x_long, x_args, x_nar, xKd, xst1, xst2, xlg, Option.bind_some, Option.bind_none, Option.map_some, Option.map_none, List.getElem?_cons_zero, List.getElem?_cons_succ, List.set_cons_zero, List.set_cons_succ, List.length_cons, List.length_nil, List.length_map, List.length_range, List.length_set, decide_eq_true_eq, if_true, if_false, reduceIte, reduceCtorEq, Bool.not_true, Bool.not_false, Bool.false_eq_true, x_ix_nI, ax_get, ax_set, e_aald, s_aast, true_and, and_true, ite_true, ite_false, ↓bI_01, bI_eq0, bI_eq1, bool_or, tern_pure, and_pure, or_pure, bI_def, bne_t, ndf, decide_not, Bool.decide_eq_true, Bool.decide_and, Bool.decide_or, Nat.reduceEqDiff, Nat.reduceAdd, Nat.reduceMul, Nat.reduceSub, Nat.reduceLT, Nat.reduceLeDiff, or_false, false_or, or_true, true_or, and_false, false_and, Bool.or_eq_true, Bool.and_eq_true, Bool.or_false, Bool.or_true, Bool.true_or, Bool.false_or, Bool.and_true, Bool.and_false, Bool.true_and, Bool.false_and, decide_true, decide_false, not_true_eq_false, not_false_eq_true, xf0, xf1, xf2, xf3, xf4, xf5, xf6, xf7, xf8, xf9, xf10, xf11, xf12, xf13, xf14, xf15, xf16, xf17, xf18, xf19, xf20, xf21, xf22, xf23, xf24, xf25, xf26, xf27, nI_1])
    (fun env k hJ => by
      obtain ⟨rfl, -⟩ := hJ
      simp (disch := omega) only [lc_X10_copy_1, la_X10_copy_1, lu_X10_copy_1, s_step, x_out, s_seq, s_ite, s_ret, s_retZ, s_retV, s_iasg, s_aasg, s_lasg, s_inc, s_put, s_putop, s_ast, s_astop, s_exp, s_call, s_skip, s_brk, s_cont, s_oinit, e_lit, e_long, e_il, e_al, e_ll, e_bin, e_un, e_fld, e_ald, e_tern, e_call, e_alen, b_cmp, b_cmp0, b_lcmp, b_and, b_or, b_not, o_add, o_sub, o_mul, o_and, o_or, o_xor, o_shl, o_shr, o_neg, o_i2l, o_l2i, o_i2c, r_eq, r_ne, r_lt, r_ge, r_gt, r_le, r_eq0, r_ne0, r_lt0, r_ge0, r_gt0, r_le0, x_fld, x_int, x_ref, x_long, x_args, x_nar, xKd, xst1, xst2, xlg, Option.bind_some, Option.bind_none, Option.map_some, Option.map_none, List.getElem?_cons_zero, List.getElem?_cons_succ, List.set_cons_zero, List.set_cons_succ, List.length_cons, List.length_nil, List.length_map, List.length_range, List.length_set, decide_eq_true_eq, if_true, if_false, reduceIte, reduceCtorEq, Bool.not_true, Bool.not_false, Bool.false_eq_true, x_ix_nI, ax_get, ax_set, e_aald, s_aast, true_and, and_true, ite_true, ite_false, ↓bI_01, bI_eq0, bI_eq1, bool_or, tern_pure, and_pure, or_pure, bI_def, bne_t, ndf, decide_not, Bool.decide_eq_true, Bool.decide_and, Bool.decide_or, Nat.reduceEqDiff, Nat.reduceAdd, Nat.reduceMul, Nat.reduceSub, Nat.reduceLT, Nat.reduceLeDiff, or_false, false_or, or_true, true_or, and_false, false_and, Bool.or_eq_true, Bool.and_eq_true, Bool.or_false, Bool.or_true, Bool.true_or, Bool.false_or, Bool.and_true, Bool.and_false, Bool.true_and, Bool.false_and, decide_true, decide_false, not_true_eq_false, not_false_eq_true, l58, nI_ltI, Nat.lt_irrefl])
  obtain ⟨⟨q, kk, sn, tx, z, h0⟩, -⟩ := id V
  have h0 : h[106]? = some (.inl (10, _)) := h0
  refine ⟨h', ?_, e2, e3⟩
  simp only [nI_0] at e1
  refine xM_run (env := [some (.ref 106), some (.int (nI a)), some (.int (nI b)), none]) h0 rfl rfl (Nat.le_of_ble_eq_true rfl) rfl ?_ rfl
  simp (disch := omega) only [bd_X10_copy, x_out, s_seq, s_ite, s_ret, s_retZ, s_retV, s_iasg, s_aasg, s_lasg, s_inc, s_put, s_putop, s_ast, s_astop, s_exp, s_call, s_skip, s_brk, s_cont, s_oinit, e_lit, e_long, e_il, e_al, e_ll, e_bin, e_un, e_fld, e_ald, e_tern, e_call, e_alen, b_cmp, b_cmp0, b_lcmp, b_and, b_or, b_not, o_add, o_sub, o_mul, o_and, o_or, o_xor, o_shl, o_shr, o_neg, o_i2l, o_l2i, o_i2c, r_eq, r_ne, r_lt, r_ge, r_gt, r_le, r_eq0, r_ne0, r_lt0, r_ge0, r_gt0, r_le0, x_fld, x_int, x_ref, x_long, x_args, x_nar, xKd, xst1, xst2, xlg, Option.bind_some, Option.bind_none, Option.map_some, Option.map_none, List.getElem?_cons_zero, List.getElem?_cons_succ, List.set_cons_zero, List.set_cons_succ, List.length_cons, List.length_nil, List.length_map, List.length_range, List.length_set, decide_eq_true_eq, if_true, if_false, reduceIte, reduceCtorEq, Bool.not_true, Bool.not_false, Bool.false_eq_true, x_ix_nI, ax_get, ax_set, e_aald, s_aast, true_and, and_true, ite_true, ite_false, ↓bI_01, bI_eq0, bI_eq1, bool_or, tern_pure, and_pure, or_pure, bI_def, bne_t, ndf, decide_not, Bool.decide_eq_true, Bool.decide_and, Bool.decide_or, Nat.reduceEqDiff, Nat.reduceAdd, Nat.reduceMul, Nat.reduceSub, Nat.reduceLT, Nat.reduceLeDiff, or_false, false_or, or_true, true_or, and_false, false_and, Bool.or_eq_true, Bool.and_eq_true, Bool.or_false, Bool.or_true, Bool.true_or, Bool.false_or, Bool.and_true, Bool.and_false, Bool.true_and, Bool.false_and, decide_true, decide_false, not_true_eq_false, not_false_eq_true, e1]
/-- changed in the block alone -/
def bF (r : Nat) (f g : Nat → Int32) : Prop := ∀ i, i < r ∨ r + 58 ≤ i → g i = f i
theorem bF.rf (r : Nat) (f : Nat → Int32) : bF r f f := fun _ _ => rfl
theorem bF.put1 {r : Nat} {f g : Nat → Int32} (H : bF r f g) {k : Nat} (h1 : r ≤ k) (h2 : k < r + 58) (v : Int32) : bF r f (upd g k v) := fun i hi => by
  unfold upd
  rw [if_neg (by omega)]
  exact H i hi
theorem wornMore_r (V : RV h P f) (O : POK P) (hr : r ≤ 638) (B : Bk f r P S) {s v : Nat} (t1 : tW S s ≤ 999) (hs : s < pN P) (hv : v < 2 ^ 20) : ∃ h', m_X10_wornMore [.ref 106, .int (nI r), .int (nI s), .int (nI v)] h = some (none, h') ∧ RV h' P (upd f (r + 1 + s) (nI (min (tW S s + v) 999))) ∧ Bk (upd f (r + 1 + s) (nI (min (tW S s + v) 999))) r P (sWear S s v) ∧ xFr (fun b => b = 107) h h' := by
  obtain ⟨⟨q, k, sn, tx, z, h0⟩, hw, -⟩ := id V
  have h0 : h[106]? = some (.inl (10, _)) := h0
  obtain ⟨xf0, xf1, xf2, xf3, xf4, xf5, xf6, xf7, xf8, xf9, xf10, xf11, xf12, xf13, xf14, xf15, xf16, xf17, xf18, xf19, xf20, xf21, xf22, xf23, xf24, xf25, xf26, xf27⟩ := rfs h0
  have o5 := O.2.2.2.2.1
  have rw := ax_row hw
  have b1 := B.2.1 s hs
  have hlt : r + 1 + s < 696 := by omega
  obtain ⟨V', F'⟩ := V.put (upd f (r + 1 + s) (nI (min (tW S s + v) 999)))
  refine ⟨_, ?_, V', (B.setW O hs (min (tW S s + v) 999)).val rfl (fun _ _ => rfl) (fun _ _ => rfl) (fun _ _ => rfl) (fun _ _ => rfl) (fun _ _ _ _ => rfl), F'⟩
  refine xM_run (env := [some (.ref 106), some (.int (nI r)), some (.int (nI s)), some (.int (nI v)), none]) h0 rfl rfl (Nat.le_of_ble_eq_true rfl) rfl ?_ rfl
  by_cases q2 : 999 < tW S s + v
  · have m : min (tW S s + v) 999 = 999 := Nat.min_eq_right (by omega)
    simp (disch := omega) only [bd_X10_wornMore, x_out, s_seq, s_ite, s_ret, s_retZ, s_retV, s_iasg, s_aasg, s_lasg, s_inc, s_put, s_putop, s_ast, s_astop, s_exp, s_call, s_skip, s_brk, s_cont, s_oinit, e_lit, e_long, e_il, e_al, e_ll, e_bin, e_un, e_fld, e_ald, e_tern, e_call, e_alen, b_cmp, b_cmp0, b_lcmp, b_and, b_or, b_not, o_add, o_sub, o_mul, o_and, o_or, o_xor, o_shl, o_shr, o_neg, o_i2l, o_l2i, o_i2c, r_eq, r_ne, r_lt, r_ge, r_gt, r_le, r_eq0, r_ne0, r_lt0, r_ge0, r_gt0, r_le0, x_int, x_ref, x_long, x_args, x_nar, xKd, xst1, xst2, xlg, Option.bind_some, Option.bind_none, Option.map_some, Option.map_none, List.getElem?_cons_zero, List.getElem?_cons_succ, List.set_cons_zero, List.set_cons_succ, List.length_cons, List.length_nil, List.length_map, List.length_range, List.length_set, decide_eq_true_eq, if_true, if_false, reduceIte, reduceCtorEq, Bool.not_true, Bool.not_false, Bool.false_eq_true, x_ix_nI, ax_get, ax_set, e_aald, s_aast, true_and, and_true, ite_true, ite_false, ↓bI_01, bI_eq0, bI_eq1, bool_or, tern_pure, and_pure, or_pure, bI_def, bne_t, ndf, decide_not, Bool.decide_eq_true, Bool.decide_and, Bool.decide_or, Nat.reduceEqDiff, Nat.reduceAdd, Nat.reduceMul, Nat.reduceSub, Nat.reduceLT, Nat.reduceLeDiff, or_false, false_or, or_true, true_or, and_false, false_and, Bool.or_eq_true, Bool.and_eq_true, Bool.or_false, Bool.or_true, Bool.true_or, Bool.false_or, Bool.and_true, Bool.and_false, Bool.true_and, Bool.false_and, decide_true, decide_false, not_true_eq_false, not_false_eq_true, xf0, xf1, xf2, xf3, xf4, xf5, xf6, xf7, xf8, xf9, xf10, xf11, xf12, xf13, xf14, xf15, xf16, xf17, xf18, xf19, xf20, xf21, xf22, xf23, xf24, xf25, xf26, xf27, l999, nI_1, nI_add, nI_ltI, rw, hlt, b1, q2, m, ax_def]
  · have m : min (tW S s + v) 999 = tW S s + v := Nat.min_eq_left (by omega)
    simp (disch := omega) only [bd_X10_wornMore, x_out, s_seq, s_ite, s_ret, s_retZ, s_retV, s_iasg, s_aasg, s_lasg, s_inc, s_put, s_putop, s_ast, s_astop, s_exp, s_call, s_skip, s_brk, s_cont, s_oinit, e_lit, e_long, e_il, e_al, e_ll, e_bin, e_un, e_fld, e_ald, e_tern, e_call, e_alen, b_cmp, b_cmp0, b_lcmp, b_and, b_or, b_not, o_add, o_sub, o_mul, o_and, o_or, o_xor, o_shl, o_shr, o_neg, o_i2l, o_l2i, o_i2c, r_eq, r_ne, r_lt, r_ge, r_gt, r_le, r_eq0, r_ne0, r_lt0, r_ge0, r_gt0, r_le0, x_int, x_ref, x_long, x_args, x_nar, xKd, xst1, xst2, xlg, Option.bind_some, Option.bind_none, Option.map_some, Option.map_none, List.getElem?_cons_zero, List.getElem?_cons_succ, List.set_cons_zero, List.set_cons_succ, List.length_cons, List.length_nil, List.length_map, List.length_range, List.length_set, decide_eq_true_eq, if_true, if_false, reduceIte, reduceCtorEq, Bool.not_true, Bool.not_false, Bool.false_eq_true, x_ix_nI, ax_get, ax_set, e_aald, s_aast, true_and, and_true, ite_true, ite_false, ↓bI_01, bI_eq0, bI_eq1, bool_or, tern_pure, and_pure, or_pure, bI_def, bne_t, ndf, decide_not, Bool.decide_eq_true, Bool.decide_and, Bool.decide_or, Nat.reduceEqDiff, Nat.reduceAdd, Nat.reduceMul, Nat.reduceSub, Nat.reduceLT, Nat.reduceLeDiff, or_false, false_or, or_true, true_or, and_false, false_and, Bool.or_eq_true, Bool.and_eq_true, Bool.or_false, Bool.or_true, Bool.true_or, Bool.false_or, Bool.and_true, Bool.and_false, Bool.true_and, Bool.false_and, decide_true, decide_false, not_true_eq_false, not_false_eq_true, xf0, xf1, xf2, xf3, xf4, xf5, xf6, xf7, xf8, xf9, xf10, xf11, xf12, xf13, xf14, xf15, xf16, xf17, xf18, xf19, xf20, xf21, xf22, xf23, xf24, xf25, xf26, xf27, l999, nI_1, nI_add, nI_ltI, rw, hlt, b1, q2, m, ax_def]
theorem isAnew_r (V : RV h P f) (O : POK P) (hr : r ≤ 638) (B : Bk f r P S) {s : Nat} (hs : s < pN P) : ∃ h' g, m_X10_isAnew [.ref 106, .int (nI r), .int (nI s)] h = some (none, h') ∧ RV h' P g ∧ Bk g r P (sRenew S s) ∧ bF r f g ∧ xFr (fun b => b = 107) h h' := by
  obtain ⟨⟨q, k, sn, tx, z, h0⟩, hw, -⟩ := id V
  have h0 : h[106]? = some (.inl (10, _)) := h0
  obtain ⟨xf0, xf1, xf2, xf3, xf4, xf5, xf6, xf7, xf8, xf9, xf10, xf11, xf12, xf13, xf14, xf15, xf16, xf17, xf18, xf19, xf20, xf21, xf22, xf23, xf24, xf25, xf26, xf27⟩ := rfs h0
  have o5 := O.2.2.2.2.1
  have o6 := O.2.2.2.2.2.1
  have rw := ax_row hw
  have hlt : r + 1 + s < 696 := by omega
  obtain ⟨V1, F1⟩ := V.put (upd f (r + 1 + s) (nI 0))
  have B1 := B.setW O hs 0
  have G1 : bF r f (upd f (r + 1 + s) (nI 0)) := (bF.rf r f).put1 (by omega) (by omega) _
  have s1 : (s_ast 0 (e_fld 10 0 (e_al 0)) (e_bin o_add (e_bin o_add (e_il 1) (e_lit 1)) (e_il 2)) (e_lit 0)) [some (.ref 106), some (.int (nI r)), some (.int (nI s)), none] h = some (none, [some (.ref 106), some (.int (nI r)), some (.int (nI s)), none], h.set 107 (arr 696 (upd f (r + 1 + s) (nI 0)))) := by
    simp (disch := omega) only [x_out, s_seq, s_ite, s_ret, s_retZ, s_retV, s_iasg, s_aasg, s_lasg, s_inc, s_put, s_putop, s_ast, s_astop, s_exp, s_call, s_skip, s_brk, s_cont, s_oinit, e_lit, e_long, e_il, e_al, e_ll, e_bin, e_un, e_fld, e_ald, e_tern, e_call, e_alen, b_cmp, b_cmp0, b_lcmp, b_and, b_or, b_not, o_add, o_sub, o_mul, o_and, o_or, o_xor, o_shl, o_shr, o_neg, o_i2l, o_l2i, o_i2c, r_eq, r_ne, r_lt, r_ge, r_gt, r_le, r_eq0, r_ne0, r_lt0, r_ge0, r_gt0, r_le0, x_int, x_ref, x_long, x_args, x_nar, xKd, xst1, xst2, xlg, Option.bind_some, Option.bind_none, Option.map_some, Option.map_none, List.getElem?_cons_zero, List.getElem?_cons_succ, List.set_cons_zero, List.set_cons_succ, List.length_cons, List.length_nil, List.length_map, List.length_range, List.length_set, decide_eq_true_eq, if_true, if_false, reduceIte, reduceCtorEq, Bool.not_true, Bool.not_false, Bool.false_eq_true, x_ix_nI, ax_get, ax_set, e_aald, s_aast, true_and, and_true, ite_true, ite_false, ↓bI_01, bI_eq0, bI_eq1, bool_or, tern_pure, and_pure, or_pure, bI_def, bne_t, ndf, decide_not, Bool.decide_eq_true, Bool.decide_and, Bool.decide_or, Nat.reduceEqDiff, Nat.reduceAdd, Nat.reduceMul, Nat.reduceSub, Nat.reduceLT, Nat.reduceLeDiff, or_false, false_or, or_true, true_or, and_false, false_and, Bool.or_eq_true, Bool.and_eq_true, Bool.or_false, Bool.or_true, Bool.true_or, Bool.false_or, Bool.and_true, Bool.and_false, Bool.true_and, Bool.false_and, decide_true, decide_false, not_true_eq_false, not_false_eq_true, xf0, xf1, xf2, xf3, xf4, xf5, xf6, xf7, xf8, xf9, xf10, xf11, xf12, xf13, xf14, xf15, xf16, xf17, xf18, xf19, xf20, xf21, xf22, xf23, xf24, xf25, xf26, xf27, nI_1, nI_add, rw, hlt, ax_def, nI_0]
  generalize h.set 107 (arr 696 (upd f (r + 1 + s) (nI 0))) = h1 at V1 F1 s1
  generalize upd f (r + 1 + s) (nI 0) = f1 at V1 B1 G1
  obtain ⟨env', h', e1, rfl, g, e2, ⟨S', e3, d0, d1, d2, d3, d4, d5⟩, e4, e5⟩ := s_loop_J (c := lc_X10_isAnew_1) (a := la_X10_isAnew_1) (u := lu_X10_isAnew_1) (h := h1) (env := [some (.ref 106), some (.int (nI r)), some (.int (nI s)), some (.int (nI 0))]) (fun i env k => env = [some (.ref 106), some (.int (nI r)), some (.int (nI s)), some (.int (nI i))] ∧ ∃ g, RV k P g ∧ (∃ S', Bk g r P S' ∧ tT S' = tT S ∧ tW S' = (fun j => if j = s then 0 else tW S j) ∧ tP S' = tP S ∧ tC S' = tC S ∧ tL S' = tL S ∧ ∀ w, w < pM P → ∀ j, j < pN P → tA S' (9 * w + j) = if j = s ∧ w < i then 0 else tA S (9 * w + j)) ∧ bF r f g ∧ xFr (fun b => b = 107) h k) (pM P) 1000 (by omega) ⟨rfl, f1, V1, ⟨_, B1, rfl, rfl, rfl, rfl, rfl, fun w hw j hj => by rw [if_neg (by omega)]; rfl⟩, G1, F1⟩
    (fun i env k hi hJ => by
      obtain ⟨rfl, g, VK, ⟨S', e3, d0, d1, d2, d3, d4, d5⟩, e4, e5⟩ := hJ
      obtain ⟨⟨q, kk, sn, tx, z, h0⟩, hw, -⟩ := id VK
      have h0 : k[106]? = some (.inl (10, _)) := h0
      obtain ⟨xf0, xf1, xf2, xf3, xf4, xf5, xf6, xf7, xf8, xf9, xf10, xf11, xf12, xf13, xf14, xf15, xf16, xf17, xf18, xf19, xf20, xf21, xf22, xf23, xf24, xf25, xf26, xf27⟩ := rfs h0
      have rw := ax_row hw
      have hlt : r + 22 + 9 * i + s < 696 := by omega
      obtain ⟨V', F'⟩ := VK.put (upd g (r + 22 + 9 * i + s) (Int32.ofInt 0))
      have s1 : la_X10_isAnew_1 [some (.ref 106), some (.int (nI r)), some (.int (nI s)), some (.int (nI i))] k = some (none, [some (.ref 106), some (.int (nI r)), some (.int (nI s)), some (.int (nI i))], k.set 107 (arr 696 (upd g (r + 22 + 9 * i + s) (Int32.ofInt 0)))) := by
        simp (disch := omega) only [la_X10_isAnew_1, x_out, s_seq, s_ite, s_ret, s_retZ, s_retV, s_iasg, s_aasg, s_lasg, s_inc, s_put, s_putop, s_ast, s_astop, s_exp, s_call, s_skip, s_brk, s_cont, s_oinit, e_lit, e_long, e_il, e_al, e_ll, e_bin, e_un, e_fld, e_ald, e_tern, e_call, e_alen, b_cmp, b_cmp0, b_lcmp, b_and, b_or, b_not, o_add, o_sub, o_mul, o_and, o_or, o_xor, o_shl, o_shr, o_neg, o_i2l, o_l2i, o_i2c, r_eq, r_ne, r_lt, r_ge, r_gt, r_le, r_eq0, r_ne0, r_lt0, r_ge0, r_gt0, r_le0, x_int, x_ref, x_long, x_args, x_nar, xKd, xst1, xst2, xlg, Option.bind_some, Option.bind_none, Option.map_some, Option.map_none, List.getElem?_cons_zero, List.getElem?_cons_succ, List.set_cons_zero, List.set_cons_succ, List.length_cons, List.length_nil, List.length_map, List.length_range, List.length_set, decide_eq_true_eq, if_true, if_false, reduceIte, reduceCtorEq, Bool.not_true, Bool.not_false, Bool.false_eq_true, x_ix_nI, ax_get, ax_set, e_aald, s_aast, true_and, and_true, ite_true, ite_false, ↓bI_01, bI_eq0, bI_eq1, bool_or, tern_pure, and_pure, or_pure, bI_def, bne_t, ndf, decide_not, Bool.decide_eq_true, Bool.decide_and, Bool.decide_or, Nat.reduceEqDiff, Nat.reduceAdd, Nat.reduceMul, Nat.reduceSub, Nat.reduceLT, Nat.reduceLeDiff, or_false, false_or, or_true, true_or, and_false, false_and, Bool.or_eq_true, Bool.and_eq_true, Bool.or_false, Bool.or_true, Bool.true_or, Bool.false_or, Bool.and_true, Bool.and_false, Bool.true_and, Bool.false_and, decide_true, decide_false, not_true_eq_false, not_false_eq_true, xf0, xf1, xf2, xf3, xf4, xf5, xf6, xf7, xf8, xf9, xf10, xf11, xf12, xf13, xf14, xf15, xf16, xf17, xf18, xf19, xf20, xf21, xf22, xf23, xf24, xf25, xf26, xf27, l9, l22, nI_m, nI_add, rw, hlt, ax_def]
        rfl
      refine ⟨_, _, s_step_on ?_ s1 (?_ : _ = some (none, [some (.ref 106), some (.int (nI r)), some (.int (nI s)), some (.int (nI (i + 1)))], _)), rfl, _, V', ⟨_, e3.setA O hi hs 0, d0, d1, d2, d3, d4, fun w hw j hj => ?_⟩, e4.put1 (by omega) (by omega) _, (e5.trans F').mono fun b hb => hb.elim id id⟩
      · simp (disch := omega) only [lc_X10_isAnew_1, x_out, s_seq, s_ite, s_ret, s_retZ, s_retV, s_iasg, s_aasg, s_lasg, s_inc, s_put, s_putop, s_ast, s_astop, s_exp, s_call, s_skip, s_brk, s_cont, s_oinit, e_lit, e_long, e_il, e_al, e_ll, e_bin, e_un, e_fld, e_ald, e_tern, e_call, e_alen, b_cmp, b_cmp0, b_lcmp, b_and, b_or, b_not, o_add, o_sub, o_mul, o_and, o_or, o_xor, o_shl, o_shr, o_neg, o_i2l, o_l2i, o_i2c, r_eq, r_ne, r_lt, r_ge, r_gt, r_le, r_eq0, r_ne0, r_lt0, r_ge0, r_gt0, r_le0, x_int, x_ref, x_long, x_args, x_nar, xKd, xst1, xst2, xlg, Option.bind_some, Option.bind_none, Option.map_some, Option.map_none, List.getElem?_cons_zero, List.getElem?_cons_succ, List.set_cons_zero, List.set_cons_succ, List.length_cons, List.length_nil, List.length_map, List.length_range, List.length_set, decide_eq_true_eq, if_true, if_false, reduceIte, reduceCtorEq, Bool.not_true, Bool.not_false, Bool.false_eq_true, x_ix_nI, ax_get, ax_set, e_aald, s_aast, true_and, and_true, ite_true, ite_false, ↓bI_01, bI_eq0, bI_eq1, bool_or, tern_pure, and_pure, or_pure, bI_def, bne_t, ndf, decide_not, Bool.decide_eq_true, Bool.decide_and, Bool.decide_or, Nat.reduceEqDiff, Nat.reduceAdd, Nat.reduceMul, Nat.reduceSub, Nat.reduceLT, Nat.reduceLeDiff, or_false, false_or, or_true, true_or, and_false, false_and, Bool.or_eq_true, Bool.and_eq_true, Bool.or_false, Bool.or_true, Bool.true_or, Bool.false_or, Bool.and_true, Bool.and_false, Bool.true_and, Bool.false_and, decide_true, decide_false, not_true_eq_false, not_false_eq_true, xf0, xf1, xf2, xf3, xf4, xf5, xf6, xf7, xf8, xf9, xf10, xf11, xf12, xf13, xf14, xf15, xf16, xf17, xf18, xf19, xf20, xf21, xf22, xf23, xf24, xf25, xf26, xf27, nI_ltI, hi]
      · simp only [lu_X10_isAnew_1, x_out, s_seq, s_ite, s_ret, s_retZ, s_retV, s_iasg, s_aasg, s_lasg, s_inc, s_put, s_putop, s_ast, s_astop, s_exp, s_call, s_skip, s_brk, s_cont, s_oinit, e_lit, e_long, e_il, e_al, e_ll, e_bin, e_un, e_fld, e_ald, e_tern, e_call, e_alen, b_cmp, b_cmp0, b_lcmp, b_and, b_or, b_not, o_add, o_sub, o_mul, o_and, o_or, o_xor, o_shl, o_shr, o_neg, o_i2l, o_l2i, o_i2c, r_eq, r_ne, r_lt, r_ge, r_gt, r_le, r_eq0, r_ne0, r_lt0, r_ge0, r_gt0, r_le0, x_int, x_ref, x_long, x_args, x_nar, xKd, xst1, xst2, xlg, Option.bind_some, Option.bind_none, Option.map_some, Option.map_none, List.getElem?_cons_zero, List.getElem?_cons_succ, List.set_cons_zero, List.set_cons_succ, List.length_cons, List.length_nil, List.length_map, List.length_range, List.length_set, decide_eq_true_eq, if_true, if_false, reduceIte, reduceCtorEq, Bool.not_true, Bool.not_false, Bool.false_eq_true, x_ix_nI, ax_get, ax_set, e_aald, s_aast, true_and, and_true, ite_true, ite_false, ↓bI_01, bI_eq0, bI_eq1, bool_or, tern_pure, and_pure, or_pure, bI_def, bne_t, ndf, decide_not, Bool.decide_eq_true, Bool.decide_and, Bool.decide_or, Nat.reduceEqDiff, Nat.reduceAdd, Nat.reduceMul, Nat.reduceSub, Nat.reduceLT, Nat.reduceLeDiff, or_false, false_or, or_true, true_or, and_false, false_and, Bool.or_eq_true, Bool.and_eq_true, Bool.or_false, Bool.or_true, Bool.true_or, Bool.false_or, Bool.and_true, Bool.and_false, Bool.true_and, Bool.false_and, decide_true, decide_false, not_true_eq_false, not_false_eq_true, xf0, xf1, xf2, xf3, xf4, xf5, xf6, xf7, xf8, xf9, xf10, xf11, xf12, xf13, xf14, xf15, xf16, xf17, xf18, xf19, xf20, xf21, xf22, xf23, xf24, xf25, xf26, xf27, nI_1]
      · show (if 9 * w + j = 9 * i + s then 0 else tA S' (9 * w + j)) = _
        by_cases y : 9 * w + j = 9 * i + s
        · rw [if_pos y, if_pos (by omega)]
        · rw [if_neg y, d5 w hw j hj]
          by_cases y2 : j = s ∧ w < i
          · rw [if_pos y2, if_pos (by omega)]
          · rw [if_neg y2, if_neg (by omega)])
    (fun env k hJ => by
      obtain ⟨rfl, g, VK, -⟩ := hJ
      obtain ⟨⟨q, kk, sn, tx, z, h0⟩, hw, -⟩ := id VK
      have h0 : k[106]? = some (.inl (10, _)) := h0
      obtain ⟨xf0, xf1, xf2, xf3, xf4, xf5, xf6, xf7, xf8, xf9, xf10, xf11, xf12, xf13, xf14, xf15, xf16, xf17, xf18, xf19, xf20, xf21, xf22, xf23, xf24, xf25, xf26, xf27⟩ := rfs h0
      simp (disch := omega) only [lc_X10_isAnew_1, la_X10_isAnew_1, lu_X10_isAnew_1, s_step, x_out, s_seq, s_ite, s_ret, s_retZ, s_retV, s_iasg, s_aasg, s_lasg, s_inc, s_put, s_putop, s_ast, s_astop, s_exp, s_call, s_skip, s_brk, s_cont, s_oinit, e_lit, e_long, e_il, e_al, e_ll, e_bin, e_un, e_fld, e_ald, e_tern, e_call, e_alen, b_cmp, b_cmp0, b_lcmp, b_and, b_or, b_not, o_add, o_sub, o_mul, o_and, o_or, o_xor, o_shl, o_shr, o_neg, o_i2l, o_l2i, o_i2c, r_eq, r_ne, r_lt, r_ge, r_gt, r_le, r_eq0, r_ne0, r_lt0, r_ge0, r_gt0, r_le0, x_int, x_ref, x_long, x_args, x_nar, xKd, xst1, xst2, xlg, Option.bind_some, Option.bind_none, Option.map_some, Option.map_none, List.getElem?_cons_zero, List.getElem?_cons_succ, List.set_cons_zero, List.set_cons_succ, List.length_cons, List.length_nil, List.length_map, List.length_range, List.length_set, decide_eq_true_eq, if_true, if_false, reduceIte, reduceCtorEq, Bool.not_true, Bool.not_false, Bool.false_eq_true, x_ix_nI, ax_get, ax_set, e_aald, s_aast, true_and, and_true, ite_true, ite_false, ↓bI_01, bI_eq0, bI_eq1, bool_or, tern_pure, and_pure, or_pure, bI_def, bne_t, ndf, decide_not, Bool.decide_eq_true, Bool.decide_and, Bool.decide_or, Nat.reduceEqDiff, Nat.reduceAdd, Nat.reduceMul, Nat.reduceSub, Nat.reduceLT, Nat.reduceLeDiff, or_false, false_or, or_true, true_or, and_false, false_and, Bool.or_eq_true, Bool.and_eq_true, Bool.or_false, Bool.or_true, Bool.true_or, Bool.false_or, Bool.and_true, Bool.and_false, Bool.true_and, Bool.false_and, decide_true, decide_false, not_true_eq_false, not_false_eq_true, xf0, xf1, xf2, xf3, xf4, xf5, xf6, xf7, xf8, xf9, xf10, xf11, xf12, xf13, xf14, xf15, xf16, xf17, xf18, xf19, xf20, xf21, xf22, xf23, xf24, xf25, xf26, xf27, nI_ltI, Nat.lt_irrefl])
  refine ⟨h', g, ?_, e2, e3.val d0 (fun j _ => by rw [d1]; rfl) (fun w _ => by rw [d2]; rfl) (fun w _ => by rw [d3]; rfl) (fun w _ => by rw [d4]; rfl) (fun w hw j hj => ?_), e4, e5⟩
  · simp only [nI_0] at e1
    refine xM_run (env := [some (.ref 106), some (.int (nI r)), some (.int (nI s)), none]) h0 rfl rfl (Nat.le_of_ble_eq_true rfl) rfl ?_ rfl
    unfold bd_X10_isAnew
    rw [s_seq_n s1]
    simp (disch := omega) only [x_out, s_seq, s_ite, s_ret, s_retZ, s_retV, s_iasg, s_aasg, s_lasg, s_inc, s_put, s_putop, s_ast, s_astop, s_exp, s_call, s_skip, s_brk, s_cont, s_oinit, e_lit, e_long, e_il, e_al, e_ll, e_bin, e_un, e_fld, e_ald, e_tern, e_call, e_alen, b_cmp, b_cmp0, b_lcmp, b_and, b_or, b_not, o_add, o_sub, o_mul, o_and, o_or, o_xor, o_shl, o_shr, o_neg, o_i2l, o_l2i, o_i2c, r_eq, r_ne, r_lt, r_ge, r_gt, r_le, r_eq0, r_ne0, r_lt0, r_ge0, r_gt0, r_le0, x_fld, x_int, x_ref, x_long, x_args, x_nar, xKd, xst1, xst2, xlg, Option.bind_some, Option.bind_none, Option.map_some, Option.map_none, List.getElem?_cons_zero, List.getElem?_cons_succ, List.set_cons_zero, List.set_cons_succ, List.length_cons, List.length_nil, List.length_map, List.length_range, List.length_set, decide_eq_true_eq, if_true, if_false, reduceIte, reduceCtorEq, Bool.not_true, Bool.not_false, Bool.false_eq_true, x_ix_nI, ax_get, ax_set, e_aald, s_aast, true_and, and_true, ite_true, ite_false, ↓bI_01, bI_eq0, bI_eq1, bool_or, tern_pure, and_pure, or_pure, bI_def, bne_t, ndf, decide_not, Bool.decide_eq_true, Bool.decide_and, Bool.decide_or, Nat.reduceEqDiff, Nat.reduceAdd, Nat.reduceMul, Nat.reduceSub, Nat.reduceLT, Nat.reduceLeDiff, or_false, false_or, or_true, true_or, and_false, false_and, Bool.or_eq_true, Bool.and_eq_true, Bool.or_false, Bool.or_true, Bool.true_or, Bool.false_or, Bool.and_true, Bool.and_false, Bool.true_and, Bool.false_and, decide_true, decide_false, not_true_eq_false, not_false_eq_true, e1]
  · rw [d5 w hw j hj]
    show _ = (if (9 * w + j) % 9 = s then 0 else tA S (9 * w + j))
    have : (9 * w + j) % 9 = j := by omega
    rw [this]
    by_cases y : j = s
    · rw [if_pos ⟨y, hw⟩, if_pos y]
    · rw [if_neg (fun q => y q.1), if_neg y]
theorem goes_r (V : RV h P f) (O : POK P) (hr : r ≤ 638) (B : Bk f r P S) (T : TOK P c S) {w s : Nat} (hw : w < pM P) (hs : s < pN P) : ∃ h' g, m_X10_goes [.ref 106, .int (nI r), .int (nI w), .int (nI s)] h = some (none, h') ∧ RV h' P g ∧ Bk g r P (sGo P S w s) ∧ bF r f g ∧ xFr (fun b => b = 107) h h' := by
  have o2 := O.2.1
  have o5 := O.2.2.2.2.1
  have o6 := O.2.2.2.2.2.1
  have tp := T.2.1 w hw
  have t1 := T.1 s (by omega)
  obtain ⟨q1, q2, q3, q4⟩ := O.2.2.2.2.2.2.1 s hs
  have i10 : r + 10 + w < 696 := by omega
  have i14 : r + 14 + w < 696 := by omega
  have i18 : r + 18 + w < 696 := by omega
  have i22 : r + 22 + 9 * w + s < 696 := by omega
  have i00 : r < 696 := by omega
  have hpw : pW P w s < 2 ^ 20 := by have := pW_le O hw (s := s); omega
  obtain ⟨⟨q, k, sn, tx, z, h0⟩, hrow, -, ⟨f2, p2, v2⟩, -⟩ := id V
  have h00 : h[106]? = some (.inl (10, _)) := h0
  -- along
  have s1 : (s_iasg 4 (e_tern (b_cmp r_eq (e_ald 0 (e_fld 10 6 (e_al 0)) (e_il 3)) (e_ald 0 (e_fld 10 0 (e_al 0)) (e_bin o_add (e_bin o_add (e_il 1) (e_lit 10)) (e_il 2)))) (e_lit 1) (e_lit 0))) [some (.ref 106), some (.int (nI r)), some (.int (nI w)), some (.int (nI s)), none] h = some (none, [some (.ref 106), some (.int (nI r)), some (.int (nI w)), some (.int (nI s)), some (.int (bI (decide (pA P s = tP S w))))], h) := by
    obtain ⟨xf0, xf1, xf2, xf3, xf4, xf5, xf6, xf7, xf8, xf9, xf10, xf11, xf12, xf13, xf14, xf15, xf16, xf17, xf18, xf19, xf20, xf21, xf22, xf23, xf24, xf25, xf26, xf27⟩ := rfs h00
    have rw := ax_row hrow
    have r2 := ax_row p2
    have e2 := v2 s hs
    have b2 := B.2.2.1 w hw
    have s9 : s < 9 := by omega
    simp (disch := omega) only [x_out, s_seq, s_ite, s_ret, s_retZ, s_retV, s_iasg, s_aasg, s_lasg, s_inc, s_put, s_putop, s_ast, s_astop, s_exp, s_call, s_skip, s_brk, s_cont, s_oinit, e_lit, e_long, e_il, e_al, e_ll, e_bin, e_un, e_fld, e_ald, e_tern, e_call, e_alen, b_cmp, b_cmp0, b_lcmp, b_and, b_or, b_not, o_add, o_sub, o_mul, o_and, o_or, o_xor, o_shl, o_shr, o_neg, o_i2l, o_l2i, o_i2c, r_eq, r_ne, r_lt, r_ge, r_gt, r_le, r_eq0, r_ne0, r_lt0, r_ge0, r_gt0, r_le0, x_int, x_ref, x_long, x_args, x_nar, xKd, xst1, xst2, xlg, Option.bind_some, Option.bind_none, Option.map_some, Option.map_none, List.getElem?_cons_zero, List.getElem?_cons_succ, List.set_cons_zero, List.set_cons_succ, List.length_cons, List.length_nil, List.length_map, List.length_range, List.length_set, decide_eq_true_eq, if_true, if_false, reduceIte, reduceCtorEq, Bool.not_true, Bool.not_false, Bool.false_eq_true, x_ix_nI, ax_get, ax_set, e_aald, s_aast, true_and, and_true, ite_true, ite_false, ↓bI_01, bI_eq0, bI_eq1, bool_or, tern_pure, and_pure, or_pure, bI_def, bne_t, ndf, decide_not, Bool.decide_eq_true, Bool.decide_and, Bool.decide_or, Nat.reduceEqDiff, Nat.reduceAdd, Nat.reduceMul, Nat.reduceSub, Nat.reduceLT, Nat.reduceLeDiff, or_false, false_or, or_true, true_or, and_false, false_and, Bool.or_eq_true, Bool.and_eq_true, Bool.or_false, Bool.or_true, Bool.true_or, Bool.false_or, Bool.and_true, Bool.and_false, Bool.true_and, Bool.false_and, decide_true, decide_false, not_true_eq_false, not_false_eq_true, xf0, xf1, xf2, xf3, xf4, xf5, xf6, xf7, xf8, xf9, xf10, xf11, xf12, xf13, xf14, xf15, xf16, xf17, xf18, xf19, xf20, xf21, xf22, xf23, xf24, xf25, xf26, xf27, l10, nI_add, nI_eq, rw, r2, e2, b2, s9, i10]
  -- the field
  obtain ⟨V1, F1⟩ := V.put (upd f (r + 10 + w) (nI (pX P s (tP S w))))
  have B1 := B.setP O hw (pX P s (tP S w))
  have G1 : bF r f (upd f (r + 10 + w) (nI (pX P s (tP S w)))) := (bF.rf r f).put1 (by omega) (by omega) _
  have s2 : (s_ast 0 (e_fld 10 0 (e_al 0)) (e_bin o_add (e_bin o_add (e_il 1) (e_lit 10)) (e_il 2)) (e_call m_X10_otherEnd [(e_al 0), (e_il 3), (e_ald 0 (e_fld 10 0 (e_al 0)) (e_bin o_add (e_bin o_add (e_il 1) (e_lit 10)) (e_il 2)))])) [some (.ref 106), some (.int (nI r)), some (.int (nI w)), some (.int (nI s)), some (.int (bI (decide (pA P s = tP S w))))] h = some (none, [some (.ref 106), some (.int (nI r)), some (.int (nI w)), some (.int (nI s)), some (.int (bI (decide (pA P s = tP S w))))], h.set 107 (arr 696 (upd f (r + 10 + w) (nI (pX P s (tP S w)))))) := by
    obtain ⟨xf0, xf1, xf2, xf3, xf4, xf5, xf6, xf7, xf8, xf9, xf10, xf11, xf12, xf13, xf14, xf15, xf16, xf17, xf18, xf19, xf20, xf21, xf22, xf23, xf24, xf25, xf26, xf27⟩ := rfs h00
    have rw := ax_row hrow
    have b2 := B.2.2.1 w hw
    have e3 := otherEnd_r V O hs (g := tP S w) (by omega)
    simp (disch := omega) only [x_out, s_seq, s_ite, s_ret, s_retZ, s_retV, s_iasg, s_aasg, s_lasg, s_inc, s_put, s_putop, s_ast, s_astop, s_exp, s_call, s_skip, s_brk, s_cont, s_oinit, e_lit, e_long, e_il, e_al, e_ll, e_bin, e_un, e_fld, e_ald, e_tern, e_call, e_alen, b_cmp, b_cmp0, b_lcmp, b_and, b_or, b_not, o_add, o_sub, o_mul, o_and, o_or, o_xor, o_shl, o_shr, o_neg, o_i2l, o_l2i, o_i2c, r_eq, r_ne, r_lt, r_ge, r_gt, r_le, r_eq0, r_ne0, r_lt0, r_ge0, r_gt0, r_le0, x_int, x_ref, x_long, x_args, x_nar, xKd, xst1, xst2, xlg, Option.bind_some, Option.bind_none, Option.map_some, Option.map_none, List.getElem?_cons_zero, List.getElem?_cons_succ, List.set_cons_zero, List.set_cons_succ, List.length_cons, List.length_nil, List.length_map, List.length_range, List.length_set, decide_eq_true_eq, if_true, if_false, reduceIte, reduceCtorEq, Bool.not_true, Bool.not_false, Bool.false_eq_true, x_ix_nI, ax_get, ax_set, e_aald, s_aast, true_and, and_true, ite_true, ite_false, ↓bI_01, bI_eq0, bI_eq1, bool_or, tern_pure, and_pure, or_pure, bI_def, bne_t, ndf, decide_not, Bool.decide_eq_true, Bool.decide_and, Bool.decide_or, Nat.reduceEqDiff, Nat.reduceAdd, Nat.reduceMul, Nat.reduceSub, Nat.reduceLT, Nat.reduceLeDiff, or_false, false_or, or_true, true_or, and_false, false_and, Bool.or_eq_true, Bool.and_eq_true, Bool.or_false, Bool.or_true, Bool.true_or, Bool.false_or, Bool.and_true, Bool.and_false, Bool.true_and, Bool.false_and, decide_true, decide_false, not_true_eq_false, not_false_eq_true, xf0, xf1, xf2, xf3, xf4, xf5, xf6, xf7, xf8, xf9, xf10, xf11, xf12, xf13, xf14, xf15, xf16, xf17, xf18, xf19, xf20, xf21, xf22, xf23, xf24, xf25, xf26, xf27, l10, nI_add, rw, b2, i10, e3, ax_def]
  generalize h.set 107 (arr 696 (upd f (r + 10 + w) (nI (pX P s (tP S w))))) = h1 at V1 F1 s2
  generalize upd f (r + 10 + w) (nI (pX P s (tP S w))) = f1 at V1 B1 G1
  -- the wear
  have e4 := wears_r V1 O hw hs
  obtain ⟨h2, e5, V2, B2, F2⟩ := wornMore_r V1 O hr B1 (s := s) (v := pW P w s) t1 hs hpw
  have G2 := G1.put1 (k := r + 1 + s) (by omega) (by omega) (nI (min (tW (tT S, tW S, fun i => if i = w then pX P s (tP S w) else tP S i, tC S, tL S, tA S) s + pW P w s) 999))
  have s3 : (s_call m_X10_wornMore [(e_al 0), (e_il 1), (e_il 3), (e_call m_X10_wears [(e_al 0), (e_il 2), (e_il 3)])]) [some (.ref 106), some (.int (nI r)), some (.int (nI w)), some (.int (nI s)), some (.int (bI (decide (pA P s = tP S w))))] h1 = some (none, [some (.ref 106), some (.int (nI r)), some (.int (nI w)), some (.int (nI s)), some (.int (bI (decide (pA P s = tP S w))))], h2) := by
    simp (disch := omega) only [x_out, s_seq, s_ite, s_ret, s_retZ, s_retV, s_iasg, s_aasg, s_lasg, s_inc, s_put, s_putop, s_ast, s_astop, s_exp, s_call, s_skip, s_brk, s_cont, s_oinit, e_lit, e_long, e_il, e_al, e_ll, e_bin, e_un, e_fld, e_ald, e_tern, e_call, e_alen, b_cmp, b_cmp0, b_lcmp, b_and, b_or, b_not, o_add, o_sub, o_mul, o_and, o_or, o_xor, o_shl, o_shr, o_neg, o_i2l, o_l2i, o_i2c, r_eq, r_ne, r_lt, r_ge, r_gt, r_le, r_eq0, r_ne0, r_lt0, r_ge0, r_gt0, r_le0, x_fld, x_int, x_ref, x_long, x_args, x_nar, xKd, xst1, xst2, xlg, Option.bind_some, Option.bind_none, Option.map_some, Option.map_none, List.getElem?_cons_zero, List.getElem?_cons_succ, List.set_cons_zero, List.set_cons_succ, List.length_cons, List.length_nil, List.length_map, List.length_range, List.length_set, decide_eq_true_eq, if_true, if_false, reduceIte, reduceCtorEq, Bool.not_true, Bool.not_false, Bool.false_eq_true, x_ix_nI, ax_get, ax_set, e_aald, s_aast, true_and, and_true, ite_true, ite_false, ↓bI_01, bI_eq0, bI_eq1, bool_or, tern_pure, and_pure, or_pure, bI_def, bne_t, ndf, decide_not, Bool.decide_eq_true, Bool.decide_and, Bool.decide_or, Nat.reduceEqDiff, Nat.reduceAdd, Nat.reduceMul, Nat.reduceSub, Nat.reduceLT, Nat.reduceLeDiff, or_false, false_or, or_true, true_or, and_false, false_and, Bool.or_eq_true, Bool.and_eq_true, Bool.or_false, Bool.or_true, Bool.true_or, Bool.false_or, Bool.and_true, Bool.and_false, Bool.true_and, Bool.false_and, decide_true, decide_false, not_true_eq_false, not_false_eq_true, e4, e5]
  generalize upd f1 (r + 1 + s) (nI (min (tW (tT S, tW S, fun i => if i = w then pX P s (tP S w) else tP S i, tC S, tL S, tA S) s + pW P w s) 999)) = f2 at V2 B2 G2
  have Fr2 := (F1.trans F2).mono (J := fun b => b = 107) fun b hb => hb.elim id id
  -- the credit
  have e6 := earns_r V2 O hw hs
  obtain ⟨V3, F3⟩ := V2.put (upd f2 (r + 14 + w) (tC S w + nI (pG P w s)))
  have B3 := B2.setC O hw (tC S w + nI (pG P w s))
  have G3 := G2.put1 (k := r + 14 + w) (by omega) (by omega) (tC S w + nI (pG P w s))
  have s4 : (s_astop o_add (e_fld 10 0 (e_al 0)) (e_bin o_add (e_bin o_add (e_il 1) (e_lit 14)) (e_il 2)) (e_call m_X10_earns [(e_al 0), (e_il 2), (e_il 3)])) [some (.ref 106), some (.int (nI r)), some (.int (nI w)), some (.int (nI s)), some (.int (bI (decide (pA P s = tP S w))))] h2 = some (none, [some (.ref 106), some (.int (nI r)), some (.int (nI w)), some (.int (nI s)), some (.int (bI (decide (pA P s = tP S w))))], h2.set 107 (arr 696 (upd f2 (r + 14 + w) (tC S w + nI (pG P w s))))) := by
    obtain ⟨⟨q, k, sn, tx, z, h0⟩, hrow, -⟩ := id V2
    have h0 : h2[106]? = some (.inl (10, _)) := h0
    obtain ⟨xf0, xf1, xf2, xf3, xf4, xf5, xf6, xf7, xf8, xf9, xf10, xf11, xf12, xf13, xf14, xf15, xf16, xf17, xf18, xf19, xf20, xf21, xf22, xf23, xf24, xf25, xf26, xf27⟩ := rfs h0
    have rw := ax_row hrow
    have b2 : f2 (r + 14 + w) = tC S w := B2.2.2.2.1 w hw
    simp (disch := omega) only [x_out, s_seq, s_ite, s_ret, s_retZ, s_retV, s_iasg, s_aasg, s_lasg, s_inc, s_put, s_putop, s_ast, s_astop, s_exp, s_call, s_skip, s_brk, s_cont, s_oinit, e_lit, e_long, e_il, e_al, e_ll, e_bin, e_un, e_fld, e_ald, e_tern, e_call, e_alen, b_cmp, b_cmp0, b_lcmp, b_and, b_or, b_not, o_add, o_sub, o_mul, o_and, o_or, o_xor, o_shl, o_shr, o_neg, o_i2l, o_l2i, o_i2c, r_eq, r_ne, r_lt, r_ge, r_gt, r_le, r_eq0, r_ne0, r_lt0, r_ge0, r_gt0, r_le0, x_int, x_ref, x_long, x_args, x_nar, xKd, xst1, xst2, xlg, Option.bind_some, Option.bind_none, Option.map_some, Option.map_none, List.getElem?_cons_zero, List.getElem?_cons_succ, List.set_cons_zero, List.set_cons_succ, List.length_cons, List.length_nil, List.length_map, List.length_range, List.length_set, decide_eq_true_eq, if_true, if_false, reduceIte, reduceCtorEq, Bool.not_true, Bool.not_false, Bool.false_eq_true, x_ix_nI, ax_get, ax_set, e_aald, s_aast, true_and, and_true, ite_true, ite_false, ↓bI_01, bI_eq0, bI_eq1, bool_or, tern_pure, and_pure, or_pure, bI_def, bne_t, ndf, decide_not, Bool.decide_eq_true, Bool.decide_and, Bool.decide_or, Nat.reduceEqDiff, Nat.reduceAdd, Nat.reduceMul, Nat.reduceSub, Nat.reduceLT, Nat.reduceLeDiff, or_false, false_or, or_true, true_or, and_false, false_and, Bool.or_eq_true, Bool.and_eq_true, Bool.or_false, Bool.or_true, Bool.true_or, Bool.false_or, Bool.and_true, Bool.and_false, Bool.true_and, Bool.false_and, decide_true, decide_false, not_true_eq_false, not_false_eq_true, xf0, xf1, xf2, xf3, xf4, xf5, xf6, xf7, xf8, xf9, xf10, xf11, xf12, xf13, xf14, xf15, xf16, xf17, xf18, xf19, xf20, xf21, xf22, xf23, xf24, xf25, xf26, xf27, l14, nI_add, rw, b2, i14, e6, ax_def]
  generalize h2.set 107 (arr 696 (upd f2 (r + 14 + w) (tC S w + nI (pG P w s)))) = h3 at V3 F3 s4
  generalize upd f2 (r + 14 + w) (tC S w + nI (pG P w s)) = f3 at V3 B3 G3
  have Fr3 := (Fr2.trans F3).mono (J := fun b => b = 107) fun b hb => hb.elim id id
  -- the account
  obtain ⟨V4, F4⟩ := V3.put (upd f3 (r + 22 + 9 * w + s) (Int32.ofInt (tA S (9 * w + s) + (if pA P s = tP S w then 1 else -1))))
  have B4 := B3.setA O hw hs (tA S (9 * w + s) + (if pA P s = tP S w then 1 else -1))
  have G4 := G3.put1 (k := r + 22 + 9 * w + s) (by omega) (by omega) (Int32.ofInt (tA S (9 * w + s) + (if pA P s = tP S w then 1 else -1)))
  have s5 : (s_astop o_add (e_fld 10 0 (e_al 0)) (e_bin o_add (e_bin o_add (e_bin o_add (e_il 1) (e_lit 22)) (e_bin o_mul (e_lit 9) (e_il 2))) (e_il 3)) (e_tern (b_cmp0 r_ne0 (e_il 4)) (e_lit 1) (e_lit (-1)))) [some (.ref 106), some (.int (nI r)), some (.int (nI w)), some (.int (nI s)), some (.int (bI (decide (pA P s = tP S w))))] h3 = some (none, [some (.ref 106), some (.int (nI r)), some (.int (nI w)), some (.int (nI s)), some (.int (bI (decide (pA P s = tP S w))))], h3.set 107 (arr 696 (upd f3 (r + 22 + 9 * w + s) (Int32.ofInt (tA S (9 * w + s) + (if pA P s = tP S w then 1 else -1)))))) := by
    obtain ⟨⟨q, k, sn, tx, z, h0⟩, hrow, -⟩ := id V3
    have h0 : h3[106]? = some (.inl (10, _)) := h0
    obtain ⟨xf0, xf1, xf2, xf3, xf4, xf5, xf6, xf7, xf8, xf9, xf10, xf11, xf12, xf13, xf14, xf15, xf16, xf17, xf18, xf19, xf20, xf21, xf22, xf23, xf24, xf25, xf26, xf27⟩ := rfs h0
    have rw := ax_row hrow
    have b2 : f3 (r + 22 + 9 * w + s) = Int32.ofInt (tA S (9 * w + s)) := B3.2.2.2.2.2 w hw s hs
    by_cases y : pA P s = tP S w
    · have e9 : Int32.ofInt (tA S (9 * w + s)) + 1 = Int32.ofInt (tA S (9 * w + s) + 1) := oI_add _ 1
      simp (disch := omega) only [x_out, s_seq, s_ite, s_ret, s_retZ, s_retV, s_iasg, s_aasg, s_lasg, s_inc, s_put, s_putop, s_ast, s_astop, s_exp, s_call, s_skip, s_brk, s_cont, s_oinit, e_lit, e_long, e_il, e_al, e_ll, e_bin, e_un, e_fld, e_ald, e_tern, e_call, e_alen, b_cmp, b_cmp0, b_lcmp, b_and, b_or, b_not, o_add, o_sub, o_mul, o_and, o_or, o_xor, o_shl, o_shr, o_neg, o_i2l, o_l2i, o_i2c, r_eq, r_ne, r_lt, r_ge, r_gt, r_le, r_eq0, r_ne0, r_lt0, r_ge0, r_gt0, r_le0, x_int, x_ref, x_long, x_args, x_nar, xKd, xst1, xst2, xlg, Option.bind_some, Option.bind_none, Option.map_some, Option.map_none, List.getElem?_cons_zero, List.getElem?_cons_succ, List.set_cons_zero, List.set_cons_succ, List.length_cons, List.length_nil, List.length_map, List.length_range, List.length_set, decide_eq_true_eq, if_true, if_false, reduceIte, reduceCtorEq, Bool.not_true, Bool.not_false, Bool.false_eq_true, x_ix_nI, ax_get, ax_set, e_aald, s_aast, true_and, and_true, ite_true, ite_false, ↓bI_01, bI_eq0, bI_eq1, bool_or, tern_pure, and_pure, or_pure, bI_def, bne_t, ndf, decide_not, Bool.decide_eq_true, Bool.decide_and, Bool.decide_or, Nat.reduceEqDiff, Nat.reduceAdd, Nat.reduceMul, Nat.reduceSub, Nat.reduceLT, Nat.reduceLeDiff, or_false, false_or, or_true, true_or, and_false, false_and, Bool.or_eq_true, Bool.and_eq_true, Bool.or_false, Bool.or_true, Bool.true_or, Bool.false_or, Bool.and_true, Bool.and_false, Bool.true_and, Bool.false_and, decide_true, decide_false, not_true_eq_false, not_false_eq_true, xf0, xf1, xf2, xf3, xf4, xf5, xf6, xf7, xf8, xf9, xf10, xf11, xf12, xf13, xf14, xf15, xf16, xf17, xf18, xf19, xf20, xf21, xf22, xf23, xf24, xf25, xf26, xf27, l22, l9, nI_m, nI_add, rw, b2, i22, y, ax_def, e9]
    · have e9 : Int32.ofInt (tA S (9 * w + s)) + -1 = Int32.ofInt (tA S (9 * w + s) + -1) := by
        rw [show (-1 : Int32) = Int32.ofInt (-1) by decide]
        exact oI_add _ _
      simp (disch := omega) only [x_out, s_seq, s_ite, s_ret, s_retZ, s_retV, s_iasg, s_aasg, s_lasg, s_inc, s_put, s_putop, s_ast, s_astop, s_exp, s_call, s_skip, s_brk, s_cont, s_oinit, e_lit, e_long, e_il, e_al, e_ll, e_bin, e_un, e_fld, e_ald, e_tern, e_call, e_alen, b_cmp, b_cmp0, b_lcmp, b_and, b_or, b_not, o_add, o_sub, o_mul, o_and, o_or, o_xor, o_shl, o_shr, o_neg, o_i2l, o_l2i, o_i2c, r_eq, r_ne, r_lt, r_ge, r_gt, r_le, r_eq0, r_ne0, r_lt0, r_ge0, r_gt0, r_le0, x_int, x_ref, x_long, x_args, x_nar, xKd, xst1, xst2, xlg, Option.bind_some, Option.bind_none, Option.map_some, Option.map_none, List.getElem?_cons_zero, List.getElem?_cons_succ, List.set_cons_zero, List.set_cons_succ, List.length_cons, List.length_nil, List.length_map, List.length_range, List.length_set, decide_eq_true_eq, if_true, if_false, reduceIte, reduceCtorEq, Bool.not_true, Bool.not_false, Bool.false_eq_true, x_ix_nI, ax_get, ax_set, e_aald, s_aast, true_and, and_true, ite_true, ite_false, ↓bI_01, bI_eq0, bI_eq1, bool_or, tern_pure, and_pure, or_pure, bI_def, bne_t, ndf, decide_not, Bool.decide_eq_true, Bool.decide_and, Bool.decide_or, Nat.reduceEqDiff, Nat.reduceAdd, Nat.reduceMul, Nat.reduceSub, Nat.reduceLT, Nat.reduceLeDiff, or_false, false_or, or_true, true_or, and_false, false_and, Bool.or_eq_true, Bool.and_eq_true, Bool.or_false, Bool.or_true, Bool.true_or, Bool.false_or, Bool.and_true, Bool.and_false, Bool.true_and, Bool.false_and, decide_true, decide_false, not_true_eq_false, not_false_eq_true, xf0, xf1, xf2, xf3, xf4, xf5, xf6, xf7, xf8, xf9, xf10, xf11, xf12, xf13, xf14, xf15, xf16, xf17, xf18, xf19, xf20, xf21, xf22, xf23, xf24, xf25, xf26, xf27, l22, l9, nI_m, nI_add, rw, b2, i22, y, ax_def, e9]
  generalize h3.set 107 (arr 696 (upd f3 (r + 22 + 9 * w + s) (Int32.ofInt (tA S (9 * w + s) + (if pA P s = tP S w then 1 else -1))))) = h4 at V4 F4 s5
  generalize upd f3 (r + 22 + 9 * w + s) (Int32.ofInt (tA S (9 * w + s) + (if pA P s = tP S w then 1 else -1))) = f4 at V4 B4 G4
  have Fr4 := (Fr3.trans F4).mono (J := fun b => b = 107) fun b hb => hb.elim id id
  -- the latest
  obtain ⟨V5, F5⟩ := V4.put (upd f4 (r + 18 + w) (nI s))
  have B5 := B4.setL O hw (nI s)
  have G5 := G4.put1 (k := r + 18 + w) (by omega) (by omega) (nI s)
  have s6 : (s_ast 0 (e_fld 10 0 (e_al 0)) (e_bin o_add (e_bin o_add (e_il 1) (e_lit 18)) (e_il 2)) (e_il 3)) [some (.ref 106), some (.int (nI r)), some (.int (nI w)), some (.int (nI s)), some (.int (bI (decide (pA P s = tP S w))))] h4 = some (none, [some (.ref 106), some (.int (nI r)), some (.int (nI w)), some (.int (nI s)), some (.int (bI (decide (pA P s = tP S w))))], h4.set 107 (arr 696 (upd f4 (r + 18 + w) (nI s)))) := by
    obtain ⟨⟨q, k, sn, tx, z, h0⟩, hrow, -⟩ := id V4
    have h0 : h4[106]? = some (.inl (10, _)) := h0
    obtain ⟨xf0, xf1, xf2, xf3, xf4, xf5, xf6, xf7, xf8, xf9, xf10, xf11, xf12, xf13, xf14, xf15, xf16, xf17, xf18, xf19, xf20, xf21, xf22, xf23, xf24, xf25, xf26, xf27⟩ := rfs h0
    have rw := ax_row hrow
    simp (disch := omega) only [x_out, s_seq, s_ite, s_ret, s_retZ, s_retV, s_iasg, s_aasg, s_lasg, s_inc, s_put, s_putop, s_ast, s_astop, s_exp, s_call, s_skip, s_brk, s_cont, s_oinit, e_lit, e_long, e_il, e_al, e_ll, e_bin, e_un, e_fld, e_ald, e_tern, e_call, e_alen, b_cmp, b_cmp0, b_lcmp, b_and, b_or, b_not, o_add, o_sub, o_mul, o_and, o_or, o_xor, o_shl, o_shr, o_neg, o_i2l, o_l2i, o_i2c, r_eq, r_ne, r_lt, r_ge, r_gt, r_le, r_eq0, r_ne0, r_lt0, r_ge0, r_gt0, r_le0, x_int, x_ref, x_long, x_args, x_nar, xKd, xst1, xst2, xlg, Option.bind_some, Option.bind_none, Option.map_some, Option.map_none, List.getElem?_cons_zero, List.getElem?_cons_succ, List.set_cons_zero, List.set_cons_succ, List.length_cons, List.length_nil, List.length_map, List.length_range, List.length_set, decide_eq_true_eq, if_true, if_false, reduceIte, reduceCtorEq, Bool.not_true, Bool.not_false, Bool.false_eq_true, x_ix_nI, ax_get, ax_set, e_aald, s_aast, true_and, and_true, ite_true, ite_false, ↓bI_01, bI_eq0, bI_eq1, bool_or, tern_pure, and_pure, or_pure, bI_def, bne_t, ndf, decide_not, Bool.decide_eq_true, Bool.decide_and, Bool.decide_or, Nat.reduceEqDiff, Nat.reduceAdd, Nat.reduceMul, Nat.reduceSub, Nat.reduceLT, Nat.reduceLeDiff, or_false, false_or, or_true, true_or, and_false, false_and, Bool.or_eq_true, Bool.and_eq_true, Bool.or_false, Bool.or_true, Bool.true_or, Bool.false_or, Bool.and_true, Bool.and_false, Bool.true_and, Bool.false_and, decide_true, decide_false, not_true_eq_false, not_false_eq_true, xf0, xf1, xf2, xf3, xf4, xf5, xf6, xf7, xf8, xf9, xf10, xf11, xf12, xf13, xf14, xf15, xf16, xf17, xf18, xf19, xf20, xf21, xf22, xf23, xf24, xf25, xf26, xf27, l18, nI_add, rw, i18, ax_def]
  generalize h4.set 107 (arr 696 (upd f4 (r + 18 + w) (nI s))) = h5 at V5 F5 s6
  generalize upd f4 (r + 18 + w) (nI s) = f5 at V5 B5 G5
  have Fr5 := (Fr4.trans F5).mono (J := fun b => b = 107) fun b hb => hb.elim id id
  -- the treads
  obtain ⟨V6, F6⟩ := V5.put (upd f5 r (tT S + 1))
  have B6 := B5.setT O (tT S + 1)
  have G6 := G5.put1 (k := r) (by omega) (by omega) (tT S + 1)
  have s7 : (s_astop o_add (e_fld 10 0 (e_al 0)) (e_bin o_add (e_il 1) (e_lit 0)) (e_lit 1)) [some (.ref 106), some (.int (nI r)), some (.int (nI w)), some (.int (nI s)), some (.int (bI (decide (pA P s = tP S w))))] h5 = some (none, [some (.ref 106), some (.int (nI r)), some (.int (nI w)), some (.int (nI s)), some (.int (bI (decide (pA P s = tP S w))))], h5.set 107 (arr 696 (upd f5 r (tT S + 1)))) := by
    obtain ⟨⟨q, k, sn, tx, z, h0⟩, hrow, -⟩ := id V5
    have h0 : h5[106]? = some (.inl (10, _)) := h0
    obtain ⟨xf0, xf1, xf2, xf3, xf4, xf5, xf6, xf7, xf8, xf9, xf10, xf11, xf12, xf13, xf14, xf15, xf16, xf17, xf18, xf19, xf20, xf21, xf22, xf23, xf24, xf25, xf26, xf27⟩ := rfs h0
    have rw := ax_row hrow
    have b2 : f5 r = tT S := B5.1
    simp (disch := omega) only [x_out, s_seq, s_ite, s_ret, s_retZ, s_retV, s_iasg, s_aasg, s_lasg, s_inc, s_put, s_putop, s_ast, s_astop, s_exp, s_call, s_skip, s_brk, s_cont, s_oinit, e_lit, e_long, e_il, e_al, e_ll, e_bin, e_un, e_fld, e_ald, e_tern, e_call, e_alen, b_cmp, b_cmp0, b_lcmp, b_and, b_or, b_not, o_add, o_sub, o_mul, o_and, o_or, o_xor, o_shl, o_shr, o_neg, o_i2l, o_l2i, o_i2c, r_eq, r_ne, r_lt, r_ge, r_gt, r_le, r_eq0, r_ne0, r_lt0, r_ge0, r_gt0, r_le0, x_int, x_ref, x_long, x_args, x_nar, xKd, xst1, xst2, xlg, Option.bind_some, Option.bind_none, Option.map_some, Option.map_none, List.getElem?_cons_zero, List.getElem?_cons_succ, List.set_cons_zero, List.set_cons_succ, List.length_cons, List.length_nil, List.length_map, List.length_range, List.length_set, decide_eq_true_eq, if_true, if_false, reduceIte, reduceCtorEq, Bool.not_true, Bool.not_false, Bool.false_eq_true, x_ix_nI, ax_get, ax_set, e_aald, s_aast, true_and, and_true, ite_true, ite_false, ↓bI_01, bI_eq0, bI_eq1, bool_or, tern_pure, and_pure, or_pure, bI_def, bne_t, ndf, decide_not, Bool.decide_eq_true, Bool.decide_and, Bool.decide_or, Nat.reduceEqDiff, Nat.reduceAdd, Nat.reduceMul, Nat.reduceSub, Nat.reduceLT, Nat.reduceLeDiff, or_false, false_or, or_true, true_or, and_false, false_and, Bool.or_eq_true, Bool.and_eq_true, Bool.or_false, Bool.or_true, Bool.true_or, Bool.false_or, Bool.and_true, Bool.and_false, Bool.true_and, Bool.false_and, decide_true, decide_false, not_true_eq_false, not_false_eq_true, xf0, xf1, xf2, xf3, xf4, xf5, xf6, xf7, xf8, xf9, xf10, xf11, xf12, xf13, xf14, xf15, xf16, xf17, xf18, xf19, xf20, xf21, xf22, xf23, xf24, xf25, xf26, xf27, Int32.add_zero, rw, b2, i00, ax_def]
  refine ⟨_, _, ?_, V6, B6.val rfl (fun _ _ => rfl) (fun _ _ => rfl) (fun _ _ => rfl) (fun _ _ => rfl) (fun w' _ j _ => ?_), G6, (Fr5.trans F6).mono fun b hb => hb.elim id id⟩
  · refine xM_run (env := [some (.ref 106), some (.int (nI r)), some (.int (nI w)), some (.int (nI s)), none]) h00 rfl rfl (Nat.le_of_ble_eq_true rfl) rfl ?_ rfl
    simp only [bd_X10_goes, s_seq, s1, s2, s3, s4, s5, s6, s7, s_retV, Option.bind_some, x_out, Option.map_some]
  · show (if 9 * w' + j = 9 * w + s then tA S (9 * w + s) + (if pA P s = tP S w then 1 else -1) else tA S (9 * w' + j)) = if 9 * w' + j = 9 * w + s then tA S (9 * w' + j) + (if pA P s = tP S w then 1 else -1) else tA S (9 * w' + j)
    split
    · rename_i y; rw [y]
    · rfl
end CP
