/-! a state: which stile is the so-manieth that can be gone over; which accounts are not 0; what is written -/
def lst (p : Nat → Bool) : Nat → Nat
  | 0 => 0
  | n + 1 => if p n = true then n else lst p n
theorem cnt_mono (p : Nat → Bool) {i j : Nat} (h : i ≤ j) : cnt p i ≤ cnt p j := by
  induction h with
  | refl => exact Nat.le_refl _
  | step _ ih =>
    simp only [cnt]
    omega
theorem cnt_has (p : Nat → Bool) : ∀ (n k : Nat), k < cnt p n → ∃ s, s < n ∧ p s = true ∧ cnt p s = k := by
  intro n
  induction n with
  | zero => intro k h; simp [cnt] at h
  | succ n ih =>
    intro k h
    simp only [cnt] at h
    by_cases hk : k < cnt p n
    · obtain ⟨s, h1, h2, h3⟩ := ih k hk
      exact ⟨s, by omega, h2, h3⟩
    · cases hp : p n with
      | true =>
        simp [hp] at h
        exact ⟨n, by omega, hp, by omega⟩
      | false =>
        simp [hp] at h
        omega
theorem oI_eq0 {x : Int} (h1 : -1000 ≤ x) (h2 : x ≤ 1000) : (Int32.ofInt x = 0) = (x = 0) := by
  apply propext
  constructor
  · intro h
    have := congrArg Int32.toInt h
    rw [Int32.toInt_ofInt_of_le (by simp; omega) (by simp; omega)] at this
    simpa using this
  · intro h
    subst h
    rfl
section ST2
variable {h : XH} {a c : Nat} {P : XP} {S : XT}
theorem openStileAt_x (HP : PAt h 11 P) (O : POK P) (H : SAt h a S) (T : TOK P c S) {f k : Nat} (hf : f < 2 ^ 30) (hk : k < pN P) (hp : sOp P S f k = true) : m_X6_openStileAt [.ref a, .int (nI f), .int (nI (cnt (sOp P S f) k))] h = some (some (.int (nI k)), h) := by
  have p0 := HP.1
  have e1 := fun (s : Nat) (hs : s < pN P) => isOpenAt_x HP O H T hs hf
  have h0 := H.1
  have o5 := O.2.2.2.2.1
  have hck := cnt_le (sOp P S f) k
  have hs : ∀ i, cnt (sOp P S f) i ≤ i := cnt_le _
  have hl := s_loop_run (c := lc_X6_openStileAt_1) (a := la_X6_openStileAt_1) (u := lu_X6_openStileAt_1) (fun i => ([some (.ref a), some (.int (nI f)), some (.int (nI (cnt (sOp P S f) k))), some (.int (nI (lst (sOp P S f) i))), some (.int (nI (cnt (sOp P S f) i))), some (.int (nI i))], h)) (none, [some (.ref a), some (.int (nI f)), some (.int (nI (cnt (sOp P S f) k))), some (.int (nI (lst (sOp P S f) (k + 1)))), some (.int (nI (cnt (sOp P S f) (k + 1)))), some (.int (nI (k + 1)))], h) (k + 1) 1000 (by omega)
    (fun i hi => by
      have e2 := e1 i (by omega)
      have hin : i < pN P := by omega
      have hm := cnt_mono (sOp P S f) (show i ≤ k by omega)
      have hsi := hs i
      cases q : sOp P S f i <;>
        simp (disch := omega) only [lc_X6_openStileAt_1, la_X6_openStileAt_1, lu_X6_openStileAt_1, s_step, x_out, s_seq, s_ite, s_ret, s_retZ, s_retV, s_iasg, s_aasg, s_lasg, s_inc, s_put, s_putop, s_ast, s_astop, s_exp, s_call, s_skip, s_brk, s_cont, s_oinit, e_lit, e_long, e_il, e_al, e_ll, e_bin, e_un, e_fld, e_ald, e_tern, e_call, e_alen, b_cmp, b_cmp0, b_lcmp, b_and, b_or, b_not, o_add, o_sub, o_mul, o_and, o_or, o_xor, o_shl, o_shr, o_neg, o_i2l, o_l2i, o_i2c, r_eq, r_ne, r_lt, r_ge, r_gt, r_le, r_eq0, r_ne0, r_lt0, r_ge0, r_gt0, r_le0, x_fld, x_int, x_ref, x_long, x_args, x_nar, xKd, xst1, xst2, xlg, Option.bind_some, Option.bind_none, Option.map_some, Option.map_none, List.getElem?_cons_zero, List.getElem?_cons_succ, List.set_cons_zero, List.set_cons_succ, List.length_cons, List.length_nil, List.length_map, List.length_range, List.length_set, decide_eq_true_eq, if_true, if_false, reduceIte, reduceCtorEq, Bool.not_true, Bool.not_false, Bool.false_eq_true, x_ix_nI, ax_get, ax_set, e_aald, s_aast, true_and, and_true, ite_true, ite_false, ↓bI_01, bI_eq0, bI_eq1, bool_or, tern_pure, and_pure, or_pure, bI_def, bne_t, ndf, decide_not, Bool.decide_eq_true, Bool.decide_and, Bool.decide_or, Nat.reduceEqDiff, Nat.reduceAdd, Nat.reduceMul, Nat.reduceSub, Nat.reduceLT, Nat.reduceLeDiff, or_false, false_or, or_true, true_or, and_false, false_and, Bool.or_eq_true, Bool.and_eq_true, Bool.or_false, Bool.or_true, Bool.true_or, Bool.false_or, Bool.and_true, Bool.and_false, Bool.true_and, Bool.false_and, decide_true, decide_false, not_true_eq_false, not_false_eq_true, nI_ltI, nI_leI, nI_1, h0, p0, hin, hm, e2, q, cnt, lst, Nat.add_zero])
    (by
      have hm : ¬ (cnt (sOp P S f) (k + 1) ≤ cnt (sOp P S f) k) := by simp [cnt, hp]
      have hb := hs (k + 1)
      by_cases hkn : k + 1 < pN P <;>
      simp (disch := omega) only [lc_X6_openStileAt_1, la_X6_openStileAt_1, lu_X6_openStileAt_1, s_step, x_out, s_seq, s_ite, s_ret, s_retZ, s_retV, s_iasg, s_aasg, s_lasg, s_inc, s_put, s_putop, s_ast, s_astop, s_exp, s_call, s_skip, s_brk, s_cont, s_oinit, e_lit, e_long, e_il, e_al, e_ll, e_bin, e_un, e_fld, e_ald, e_tern, e_call, e_alen, b_cmp, b_cmp0, b_lcmp, b_and, b_or, b_not, o_add, o_sub, o_mul, o_and, o_or, o_xor, o_shl, o_shr, o_neg, o_i2l, o_l2i, o_i2c, r_eq, r_ne, r_lt, r_ge, r_gt, r_le, r_eq0, r_ne0, r_lt0, r_ge0, r_gt0, r_le0, x_fld, x_int, x_ref, x_long, x_args, x_nar, xKd, xst1, xst2, xlg, Option.bind_some, Option.bind_none, Option.map_some, Option.map_none, List.getElem?_cons_zero, List.getElem?_cons_succ, List.set_cons_zero, List.set_cons_succ, List.length_cons, List.length_nil, List.length_map, List.length_range, List.length_set, decide_eq_true_eq, if_true, if_false, reduceIte, reduceCtorEq, Bool.not_true, Bool.not_false, Bool.false_eq_true, x_ix_nI, ax_get, ax_set, e_aald, s_aast, true_and, and_true, ite_true, ite_false, ↓bI_01, bI_eq0, bI_eq1, bool_or, tern_pure, and_pure, or_pure, bI_def, bne_t, ndf, decide_not, Bool.decide_eq_true, Bool.decide_and, Bool.decide_or, Nat.reduceEqDiff, Nat.reduceAdd, Nat.reduceMul, Nat.reduceSub, Nat.reduceLT, Nat.reduceLeDiff, or_false, false_or, or_true, true_or, and_false, false_and, Bool.or_eq_true, Bool.and_eq_true, Bool.or_false, Bool.or_true, Bool.true_or, Bool.false_or, Bool.and_true, Bool.and_false, Bool.true_and, Bool.false_and, decide_true, decide_false, not_true_eq_false, not_false_eq_true, nI_ltI, nI_leI, h0, p0, hm, hkn])
  simp only [cnt, lst, nI_0, hp, if_true] at hl
  refine xM_run (env := [some (.ref a), some (.int (nI f)), some (.int (nI (cnt (sOp P S f) k))), none, none, none]) h0 rfl rfl (Nat.le_of_ble_eq_true rfl) rfl ?_ rfl
  simp (disch := omega) only [bd_X6_openStileAt, x_out, s_seq, s_ite, s_ret, s_retZ, s_retV, s_iasg, s_aasg, s_lasg, s_inc, s_put, s_putop, s_ast, s_astop, s_exp, s_call, s_skip, s_brk, s_cont, s_oinit, e_lit, e_long, e_il, e_al, e_ll, e_bin, e_un, e_fld, e_ald, e_tern, e_call, e_alen, b_cmp, b_cmp0, b_lcmp, b_and, b_or, b_not, o_add, o_sub, o_mul, o_and, o_or, o_xor, o_shl, o_shr, o_neg, o_i2l, o_l2i, o_i2c, r_eq, r_ne, r_lt, r_ge, r_gt, r_le, r_eq0, r_ne0, r_lt0, r_ge0, r_gt0, r_le0, x_fld, x_int, x_ref, x_long, x_args, x_nar, xKd, xst1, xst2, xlg, Option.bind_some, Option.bind_none, Option.map_some, Option.map_none, List.getElem?_cons_zero, List.getElem?_cons_succ, List.set_cons_zero, List.set_cons_succ, List.length_cons, List.length_nil, List.length_map, List.length_range, List.length_set, decide_eq_true_eq, if_true, if_false, reduceIte, reduceCtorEq, Bool.not_true, Bool.not_false, Bool.false_eq_true, x_ix_nI, ax_get, ax_set, e_aald, s_aast, true_and, and_true, ite_true, ite_false, ↓bI_01, bI_eq0, bI_eq1, bool_or, tern_pure, and_pure, or_pure, bI_def, bne_t, ndf, decide_not, Bool.decide_eq_true, Bool.decide_and, Bool.decide_or, Nat.reduceEqDiff, Nat.reduceAdd, Nat.reduceMul, Nat.reduceSub, Nat.reduceLT, Nat.reduceLeDiff, or_false, false_or, or_true, true_or, and_false, false_and, Bool.or_eq_true, Bool.and_eq_true, Bool.or_false, Bool.or_true, Bool.true_or, Bool.false_or, Bool.and_true, Bool.and_false, Bool.true_and, Bool.false_and, decide_true, decide_false, not_true_eq_false, not_false_eq_true, hl]
/-- the accounts that are not 0 -/
def sUn (S : XT) (w s : Nat) : Bool := decide (¬ tA S (9 * w + s) = 0)
theorem unevenStiles_x (HP : PAt h 11 P) (O : POK P) (H : SAt h a S) (T : TOK P c S) (hc : c ≤ 1000) {w : Nat} (hw : w < 4) : m_X6_unevenStiles [.ref a, .int (nI w)] h = some (some (.int (nI (mk (sUn S w) (pN P)))), h) := by
  have p0 := HP.1
  have e1 := fun (s : Nat) (hs : s < 9) => accountOf_x H hw hs
  have h0 := H.1
  have o5 := O.2.2.2.2.1
  have hl := s_loop_run (c := lc_X6_unevenStiles_1) (a := la_X6_unevenStiles_1) (u := lu_X6_unevenStiles_1) (fun i => ([some (.ref a), some (.int (nI w)), some (.int (nI (mk (sUn S w) i))), some (.int (nI i))], h)) (none, [some (.ref a), some (.int (nI w)), some (.int (nI (mk (sUn S w) (pN P)))), some (.int (nI (pN P)))], h) (pN P) 1000 (by omega)
    (fun i hi => by
      have e2 := e1 i (by omega)
      have t3 := T.2.2 (9 * w + i) (by omega)
      have e3 := oI_eq0 (x := tA S (9 * w + i)) (by omega) (by omega)
      have hml := mk_lt (sUn S w) i
      have hm2 : mk (sUn S w) i < 512 := Nat.lt_of_lt_of_le hml (Nat.le_trans (Nat.pow_le_pow_right (by decide) (show i ≤ 9 by omega)) (by decide))
      have hor := or_bit i (by omega) _ hm2 hml
      by_cases q : tA S (9 * w + i) = 0
      · have e4 : (Int32.ofInt (tA S (9 * w + i)) = 0) = True := by rw [e3]; exact eq_true q
        have s4 : sUn S w i = false := by simp [sUn, q]
        simp (disch := omega) only [lc_X6_unevenStiles_1, la_X6_unevenStiles_1, lu_X6_unevenStiles_1, s_step, x_out, s_seq, s_ite, s_ret, s_retZ, s_retV, s_iasg, s_aasg, s_lasg, s_inc, s_put, s_putop, s_ast, s_astop, s_exp, s_call, s_skip, s_brk, s_cont, s_oinit, e_lit, e_long, e_il, e_al, e_ll, e_bin, e_un, e_fld, e_ald, e_tern, e_call, e_alen, b_cmp, b_cmp0, b_lcmp, b_and, b_or, b_not, o_add, o_sub, o_mul, o_and, o_or, o_xor, o_shl, o_shr, o_neg, o_i2l, o_l2i, o_i2c, r_eq, r_ne, r_lt, r_ge, r_gt, r_le, r_eq0, r_ne0, r_lt0, r_ge0, r_gt0, r_le0, x_fld, x_int, x_ref, x_long, x_args, x_nar, xKd, xst1, xst2, xlg, Option.bind_some, Option.bind_none, Option.map_some, Option.map_none, List.getElem?_cons_zero, List.getElem?_cons_succ, List.set_cons_zero, List.set_cons_succ, List.length_cons, List.length_nil, List.length_map, List.length_range, List.length_set, decide_eq_true_eq, if_true, if_false, reduceIte, reduceCtorEq, Bool.not_true, Bool.not_false, Bool.false_eq_true, x_ix_nI, ax_get, ax_set, e_aald, s_aast, true_and, and_true, ite_true, ite_false, ↓bI_01, bI_eq0, bI_eq1, bool_or, tern_pure, and_pure, or_pure, bI_def, bne_t, ndf, decide_not, Bool.decide_eq_true, Bool.decide_and, Bool.decide_or, Nat.reduceEqDiff, Nat.reduceAdd, Nat.reduceMul, Nat.reduceSub, Nat.reduceLT, Nat.reduceLeDiff, or_false, false_or, or_true, true_or, and_false, false_and, Bool.or_eq_true, Bool.and_eq_true, Bool.or_false, Bool.or_true, Bool.true_or, Bool.false_or, Bool.and_true, Bool.and_false, Bool.true_and, Bool.false_and, decide_true, decide_false, not_true_eq_false, not_false_eq_true, nI_ltI, nI_1, h0, p0, hi, e2, e4, s4, mk, Nat.add_zero]
      · have e4 : (Int32.ofInt (tA S (9 * w + i)) = 0) = False := by rw [e3]; exact eq_false q
        have s4 : sUn S w i = true := by simp [sUn, q]
        simp (disch := omega) only [lc_X6_unevenStiles_1, la_X6_unevenStiles_1, lu_X6_unevenStiles_1, s_step, x_out, s_seq, s_ite, s_ret, s_retZ, s_retV, s_iasg, s_aasg, s_lasg, s_inc, s_put, s_putop, s_ast, s_astop, s_exp, s_call, s_skip, s_brk, s_cont, s_oinit, e_lit, e_long, e_il, e_al, e_ll, e_bin, e_un, e_fld, e_ald, e_tern, e_call, e_alen, b_cmp, b_cmp0, b_lcmp, b_and, b_or, b_not, o_add, o_sub, o_mul, o_and, o_or, o_xor, o_shl, o_shr, o_neg, o_i2l, o_l2i, o_i2c, r_eq, r_ne, r_lt, r_ge, r_gt, r_le, r_eq0, r_ne0, r_lt0, r_ge0, r_gt0, r_le0, x_fld, x_int, x_ref, x_long, x_args, x_nar, xKd, xst1, xst2, xlg, Option.bind_some, Option.bind_none, Option.map_some, Option.map_none, List.getElem?_cons_zero, List.getElem?_cons_succ, List.set_cons_zero, List.set_cons_succ, List.length_cons, List.length_nil, List.length_map, List.length_range, List.length_set, decide_eq_true_eq, if_true, if_false, reduceIte, reduceCtorEq, Bool.not_true, Bool.not_false, Bool.false_eq_true, x_ix_nI, ax_get, ax_set, e_aald, s_aast, true_and, and_true, ite_true, ite_false, ↓bI_01, bI_eq0, bI_eq1, bool_or, tern_pure, and_pure, or_pure, bI_def, bne_t, ndf, decide_not, Bool.decide_eq_true, Bool.decide_and, Bool.decide_or, Nat.reduceEqDiff, Nat.reduceAdd, Nat.reduceMul, Nat.reduceSub, Nat.reduceLT, Nat.reduceLeDiff, or_false, false_or, or_true, true_or, and_false, false_and, Bool.or_eq_true, Bool.and_eq_true, Bool.or_false, Bool.or_true, Bool.true_or, Bool.false_or, Bool.and_true, Bool.and_false, Bool.true_and, Bool.false_and, decide_true, decide_false, not_true_eq_false, not_false_eq_true, nI_ltI, nI_1, h0, p0, hi, e2, e4, s4, mk, hor])
    (by simp (disch := omega) only [lc_X6_unevenStiles_1, la_X6_unevenStiles_1, lu_X6_unevenStiles_1, s_step, x_out, s_seq, s_ite, s_ret, s_retZ, s_retV, s_iasg, s_aasg, s_lasg, s_inc, s_put, s_putop, s_ast, s_astop, s_exp, s_call, s_skip, s_brk, s_cont, s_oinit, e_lit, e_long, e_il, e_al, e_ll, e_bin, e_un, e_fld, e_ald, e_tern, e_call, e_alen, b_cmp, b_cmp0, b_lcmp, b_and, b_or, b_not, o_add, o_sub, o_mul, o_and, o_or, o_xor, o_shl, o_shr, o_neg, o_i2l, o_l2i, o_i2c, r_eq, r_ne, r_lt, r_ge, r_gt, r_le, r_eq0, r_ne0, r_lt0, r_ge0, r_gt0, r_le0, x_fld, x_int, x_ref, x_long, x_args, x_nar, xKd, xst1, xst2, xlg, Option.bind_some, Option.bind_none, Option.map_some, Option.map_none, List.getElem?_cons_zero, List.getElem?_cons_succ, List.set_cons_zero, List.set_cons_succ, List.length_cons, List.length_nil, List.length_map, List.length_range, List.length_set, decide_eq_true_eq, if_true, if_false, reduceIte, reduceCtorEq, Bool.not_true, Bool.not_false, Bool.false_eq_true, x_ix_nI, ax_get, ax_set, e_aald, s_aast, true_and, and_true, ite_true, ite_false, ↓bI_01, bI_eq0, bI_eq1, bool_or, tern_pure, and_pure, or_pure, bI_def, bne_t, ndf, decide_not, Bool.decide_eq_true, Bool.decide_and, Bool.decide_or, Nat.reduceEqDiff, Nat.reduceAdd, Nat.reduceMul, Nat.reduceSub, Nat.reduceLT, Nat.reduceLeDiff, or_false, false_or, or_true, true_or, and_false, false_and, Bool.or_eq_true, Bool.and_eq_true, Bool.or_false, Bool.or_true, Bool.true_or, Bool.false_or, Bool.and_true, Bool.and_false, Bool.true_and, Bool.false_and, decide_true, decide_false, not_true_eq_false, not_false_eq_true, nI_ltI, h0, p0, Nat.lt_irrefl])
  simp only [mk, nI_0] at hl
  refine xM_run (env := [some (.ref a), some (.int (nI w)), none, none]) h0 rfl rfl (Nat.le_of_ble_eq_true rfl) rfl ?_ rfl
  simp (disch := omega) only [bd_X6_unevenStiles, x_out, s_seq, s_ite, s_ret, s_retZ, s_retV, s_iasg, s_aasg, s_lasg, s_inc, s_put, s_putop, s_ast, s_astop, s_exp, s_call, s_skip, s_brk, s_cont, s_oinit, e_lit, e_long, e_il, e_al, e_ll, e_bin, e_un, e_fld, e_ald, e_tern, e_call, e_alen, b_cmp, b_cmp0, b_lcmp, b_and, b_or, b_not, o_add, o_sub, o_mul, o_and, o_or, o_xor, o_shl, o_shr, o_neg, o_i2l, o_l2i, o_i2c, r_eq, r_ne, r_lt, r_ge, r_gt, r_le, r_eq0, r_ne0, r_lt0, r_ge0, r_gt0, r_le0, x_fld, x_int, x_ref, x_long, x_args, x_nar, xKd, xst1, xst2, xlg, Option.bind_some, Option.bind_none, Option.map_some, Option.map_none, List.getElem?_cons_zero, List.getElem?_cons_succ, List.set_cons_zero, List.set_cons_succ, List.length_cons, List.length_nil, List.length_map, List.length_range, List.length_set, decide_eq_true_eq, if_true, if_false, reduceIte, reduceCtorEq, Bool.not_true, Bool.not_false, Bool.false_eq_true, x_ix_nI, ax_get, ax_set, e_aald, s_aast, true_and, and_true, ite_true, ite_false, ↓bI_01, bI_eq0, bI_eq1, bool_or, tern_pure, and_pure, or_pure, bI_def, bne_t, ndf, decide_not, Bool.decide_eq_true, Bool.decide_and, Bool.decide_or, Nat.reduceEqDiff, Nat.reduceAdd, Nat.reduceMul, Nat.reduceSub, Nat.reduceLT, Nat.reduceLeDiff, or_false, false_or, or_true, true_or, and_false, false_and, Bool.or_eq_true, Bool.and_eq_true, Bool.or_false, Bool.or_true, Bool.true_or, Bool.false_or, Bool.and_true, Bool.and_false, Bool.true_and, Bool.false_and, decide_true, decide_false, not_true_eq_false, not_false_eq_true, hl]
theorem m_min_nI {x y : Nat} (hx : x < 2 ^ 31) (hy : y < 2 ^ 31) : m_min [.int (nI x), .int (nI y)] h = some (some (.int (nI (min x y))), h) := by
  unfold m_min
  simp only [nI_ltI hy hx]
  split
  · rw [Nat.min_eq_right (by omega)]
  · rw [Nat.min_eq_left (by omega)]
theorem SAt.setT (H : SAt h a S) (x : Int32) : SAt (h.set a (.inl (6, [.int x, .ref (a + 1), .ref (a + 2), .ref (a + 3), .ref (a + 4), .ref (a + 5), .ref 11]))) a (x, S.2) := by
  obtain ⟨h0, h1, h2, h3, h4, h5⟩ := H
  refine ⟨set_at h0, ?_, ?_, ?_, ?_, ?_⟩ <;> (rw [set_ne (by omega)]; assumption)
theorem SAt.setW (H : SAt h a S) {f : Nat → Int32} {g : Nat → Nat} (hfg : ∀ i, i < 9 → f i = nI (g i)) : SAt (h.set (a + 1) (arr 9 f)) a (tT S, g, tP S, tC S, tL S, tA S) := by
  obtain ⟨h0, h1, h2, h3, h4, h5⟩ := H
  rw [ax_ext hfg]
  refine ⟨?_, set_at h1, ?_, ?_, ?_, ?_⟩ <;> (rw [set_ne (by omega)]; assumption)
theorem SAt.setP (H : SAt h a S) {f : Nat → Int32} {g : Nat → Nat} (hfg : ∀ i, i < 4 → f i = nI (g i)) : SAt (h.set (a + 2) (arr 4 f)) a (tT S, tW S, g, tC S, tL S, tA S) := by
  obtain ⟨h0, h1, h2, h3, h4, h5⟩ := H
  rw [ax_ext hfg]
  refine ⟨?_, ?_, set_at h2, ?_, ?_, ?_⟩ <;> (rw [set_ne (by omega)]; assumption)
theorem SAt.setC (H : SAt h a S) {f g : Nat → Int32} (hfg : ∀ i, i < 4 → f i = g i) : SAt (h.set (a + 3) (arr 4 f)) a (tT S, tW S, tP S, g, tL S, tA S) := by
  obtain ⟨h0, h1, h2, h3, h4, h5⟩ := H
  rw [ax_ext hfg]
  refine ⟨?_, ?_, ?_, set_at h3, ?_, ?_⟩ <;> (rw [set_ne (by omega)]; assumption)
theorem SAt.setL (H : SAt h a S) {f g : Nat → Int32} (hfg : ∀ i, i < 4 → f i = g i) : SAt (h.set (a + 4) (arr 4 f)) a (tT S, tW S, tP S, tC S, g, tA S) := by
  obtain ⟨h0, h1, h2, h3, h4, h5⟩ := H
  rw [ax_ext hfg]
  refine ⟨?_, ?_, ?_, ?_, set_at h4, ?_⟩ <;> (rw [set_ne (by omega)]; assumption)
theorem SAt.setA (H : SAt h a S) {f : Nat → Int32} {g : Nat → Int} (hfg : ∀ i, i < 36 → f i = Int32.ofInt (g i)) : SAt (h.set (a + 5) (arr 36 f)) a (tT S, tW S, tP S, tC S, tL S, g) := by
  obtain ⟨h0, h1, h2, h3, h4, h5⟩ := H
  rw [ax_ext hfg]
  refine ⟨?_, ?_, ?_, ?_, ?_, set_at h5⟩ <;> (rw [set_ne (by omega)]; assumption)
theorem SAt.len (H : SAt h a S) : a + 5 < h.length := (List.getElem?_eq_some_iff.mp H.2.2.2.2.2).1
def sWear (S : XT) (s k : Nat) : XT := (tT S, fun i => if i = s then min (tW S s + k) 999 else tW S i, tP S, tC S, tL S, tA S)
def sCells (a : Nat) : Nat → Prop := fun b => a ≤ b ∧ b ≤ a + 5
theorem wearBy_x (H : SAt h a S) {s k : Nat} (t1 : tW S s ≤ 999) (hs : s < 9) (hk : k < 2 ^ 20) : ∃ h', m_X6_wearBy [.ref a, .int (nI s), .int (nI k)] h = some (none, h') ∧ SAt h' a (sWear S s k) ∧ xFr (sCells a) h h' := by
  have H0 := H
  obtain ⟨h0, h1, h2, h3, h4, h5⟩ := H
  have r1 := ax_row h1
  have hlen := H0.len
  refine ⟨h.set (a + 1) (arr 9 (upd (fun i => nI (tW S i)) s (nI (min (tW S s + k) 999)))), ?_, H0.setW (fun i hi => ?_), (xFr.set h1 (by simp [arr, xSz])).mono (fun b hb => by subst hb; exact ⟨by omega, by omega⟩)⟩
  · refine xM_run (env := [some (.ref a), some (.int (nI s)), some (.int (nI k))]) h0 rfl rfl (Nat.le_of_ble_eq_true rfl) rfl ?_ rfl
    simp (disch := omega) only [bd_X6_wearBy, x_out, s_seq, s_ite, s_ret, s_retZ, s_retV, s_iasg, s_aasg, s_lasg, s_inc, s_put, s_putop, s_ast, s_astop, s_exp, s_call, s_skip, s_brk, s_cont, s_oinit, e_lit, e_long, e_il, e_al, e_ll, e_bin, e_un, e_fld, e_ald, e_tern, e_call, e_alen, b_cmp, b_cmp0, b_lcmp, b_and, b_or, b_not, o_add, o_sub, o_mul, o_and, o_or, o_xor, o_shl, o_shr, o_neg, o_i2l, o_l2i, o_i2c, r_eq, r_ne, r_lt, r_ge, r_gt, r_le, r_eq0, r_ne0, r_lt0, r_ge0, r_gt0, r_le0, x_fld, x_int, x_ref, x_long, x_args, x_nar, xKd, xst1, xst2, xlg, Option.bind_some, Option.bind_none, Option.map_some, Option.map_none, List.getElem?_cons_zero, List.getElem?_cons_succ, List.set_cons_zero, List.set_cons_succ, List.length_cons, List.length_nil, List.length_map, List.length_range, List.length_set, decide_eq_true_eq, if_true, if_false, reduceIte, reduceCtorEq, Bool.not_true, Bool.not_false, Bool.false_eq_true, x_ix_nI, ax_get, ax_set, e_aald, s_aast, true_and, and_true, ite_true, ite_false, ↓bI_01, bI_eq0, bI_eq1, bool_or, tern_pure, and_pure, or_pure, bI_def, bne_t, ndf, decide_not, Bool.decide_eq_true, Bool.decide_and, Bool.decide_or, Nat.reduceEqDiff, Nat.reduceAdd, Nat.reduceMul, Nat.reduceSub, Nat.reduceLT, Nat.reduceLeDiff, or_false, false_or, or_true, true_or, and_false, false_and, Bool.or_eq_true, Bool.and_eq_true, Bool.or_false, Bool.or_true, Bool.true_or, Bool.false_or, Bool.and_true, Bool.and_false, Bool.true_and, Bool.false_and, decide_true, decide_false, not_true_eq_false, not_false_eq_true, l999, nI_add, h0, r1, m_min_nI, ax_def]
  · unfold upd
    split <;> rfl
end ST2
