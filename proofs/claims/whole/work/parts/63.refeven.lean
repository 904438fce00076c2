/-! the reference: by how few treads a walker is level -/
/-- the lots after so many stiles -/
def jn (P : XP) (s : Nat) (L : Nat → Nat) : Nat → Nat := fun f => if L f = L (pZ P s) then L (pA P s) else L f
def ltS (P : XP) (E : Nat → Bool) (n : Nat) : Nat → Nat := itr (fun s L => if E s = true then jn P s L else L) n (fun f => f)
theorem ltS_I {P : XP} {E : Nat → Bool} : ∀ n, n ≤ pN P → (∀ s, s < n → E s = true → ltS P E n (pA P s) = ltS P E n (pZ P s)) ∧ ∀ x y, ltS P E n x = ltS P E n y → cn P E x y := by
  intro n
  induction n with
  | zero => intro _; exact ⟨fun s hs => absurd hs (by omega), fun x y h => by
      have h : x = y := h
      rw [h]; exact cn_rf _ _ _⟩
  | succ n ih =>
    intro hn
    obtain ⟨i1, i2⟩ := ih (by omega)
    show (∀ s, s < n + 1 → E s = true → (if E n = true then jn P n (ltS P E n) else ltS P E n) (pA P s) = (if E n = true then jn P n (ltS P E n) else ltS P E n) (pZ P s)) ∧ ∀ x y, (if E n = true then jn P n (ltS P E n) else ltS P E n) x = (if E n = true then jn P n (ltS P E n) else ltS P E n) y → cn P E x y
    generalize ltS P E n = L at i1 i2 ⊢
    by_cases q : E n = true
    · rw [if_pos q]
      have ed : cn P E (pA P n) (pZ P n) := cn_st (by omega) q
      refine ⟨fun s hs he => ?_, fun x y h => ?_⟩
      · unfold jn
        by_cases e : s = n
        · subst e
          rw [if_pos rfl]
          split <;> rfl
        · have := i1 s (by omega) he
          rw [this]
      · unfold jn at h
        by_cases a : L x = L (pZ P n) <;> by_cases b : L y = L (pZ P n)
        · exact i2 x y (a.trans b.symm)
        · rw [if_pos a, if_neg b] at h
          exact cn_tr (i2 _ _ a) (cn_tr (cn_sy ed) (i2 _ _ h))
        · rw [if_neg a, if_pos b] at h
          exact cn_tr (i2 _ _ h) (cn_tr ed (i2 _ _ b.symm))
        · rw [if_neg a, if_neg b] at h
          exact i2 x y h
    · rw [if_neg q]
      refine ⟨fun s hs he => ?_, i2⟩
      by_cases e : s = n
      · subst e; exact absurd he q
      · exact i1 s (by omega) he
theorem ltS_iff {P : XP} {E : Nat → Bool} {x y : Nat} : ltS P E (pN P) x = ltS P E (pN P) y ↔ cn P E x y := by
  obtain ⟨i1, i2⟩ := ltS_I (P := P) (E := E) (pN P) (Nat.le_refl _)
  refine ⟨i2 x y, fun h => ?_⟩
  have := h (fun f => decide (ltS P E (pN P) f = ltS P E (pN P) x)) (fun s hs he => by simp only [i1 s hs he])
  simp only [decide_true] at this
  exact (of_decide_eq_true this.symm).symm
theorem ltS_B {P : XP} (O : POK P) {E : Nat → Bool} : ∀ n, n ≤ pN P → ∀ f, f < pF P → ltS P E n f < pF P := by
  intro n
  induction n with
  | zero => intro _ f hf; exact hf
  | succ n ih =>
    intro hn f hf
    have o := O.2.2.2.2.2.2.1 n (by omega)
    show (if E n = true then jn P n (ltS P E n) else ltS P E n) f < pF P
    split
    · unfold jn
      split
      · exact ih (by omega) _ o.2.1
      · exact ih (by omega) _ hf
    · exact ih (by omega) _ hf
def hgE (S : XT) (w set : Nat) : Nat → Bool := fun k => set.testBit k || sUn S w k
def hgB (P : XP) (S : XT) (w set : Nat) : Bool := ((List.range (pN P)).find? fun s => !(!sUn S w s || decide (ltS P (hgE S w set) (pN P) (pA P s) = ltS P (hgE S w set) (pN P) (tP S w)))).isNone
theorem hgB_iff {P : XP} {S : XT} {w set : Nat} : hgB P S w set = true ↔ haP P (sUn S w) (tP S w) set := by
  unfold hgB haP
  rw [find_isNone_iff]
  constructor
  · intro h s hs hu
    have := h s hs
    rw [hu] at this
    simp at this
    exact cn_sy (ltS_iff.mp this)
  · intro h s hs
    cases hu : sUn S w s with
    | false => rfl
    | true =>
      have := ltS_iff.mpr (cn_sy (h s hs hu))
      have : ltS P (hgE S w set) (pN P) (pA P s) = ltS P (hgE S w set) (pN P) (tP S w) := this
      simp [this]
section HM
variable {h : XH} {Y : XSy} {c : Nat} {P : XP} {S : XT} {f : Nat → Int32} {L : Nat → Nat}
def Lot (h : XH) (F : Nat) (L : Nat → Nat) : Prop := ∃ g, h[119]? = some (arr 8 g) ∧ ∀ f, f < F → g f = nI (L f)
theorem joins_r (V : RV h P f) (O : POK P) (KL : Lot h (pF P) L) (hL : ∀ f, f < pF P → L f < pF P) {s : Nat} (hs : s < pN P) : ∃ h', m_X10_joins [.ref 106, .int (nI s)] h = some (none, h') ∧ Lot h' (pF P) (jn P s L) ∧ xFr (fun b => b = 119) h h' := by
  have o2 := O.2.1
  obtain ⟨q1, q2, q3, q4⟩ := O.2.2.2.2.2.2.1 s hs
  obtain ⟨⟨q, kk, sn, tx, z, h0⟩, -, -, ⟨fa, pa, va⟩, ⟨fz, pz, vz⟩, -⟩ := id V
  have h0 : h[106]? = some (.inl (10, _)) := h0
  have hs9 : s < 9 := by have := O.2.2.2.2.1; omega
  have ez := vz s hs
  obtain ⟨g0, k1, k2⟩ := id KL
  have zl := k2 _ q3
  have s1 : (s_iasg 2 (e_ald 0 (e_fld 10 27 (e_al 0)) (e_ald 0 (e_fld 10 7 (e_al 0)) (e_il 1)))) [some (.ref 106), some (.int (nI s)), none, none] h = some (none, [some (.ref 106), some (.int (nI s)), some (.int (nI (L (pZ P s)))), none], h) := by
    have rz := ax_row pz
    have rl := ax_row k1
    have z8 : pZ P s < 8 := by omega
    obtain ⟨xf0, xf1, xf2, xf3, xf4, xf5, xf6, xf7, xf8, xf9, xf10, xf11, xf12, xf13, xf14, xf15, xf16, xf17, xf18, xf19, xf20, xf21, xf22, xf23, xf24, xf25, xf26, xf27⟩ := rfs h0
    simp (disch := omega) only [x_out, s_seq, s_ite, s_ret, s_retZ, s_retV, s_iasg, s_aasg, s_lasg, s_inc, s_put, s_putop, s_ast, s_astop, s_exp, s_call, s_skip, s_brk, s_cont, s_oinit, e_lit, e_long, e_il, e_al, e_ll, e_bin, e_un, e_fld, e_ald, e_tern, e_call, e_alen, b_cmp, b_cmp0, b_lcmp, b_and, b_or, b_not, o_add, o_sub, o_mul, o_and, o_or, o_xor, o_shl, o_shr, o_neg, o_i2l, o_l2i, o_i2c, r_eq, r_ne, r_lt, r_ge, r_gt, r_le, r_eq0, r_ne0, r_lt0, r_ge0, r_gt0, r_le0, x_int, x_ref, x_long, x_args, x_nar, xKd, xst1, xst2, xlg, Option.bind_some, Option.bind_none, Option.map_some, Option.map_none, List.getElem?_cons_zero, List.getElem?_cons_succ, List.set_cons_zero, List.set_cons_succ, List.length_cons, List.length_nil, List.length_map, List.length_range, List.length_set, decide_eq_true_eq, if_true, if_false, reduceIte, reduceCtorEq, Bool.not_true, Bool.not_false, Bool.false_eq_true, x_ix_nI, ax_get, ax_set, e_aald, s_aast, true_and, and_true, ite_true, ite_false, ↓bI_01, bI_eq0, bI_eq1, bool_or, tern_pure, and_pure, or_pure, bI_def, bne_t, ndf, decide_not, Bool.decide_eq_true, Bool.decide_and, Bool.decide_or, Nat.reduceEqDiff, Nat.reduceAdd, Nat.reduceMul, Nat.reduceSub, Nat.reduceLT, Nat.reduceLeDiff, or_false, false_or, or_true, true_or, and_false, false_and, Bool.or_eq_true, Bool.and_eq_true, Bool.or_false, Bool.or_true, Bool.true_or, Bool.false_or, Bool.and_true, Bool.and_false, Bool.true_and, Bool.false_and, decide_true, decide_false, not_true_eq_false, not_false_eq_true, xf0, xf1, xf2, xf3, xf4, xf5, xf6, xf7, xf8, xf9, xf10, xf11, xf12, xf13, xf14, xf15, xf16, xf17, xf18, xf19, xf20, xf21, xf22, xf23, xf24, xf25, xf26, xf27, rz, rl, hs9, ez, z8, zl]
  obtain ⟨env', h', e1, rfl, K', F'⟩ := s_loop_J (c := lc_X10_joins_1) (a := la_X10_joins_1) (u := lu_X10_joins_1) (h := h) (env := [some (.ref 106), some (.int (nI s)), some (.int (nI (L (pZ P s)))), some (.int (nI 0))]) (fun i env k => env = [some (.ref 106), some (.int (nI s)), some (.int (nI (L (pZ P s)))), some (.int (nI i))] ∧ Lot k (pF P) (fun f => if f < i then jn P s L f else L f) ∧ xFr (fun b => b = 119) h k) (pF P) 1000 (by omega) ⟨rfl, by
      obtain ⟨g, k1, k2⟩ := KL
      exact ⟨g, k1, fun f hf => by
        rw [k2 f hf]
        show nI (L f) = nI (if f < 0 then jn P s L f else L f)
        rw [if_neg (by omega)]⟩, xFr.rf _ _⟩
    (fun i env k hi hJ => by
      obtain ⟨rfl, ⟨g, k1, k2⟩, Fr⟩ := hJ
      obtain ⟨⟨q', kk', sn', tx', z', h0'⟩, -, -, ⟨fa', pa', va'⟩, -⟩ := V.same (h' := k) fun b b1 b2 => Fr.2.2 b (by omega)
      have h0' : k[106]? = some (.inl (10, _)) := h0'
      have ra := ax_row pa'
      have ea := va' s hs
      have rl := ax_row k1
      have v1 : g i = nI (if i < i then jn P s L i else L i) := k2 i hi
      rw [if_neg (Nat.lt_irrefl i)] at v1
      have v2 := k2 (pA P s) q2
      have v2 : g (pA P s) = nI (L (pA P s)) := by
        rw [v2]
        show nI (if pA P s < i then jn P s L (pA P s) else L (pA P s)) = _
        split
        · unfold jn
          split <;> rfl
        · rfl
      have hi8 : i < 8 := by omega
      have a8 : pA P s < 8 := by omega
      have l1 := hL i hi
      have l2 := hL (pZ P s) q3
      have F1 := xFr.set k1 (c' := arr 8 (upd g i (nI (jn P s L i)))) (by simp [arr, xSz])
      have m1 := set_at k1 (c' := arr 8 (upd g i (nI (jn P s L i))))
      generalize hk : k.set 119 (arr 8 (upd g i (nI (jn P s L i)))) = k' at F1 m1
      have s2 : la_X10_joins_1 [some (.ref 106), some (.int (nI s)), some (.int (nI (L (pZ P s)))), some (.int (nI i))] k = some (none, [some (.ref 106), some (.int (nI s)), some (.int (nI (L (pZ P s)))), some (.int (nI i))], k') := by
        obtain ⟨xf0, xf1, xf2, xf3, xf4, xf5, xf6, xf7, xf8, xf9, xf10, xf11, xf12, xf13, xf14, xf15, xf16, xf17, xf18, xf19, xf20, xf21, xf22, xf23, xf24, xf25, xf26, xf27⟩ := rfs h0'
        by_cases q : L i = L (pZ P s)
        · have ej : jn P s L i = L (pA P s) := if_pos q
          have qe : (nI (L i) = nI (L (pZ P s))) = True := by rw [q]; exact eq_self _
          rw [ej] at hk
          simp (disch := omega) only [la_X10_joins_1, x_out, s_seq, s_ite, s_ret, s_retZ, s_retV, s_iasg, s_aasg, s_lasg, s_inc, s_put, s_putop, s_ast, s_astop, s_exp, s_call, s_skip, s_brk, s_cont, s_oinit, e_lit, e_long, e_il, e_al, e_ll, e_bin, e_un, e_fld, e_ald, e_tern, e_call, e_alen, b_cmp, b_cmp0, b_lcmp, b_and, b_or, b_not, o_add, o_sub, o_mul, o_and, o_or, o_xor, o_shl, o_shr, o_neg, o_i2l, o_l2i, o_i2c, r_eq, r_ne, r_lt, r_ge, r_gt, r_le, r_eq0, r_ne0, r_lt0, r_ge0, r_gt0, r_le0, x_int, x_ref, x_long, x_args, x_nar, xKd, xst1, xst2, xlg, Option.bind_some, Option.bind_none, Option.map_some, Option.map_none, List.getElem?_cons_zero, List.getElem?_cons_succ, List.set_cons_zero, List.set_cons_succ, List.length_cons, List.length_nil, List.length_map, List.length_range, List.length_set, decide_eq_true_eq, if_true, if_false, reduceIte, reduceCtorEq, Bool.not_true, Bool.not_false, Bool.false_eq_true, x_ix_nI, ax_get, ax_set, e_aald, s_aast, true_and, and_true, ite_true, ite_false, ↓bI_01, bI_eq0, bI_eq1, bool_or, tern_pure, and_pure, or_pure, bI_def, bne_t, ndf, decide_not, Bool.decide_eq_true, Bool.decide_and, Bool.decide_or, Nat.reduceEqDiff, Nat.reduceAdd, Nat.reduceMul, Nat.reduceSub, Nat.reduceLT, Nat.reduceLeDiff, or_false, false_or, or_true, true_or, and_false, false_and, Bool.or_eq_true, Bool.and_eq_true, Bool.or_false, Bool.or_true, Bool.true_or, Bool.false_or, Bool.and_true, Bool.and_false, Bool.true_and, Bool.false_and, decide_true, decide_false, not_true_eq_false, not_false_eq_true, xf0, xf1, xf2, xf3, xf4, xf5, xf6, xf7, xf8, xf9, xf10, xf11, xf12, xf13, xf14, xf15, xf16, xf17, xf18, xf19, xf20, xf21, xf22, xf23, xf24, xf25, xf26, xf27, rl, ra, hi8, a8, hs9, ea, v1, v2, qe, ax_def, hk]
        · have ej : jn P s L i = L i := if_neg q
          have qe : (nI (L i) = nI (L (pZ P s))) = False := by rw [nI_eq (by omega) (by omega)]; exact eq_false q
          rw [ej] at hk
          simp (disch := omega) only [la_X10_joins_1, x_out, s_seq, s_ite, s_ret, s_retZ, s_retV, s_iasg, s_aasg, s_lasg, s_inc, s_put, s_putop, s_ast, s_astop, s_exp, s_call, s_skip, s_brk, s_cont, s_oinit, e_lit, e_long, e_il, e_al, e_ll, e_bin, e_un, e_fld, e_ald, e_tern, e_call, e_alen, b_cmp, b_cmp0, b_lcmp, b_and, b_or, b_not, o_add, o_sub, o_mul, o_and, o_or, o_xor, o_shl, o_shr, o_neg, o_i2l, o_l2i, o_i2c, r_eq, r_ne, r_lt, r_ge, r_gt, r_le, r_eq0, r_ne0, r_lt0, r_ge0, r_gt0, r_le0, x_int, x_ref, x_long, x_args, x_nar, xKd, xst1, xst2, xlg, Option.bind_some, Option.bind_none, Option.map_some, Option.map_none, List.getElem?_cons_zero, List.getElem?_cons_succ, List.set_cons_zero, List.set_cons_succ, List.length_cons, List.length_nil, List.length_map, List.length_range, List.length_set, decide_eq_true_eq, if_true, if_false, reduceIte, reduceCtorEq, Bool.not_true, Bool.not_false, Bool.false_eq_true, x_ix_nI, ax_get, ax_set, e_aald, s_aast, true_and, and_true, ite_true, ite_false, ↓bI_01, bI_eq0, bI_eq1, bool_or, tern_pure, and_pure, or_pure, bI_def, bne_t, ndf, decide_not, Bool.decide_eq_true, Bool.decide_and, Bool.decide_or, Nat.reduceEqDiff, Nat.reduceAdd, Nat.reduceMul, Nat.reduceSub, Nat.reduceLT, Nat.reduceLeDiff, or_false, false_or, or_true, true_or, and_false, false_and, Bool.or_eq_true, Bool.and_eq_true, Bool.or_false, Bool.or_true, Bool.true_or, Bool.false_or, Bool.and_true, Bool.and_false, Bool.true_and, Bool.false_and, decide_true, decide_false, not_true_eq_false, not_false_eq_true, xf0, xf1, xf2, xf3, xf4, xf5, xf6, xf7, xf8, xf9, xf10, xf11, xf12, xf13, xf14, xf15, xf16, xf17, xf18, xf19, xf20, xf21, xf22, xf23, xf24, xf25, xf26, xf27, rl, ra, hi8, a8, hs9, ea, v1, v2, qe, ax_def, hk]
      refine ⟨_, k', s_step_on (h0 := k) ?_ s2 (?_ : _ = some (none, [some (.ref 106), some (.int (nI s)), some (.int (nI (L (pZ P s)))), some (.int (nI (i + 1)))], k')), rfl, ⟨_, m1, fun x hx => ?_⟩, (Fr.trans F1).mono fun b hb => hb.elim id id⟩
      · obtain ⟨xf0, xf1, xf2, xf3, xf4, xf5, xf6, xf7, xf8, xf9, xf10, xf11, xf12, xf13, xf14, xf15, xf16, xf17, xf18, xf19, xf20, xf21, xf22, xf23, xf24, xf25, xf26, xf27⟩ := rfs h0'
        simp (disch := omega) only [lc_X10_joins_1, x_out, s_seq, s_ite, s_ret, s_retZ, s_retV, s_iasg, s_aasg, s_lasg, s_inc, s_put, s_putop, s_ast, s_astop, s_exp, s_call, s_skip, s_brk, s_cont, s_oinit, e_lit, e_long, e_il, e_al, e_ll, e_bin, e_un, e_fld, e_ald, e_tern, e_call, e_alen, b_cmp, b_cmp0, b_lcmp, b_and, b_or, b_not, o_add, o_sub, o_mul, o_and, o_or, o_xor, o_shl, o_shr, o_neg, o_i2l, o_l2i, o_i2c, r_eq, r_ne, r_lt, r_ge, r_gt, r_le, r_eq0, r_ne0, r_lt0, r_ge0, r_gt0, r_le0, x_int, x_ref, x_long, x_args, x_nar, xKd, xst1, xst2, xlg, Option.bind_some, Option.bind_none, Option.map_some, Option.map_none, List.getElem?_cons_zero, List.getElem?_cons_succ, List.set_cons_zero, List.set_cons_succ, List.length_cons, List.length_nil, List.length_map, List.length_range, List.length_set, decide_eq_true_eq, if_true, if_false, reduceIte, reduceCtorEq, Bool.not_true, Bool.not_false, Bool.false_eq_true, x_ix_nI, ax_get, ax_set, e_aald, s_aast, true_and, and_true, ite_true, ite_false, ↓bI_01, bI_eq0, bI_eq1, bool_or, tern_pure, and_pure, or_pure, bI_def, bne_t, ndf, decide_not, Bool.decide_eq_true, Bool.decide_and, Bool.decide_or, Nat.reduceEqDiff, Nat.reduceAdd, Nat.reduceMul, Nat.reduceSub, Nat.reduceLT, Nat.reduceLeDiff, or_false, false_or, or_true, true_or, and_false, false_and, Bool.or_eq_true, Bool.and_eq_true, Bool.or_false, Bool.or_true, Bool.true_or, Bool.false_or, Bool.and_true, Bool.and_false, Bool.true_and, Bool.false_and, decide_true, decide_false, not_true_eq_false, not_false_eq_true, xf0, xf1, xf2, xf3, xf4, xf5, xf6, xf7, xf8, xf9, xf10, xf11, xf12, xf13, xf14, xf15, xf16, xf17, xf18, xf19, xf20, xf21, xf22, xf23, xf24, xf25, xf26, xf27, nI_ltI, hi]
      · simp only [lu_X10_joins_1, x_out, s_seq, s_ite, s_ret, s_retZ, s_retV, s_iasg, s_aasg, s_lasg, s_inc, s_put, s_putop, s_ast, s_astop, s_exp, s_call, s_skip, s_brk, s_cont, s_oinit, e_lit, e_long, e_il, e_al, e_ll, e_bin, e_un, e_fld, e_ald, e_tern, e_call, e_alen, b_cmp, b_cmp0, b_lcmp, b_and, b_or, b_not, o_add, o_sub, o_mul, o_and, o_or, o_xor, o_shl, o_shr, o_neg, o_i2l, o_l2i, o_i2c, r_eq, r_ne, r_lt, r_ge, r_gt, r_le, r_eq0, r_ne0, r_lt0, r_ge0, r_gt0, r_le0, x_fld, x_int, x_ref, x_long, x_args, x_nar, xKd, xst1, xst2, xlg, Option.bind_some, Option.bind_none, Option.map_some, Option.map_none, List.getElem?_cons_zero, List.getElem?_cons_succ, List.set_cons_zero, List.set_cons_succ, List.length_cons, List.length_nil, List.length_map, List.length_range, List.length_set, decide_eq_true_eq, if_true, if_false, reduceIte, reduceCtorEq, Bool.not_true, Bool.not_false, Bool.false_eq_true, x_ix_nI, ax_get, ax_set, e_aald, s_aast, true_and, and_true, ite_true, ite_false, ↓bI_01, bI_eq0, bI_eq1, bool_or, tern_pure, and_pure, or_pure, bI_def, bne_t, ndf, decide_not, Bool.decide_eq_true, Bool.decide_and, Bool.decide_or, Nat.reduceEqDiff, Nat.reduceAdd, Nat.reduceMul, Nat.reduceSub, Nat.reduceLT, Nat.reduceLeDiff, or_false, false_or, or_true, true_or, and_false, false_and, Bool.or_eq_true, Bool.and_eq_true, Bool.or_false, Bool.or_true, Bool.true_or, Bool.false_or, Bool.and_true, Bool.and_false, Bool.true_and, Bool.false_and, decide_true, decide_false, not_true_eq_false, not_false_eq_true, nI_1]
      · unfold upd
        show _ = nI (if x < i + 1 then jn P s L x else L x)
        by_cases e : x = i
        · subst e; rw [if_pos rfl, if_pos (by omega)]
        · rw [if_neg e, k2 x hx]
          show nI (if x < i then jn P s L x else L x) = _
          by_cases y : x < i
          · rw [if_pos y, if_pos (by omega)]
          · rw [if_neg y, if_neg (by omega)])
    (fun env k hJ => by
      obtain ⟨rfl, -, Fr⟩ := hJ
      obtain ⟨⟨q', kk', sn', tx', z', h0'⟩, -⟩ := V.same (h' := k) fun b b1 b2 => Fr.2.2 b (by omega)
      have h0' : k[106]? = some (.inl (10, _)) := h0'
      obtain ⟨xf0, xf1, xf2, xf3, xf4, xf5, xf6, xf7, xf8, xf9, xf10, xf11, xf12, xf13, xf14, xf15, xf16, xf17, xf18, xf19, xf20, xf21, xf22, xf23, xf24, xf25, xf26, xf27⟩ := rfs h0'
      simp (disch := omega) only [lc_X10_joins_1, la_X10_joins_1, lu_X10_joins_1, s_step, x_out, s_seq, s_ite, s_ret, s_retZ, s_retV, s_iasg, s_aasg, s_lasg, s_inc, s_put, s_putop, s_ast, s_astop, s_exp, s_call, s_skip, s_brk, s_cont, s_oinit, e_lit, e_long, e_il, e_al, e_ll, e_bin, e_un, e_fld, e_ald, e_tern, e_call, e_alen, b_cmp, b_cmp0, b_lcmp, b_and, b_or, b_not, o_add, o_sub, o_mul, o_and, o_or, o_xor, o_shl, o_shr, o_neg, o_i2l, o_l2i, o_i2c, r_eq, r_ne, r_lt, r_ge, r_gt, r_le, r_eq0, r_ne0, r_lt0, r_ge0, r_gt0, r_le0, x_int, x_ref, x_long, x_args, x_nar, xKd, xst1, xst2, xlg, Option.bind_some, Option.bind_none, Option.map_some, Option.map_none, List.getElem?_cons_zero, List.getElem?_cons_succ, List.set_cons_zero, List.set_cons_succ, List.length_cons, List.length_nil, List.length_map, List.length_range, List.length_set, decide_eq_true_eq, if_true, if_false, reduceIte, reduceCtorEq, Bool.not_true, Bool.not_false, Bool.false_eq_true, x_ix_nI, ax_get, ax_set, e_aald, s_aast, true_and, and_true, ite_true, ite_false, ↓bI_01, bI_eq0, bI_eq1, bool_or, tern_pure, and_pure, or_pure, bI_def, bne_t, ndf, decide_not, Bool.decide_eq_true, Bool.decide_and, Bool.decide_or, Nat.reduceEqDiff, Nat.reduceAdd, Nat.reduceMul, Nat.reduceSub, Nat.reduceLT, Nat.reduceLeDiff, or_false, false_or, or_true, true_or, and_false, false_and, Bool.or_eq_true, Bool.and_eq_true, Bool.or_false, Bool.or_true, Bool.true_or, Bool.false_or, Bool.and_true, Bool.and_false, Bool.true_and, Bool.false_and, decide_true, decide_false, not_true_eq_false, not_false_eq_true, xf0, xf1, xf2, xf3, xf4, xf5, xf6, xf7, xf8, xf9, xf10, xf11, xf12, xf13, xf14, xf15, xf16, xf17, xf18, xf19, xf20, xf21, xf22, xf23, xf24, xf25, xf26, xf27, nI_ltI, Nat.lt_irrefl])
  refine ⟨h', ?_, ?_, F'⟩
  · rw [nI_0] at e1
    refine xM_run (env := [some (.ref 106), some (.int (nI s)), none, none]) h0 rfl rfl (Nat.le_of_ble_eq_true rfl) rfl ?_ rfl
    unfold bd_X10_joins
    rw [s_seq_n s1, s_seq_n (show (s_iasg 3 (e_lit 0)) _ h = some (none, [some (.ref 106), some (.int (nI s)), some (.int (nI (L (pZ P s)))), some (.int 0)], h) from rfl), s_seq_n e1]
    rfl
  · obtain ⟨g, k1, k2⟩ := K'
    exact ⟨g, k1, fun x hx => by
      rw [k2 x hx]
      show nI (if x < pF P then jn P s L x else L x) = _
      rw [if_pos hx]⟩
theorem hangs_r (V : RV h P f) (O : POK P) (B : Bk f 0 P S) (T : TOK P c S) (hc : c ≤ 1000) {g0 : Nat → Int32} (H1 : h[119]? = some (arr 8 g0)) {w set : Nat} (hw : w < pM P) (hst : set < 512) : ∃ h', m_X10_hangs [.ref 106, .int (nI w), .int (nI set)] h = some (some (.int (bI (hgB P S w set))), h') ∧ (∃ g, h'[119]? = some (arr 8 g)) ∧ xFr (fun b => b = 119) h h' := by
  have o2 := O.2.1
  have o5 := O.2.2.2.2.1
  have o6 := O.2.2.2.2.2.1
  obtain ⟨⟨q, kk, sn, tx, z, h0⟩, hrow, -⟩ := id V
  have h0 : h[106]? = some (.inl (10, _)) := h0
  -- each a lot of its own
  obtain ⟨env1, h1, e1, rfl, ⟨g1, k1, k2⟩, F1⟩ := s_loop_J (c := lc_X10_hangs_1) (a := la_X10_hangs_1) (u := lu_X10_hangs_1) (h := h) (env := [some (.ref 106), some (.int (nI w)), some (.int (nI set)), some (.int (nI 0)), none]) (fun i env k => env = [some (.ref 106), some (.int (nI w)), some (.int (nI set)), some (.int (nI i)), none] ∧ (∃ g, k[119]? = some (arr 8 g) ∧ ∀ x, x < i → g x = nI x) ∧ xFr (fun b => b = 119) h k) (pF P) 1000 (by omega) ⟨rfl, ⟨g0, H1, fun x hx => absurd hx (by omega)⟩, xFr.rf _ _⟩
    (fun i env k hi hJ => by
      obtain ⟨rfl, ⟨g, k1, k2⟩, Fr⟩ := hJ
      obtain ⟨⟨q', kk', sn', tx', z', h0'⟩, -⟩ := V.same (h' := k) fun b b1 b2 => Fr.2.2 b (by omega)
      have h0' : k[106]? = some (.inl (10, _)) := h0'
      have rl := ax_row k1
      have hi8 : i < 8 := by omega
      have F1 := xFr.set k1 (c' := arr 8 (upd g i (nI i))) (by simp [arr, xSz])
      have m1 := set_at k1 (c' := arr 8 (upd g i (nI i)))
      generalize hk : k.set 119 (arr 8 (upd g i (nI i))) = k' at F1 m1
      obtain ⟨xf0, xf1, xf2, xf3, xf4, xf5, xf6, xf7, xf8, xf9, xf10, xf11, xf12, xf13, xf14, xf15, xf16, xf17, xf18, xf19, xf20, xf21, xf22, xf23, xf24, xf25, xf26, xf27⟩ := rfs h0'
      refine ⟨_, k', ?_, rfl, ⟨_, m1, fun x hx => ?_⟩, (Fr.trans F1).mono fun b hb => hb.elim id id⟩
      · simp (disch := omega) only [lc_X10_hangs_1, la_X10_hangs_1, lu_X10_hangs_1, s_step, x_out, s_seq, s_ite, s_ret, s_retZ, s_retV, s_iasg, s_aasg, s_lasg, s_inc, s_put, s_putop, s_ast, s_astop, s_exp, s_call, s_skip, s_brk, s_cont, s_oinit, e_lit, e_long, e_il, e_al, e_ll, e_bin, e_un, e_fld, e_ald, e_tern, e_call, e_alen, b_cmp, b_cmp0, b_lcmp, b_and, b_or, b_not, o_add, o_sub, o_mul, o_and, o_or, o_xor, o_shl, o_shr, o_neg, o_i2l, o_l2i, o_i2c, r_eq, r_ne, r_lt, r_ge, r_gt, r_le, r_eq0, r_ne0, r_lt0, r_ge0, r_gt0, r_le0, x_int, x_ref, x_long, x_args, x_nar, xKd, xst1, xst2, xlg, Option.bind_some, Option.bind_none, Option.map_some, Option.map_none, List.getElem?_cons_zero, List.getElem?_cons_succ, List.set_cons_zero, List.set_cons_succ, List.length_cons, List.length_nil, List.length_map, List.length_range, List.length_set, decide_eq_true_eq, if_true, if_false, reduceIte, reduceCtorEq, Bool.not_true, Bool.not_false, Bool.false_eq_true, x_ix_nI, ax_get, ax_set, e_aald, s_aast, true_and, and_true, ite_true, ite_false, ↓bI_01, bI_eq0, bI_eq1, bool_or, tern_pure, and_pure, or_pure, bI_def, bne_t, ndf, decide_not, Bool.decide_eq_true, Bool.decide_and, Bool.decide_or, Nat.reduceEqDiff, Nat.reduceAdd, Nat.reduceMul, Nat.reduceSub, Nat.reduceLT, Nat.reduceLeDiff, or_false, false_or, or_true, true_or, and_false, false_and, Bool.or_eq_true, Bool.and_eq_true, Bool.or_false, Bool.or_true, Bool.true_or, Bool.false_or, Bool.and_true, Bool.and_false, Bool.true_and, Bool.false_and, decide_true, decide_false, not_true_eq_false, not_false_eq_true, xf0, xf1, xf2, xf3, xf4, xf5, xf6, xf7, xf8, xf9, xf10, xf11, xf12, xf13, xf14, xf15, xf16, xf17, xf18, xf19, xf20, xf21, xf22, xf23, xf24, xf25, xf26, xf27, nI_ltI, nI_1, hi, hi8, rl, ax_def, hk]
      · unfold upd
        by_cases e : x = i
        · subst e; simp
        · rw [if_neg e]; exact k2 x (by omega))
    (fun env k hJ => by
      obtain ⟨rfl, -, Fr⟩ := hJ
      obtain ⟨⟨q', kk', sn', tx', z', h0'⟩, -⟩ := V.same (h' := k) fun b b1 b2 => Fr.2.2 b (by omega)
      have h0' : k[106]? = some (.inl (10, _)) := h0'
      obtain ⟨xf0, xf1, xf2, xf3, xf4, xf5, xf6, xf7, xf8, xf9, xf10, xf11, xf12, xf13, xf14, xf15, xf16, xf17, xf18, xf19, xf20, xf21, xf22, xf23, xf24, xf25, xf26, xf27⟩ := rfs h0'
      simp (disch := omega) only [lc_X10_hangs_1, la_X10_hangs_1, lu_X10_hangs_1, s_step, x_out, s_seq, s_ite, s_ret, s_retZ, s_retV, s_iasg, s_aasg, s_lasg, s_inc, s_put, s_putop, s_ast, s_astop, s_exp, s_call, s_skip, s_brk, s_cont, s_oinit, e_lit, e_long, e_il, e_al, e_ll, e_bin, e_un, e_fld, e_ald, e_tern, e_call, e_alen, b_cmp, b_cmp0, b_lcmp, b_and, b_or, b_not, o_add, o_sub, o_mul, o_and, o_or, o_xor, o_shl, o_shr, o_neg, o_i2l, o_l2i, o_i2c, r_eq, r_ne, r_lt, r_ge, r_gt, r_le, r_eq0, r_ne0, r_lt0, r_ge0, r_gt0, r_le0, x_int, x_ref, x_long, x_args, x_nar, xKd, xst1, xst2, xlg, Option.bind_some, Option.bind_none, Option.map_some, Option.map_none, List.getElem?_cons_zero, List.getElem?_cons_succ, List.set_cons_zero, List.set_cons_succ, List.length_cons, List.length_nil, List.length_map, List.length_range, List.length_set, decide_eq_true_eq, if_true, if_false, reduceIte, reduceCtorEq, Bool.not_true, Bool.not_false, Bool.false_eq_true, x_ix_nI, ax_get, ax_set, e_aald, s_aast, true_and, and_true, ite_true, ite_false, ↓bI_01, bI_eq0, bI_eq1, bool_or, tern_pure, and_pure, or_pure, bI_def, bne_t, ndf, decide_not, Bool.decide_eq_true, Bool.decide_and, Bool.decide_or, Nat.reduceEqDiff, Nat.reduceAdd, Nat.reduceMul, Nat.reduceSub, Nat.reduceLT, Nat.reduceLeDiff, or_false, false_or, or_true, true_or, and_false, false_and, Bool.or_eq_true, Bool.and_eq_true, Bool.or_false, Bool.or_true, Bool.true_or, Bool.false_or, Bool.and_true, Bool.and_false, Bool.true_and, Bool.false_and, decide_true, decide_false, not_true_eq_false, not_false_eq_true, xf0, xf1, xf2, xf3, xf4, xf5, xf6, xf7, xf8, xf9, xf10, xf11, xf12, xf13, xf14, xf15, xf16, xf17, xf18, xf19, xf20, xf21, xf22, xf23, xf24, xf25, xf26, xf27, nI_ltI, Nat.lt_irrefl])
  have K1 : Lot h1 (pF P) (ltS P (hgE S w set) 0) := ⟨g1, k1, k2⟩
  -- joined
  obtain ⟨env2, h2, e2, rfl, K2, F2⟩ := s_loop_J (c := lc_X10_hangs_2) (a := la_X10_hangs_2) (u := lu_X10_hangs_2) (h := h1) (env := [some (.ref 106), some (.int (nI w)), some (.int (nI set)), some (.int (nI 0)), none]) (fun i env k => env = [some (.ref 106), some (.int (nI w)), some (.int (nI set)), some (.int (nI i)), none] ∧ Lot k (pF P) (ltS P (hgE S w set) i) ∧ xFr (fun b => b = 119) h k) (pN P) 1000 (by omega) ⟨rfl, K1, F1⟩
    (fun i env k hi hJ => by
      obtain ⟨rfl, K, Fr⟩ := hJ
      have VK : RV k P f := V.same fun b b1 b2 => Fr.2.2 b (by omega)
      obtain ⟨⟨q', kk', sn', tx', z', h0'⟩, hr', -⟩ := id VK
      have h0' : k[106]? = some (.inl (10, _)) := h0'
      have rw := ax_row hr'
      have b1 := B.2.2.2.2.2 w hw i hi
      rw [Nat.zero_add] at b1
      have t3 := T.2.2 (9 * w + i) (by omega)
      have e3 := oI_eq0 (x := tA S (9 * w + i)) (by omega) (by omega)
      have hlt : 22 + 9 * w + i < 696 := by omega
      have hs1 := has_x k hst (k := i) (by omega)
      have c2 : (b_or (b_cmp0 r_ne0 (e_call m_X10_has [(e_il 2), (e_il 3)])) (b_cmp0 r_ne0 (e_ald 0 (e_fld 10 0 (e_al 0)) (e_bin o_add (e_bin o_add (e_lit 22) (e_bin o_mul (e_lit 9) (e_il 1))) (e_il 3))))) [some (.ref 106), some (.int (nI w)), some (.int (nI set)), some (.int (nI i)), none] k = some (hgE S w set i, k) := by
        obtain ⟨xf0, xf1, xf2, xf3, xf4, xf5, xf6, xf7, xf8, xf9, xf10, xf11, xf12, xf13, xf14, xf15, xf16, xf17, xf18, xf19, xf20, xf21, xf22, xf23, xf24, xf25, xf26, xf27⟩ := rfs h0'
        exact b_or_p (by simp (disch := omega) only [x_out, s_seq, s_ite, s_ret, s_retZ, s_retV, s_iasg, s_aasg, s_lasg, s_inc, s_put, s_putop, s_ast, s_astop, s_exp, s_call, s_skip, s_brk, s_cont, s_oinit, e_lit, e_long, e_il, e_al, e_ll, e_bin, e_un, e_fld, e_ald, e_tern, e_call, e_alen, b_cmp, b_cmp0, b_lcmp, b_and, b_or, b_not, o_add, o_sub, o_mul, o_and, o_or, o_xor, o_shl, o_shr, o_neg, o_i2l, o_l2i, o_i2c, r_eq, r_ne, r_lt, r_ge, r_gt, r_le, r_eq0, r_ne0, r_lt0, r_ge0, r_gt0, r_le0, x_int, x_ref, x_long, x_args, x_nar, xKd, xst1, xst2, xlg, Option.bind_some, Option.bind_none, Option.map_some, Option.map_none, List.getElem?_cons_zero, List.getElem?_cons_succ, List.set_cons_zero, List.set_cons_succ, List.length_cons, List.length_nil, List.length_map, List.length_range, List.length_set, decide_eq_true_eq, if_true, if_false, reduceIte, reduceCtorEq, Bool.not_true, Bool.not_false, Bool.false_eq_true, x_ix_nI, ax_get, ax_set, e_aald, s_aast, true_and, and_true, ite_true, ite_false, ↓bI_01, bI_eq0, bI_eq1, bool_or, tern_pure, and_pure, or_pure, bI_def, bne_t, ndf, decide_not, Bool.decide_eq_true, Bool.decide_and, Bool.decide_or, Nat.reduceEqDiff, Nat.reduceAdd, Nat.reduceMul, Nat.reduceSub, Nat.reduceLT, Nat.reduceLeDiff, or_false, false_or, or_true, true_or, and_false, false_and, Bool.or_eq_true, Bool.and_eq_true, Bool.or_false, Bool.or_true, Bool.true_or, Bool.false_or, Bool.and_true, Bool.and_false, Bool.true_and, Bool.false_and, decide_true, decide_false, not_true_eq_false, not_false_eq_true, xf0, xf1, xf2, xf3, xf4, xf5, xf6, xf7, xf8, xf9, xf10, xf11, xf12, xf13, xf14, xf15, xf16, xf17, xf18, xf19, xf20, xf21, xf22, xf23, xf24, xf25, xf26, xf27, hs1]) (fun _ => by simp (disch := omega) only [x_out, s_seq, s_ite, s_ret, s_retZ, s_retV, s_iasg, s_aasg, s_lasg, s_inc, s_put, s_putop, s_ast, s_astop, s_exp, s_call, s_skip, s_brk, s_cont, s_oinit, e_lit, e_long, e_il, e_al, e_ll, e_bin, e_un, e_fld, e_ald, e_tern, e_call, e_alen, b_cmp, b_cmp0, b_lcmp, b_and, b_or, b_not, o_add, o_sub, o_mul, o_and, o_or, o_xor, o_shl, o_shr, o_neg, o_i2l, o_l2i, o_i2c, r_eq, r_ne, r_lt, r_ge, r_gt, r_le, r_eq0, r_ne0, r_lt0, r_ge0, r_gt0, r_le0, x_int, x_ref, x_long, x_args, x_nar, xKd, xst1, xst2, xlg, Option.bind_some, Option.bind_none, Option.map_some, Option.map_none, List.getElem?_cons_zero, List.getElem?_cons_succ, List.set_cons_zero, List.set_cons_succ, List.length_cons, List.length_nil, List.length_map, List.length_range, List.length_set, decide_eq_true_eq, if_true, if_false, reduceIte, reduceCtorEq, Bool.not_true, Bool.not_false, Bool.false_eq_true, x_ix_nI, ax_get, ax_set, e_aald, s_aast, true_and, and_true, ite_true, ite_false, ↓bI_01, bI_eq0, bI_eq1, bool_or, tern_pure, and_pure, or_pure, bI_def, bne_t, ndf, decide_not, Bool.decide_eq_true, Bool.decide_and, Bool.decide_or, Nat.reduceEqDiff, Nat.reduceAdd, Nat.reduceMul, Nat.reduceSub, Nat.reduceLT, Nat.reduceLeDiff, or_false, false_or, or_true, true_or, and_false, false_and, Bool.or_eq_true, Bool.and_eq_true, Bool.or_false, Bool.or_true, Bool.true_or, Bool.false_or, Bool.and_true, Bool.and_false, Bool.true_and, Bool.false_and, decide_true, decide_false, not_true_eq_false, not_false_eq_true, xf0, xf1, xf2, xf3, xf4, xf5, xf6, xf7, xf8, xf9, xf10, xf11, xf12, xf13, xf14, xf15, xf16, xf17, xf18, xf19, xf20, xf21, xf22, xf23, xf24, xf25, xf26, xf27, l9, l22, nI_m, nI_add, rw, hlt, b1, e3, sUn])
      have c1 : lc_X10_hangs_2 [some (.ref 106), some (.int (nI w)), some (.int (nI set)), some (.int (nI i)), none] k = some (true, k) := by
        obtain ⟨xf0, xf1, xf2, xf3, xf4, xf5, xf6, xf7, xf8, xf9, xf10, xf11, xf12, xf13, xf14, xf15, xf16, xf17, xf18, xf19, xf20, xf21, xf22, xf23, xf24, xf25, xf26, xf27⟩ := rfs h0'
        simp (disch := omega) only [lc_X10_hangs_2, x_out, s_seq, s_ite, s_ret, s_retZ, s_retV, s_iasg, s_aasg, s_lasg, s_inc, s_put, s_putop, s_ast, s_astop, s_exp, s_call, s_skip, s_brk, s_cont, s_oinit, e_lit, e_long, e_il, e_al, e_ll, e_bin, e_un, e_fld, e_ald, e_tern, e_call, e_alen, b_cmp, b_cmp0, b_lcmp, b_and, b_or, b_not, o_add, o_sub, o_mul, o_and, o_or, o_xor, o_shl, o_shr, o_neg, o_i2l, o_l2i, o_i2c, r_eq, r_ne, r_lt, r_ge, r_gt, r_le, r_eq0, r_ne0, r_lt0, r_ge0, r_gt0, r_le0, x_int, x_ref, x_long, x_args, x_nar, xKd, xst1, xst2, xlg, Option.bind_some, Option.bind_none, Option.map_some, Option.map_none, List.getElem?_cons_zero, List.getElem?_cons_succ, List.set_cons_zero, List.set_cons_succ, List.length_cons, List.length_nil, List.length_map, List.length_range, List.length_set, decide_eq_true_eq, if_true, if_false, reduceIte, reduceCtorEq, Bool.not_true, Bool.not_false, Bool.false_eq_true, x_ix_nI, ax_get, ax_set, e_aald, s_aast, true_and, and_true, ite_true, ite_false, ↓bI_01, bI_eq0, bI_eq1, bool_or, tern_pure, and_pure, or_pure, bI_def, bne_t, ndf, decide_not, Bool.decide_eq_true, Bool.decide_and, Bool.decide_or, Nat.reduceEqDiff, Nat.reduceAdd, Nat.reduceMul, Nat.reduceSub, Nat.reduceLT, Nat.reduceLeDiff, or_false, false_or, or_true, true_or, and_false, false_and, Bool.or_eq_true, Bool.and_eq_true, Bool.or_false, Bool.or_true, Bool.true_or, Bool.false_or, Bool.and_true, Bool.and_false, Bool.true_and, Bool.false_and, decide_true, decide_false, not_true_eq_false, not_false_eq_true, xf0, xf1, xf2, xf3, xf4, xf5, xf6, xf7, xf8, xf9, xf10, xf11, xf12, xf13, xf14, xf15, xf16, xf17, xf18, xf19, xf20, xf21, xf22, xf23, xf24, xf25, xf26, xf27, nI_ltI, hi]
      have u1 : ∀ k' : XH, lu_X10_hangs_2 [some (.ref 106), some (.int (nI w)), some (.int (nI set)), some (.int (nI i)), none] k' = some (none, [some (.ref 106), some (.int (nI w)), some (.int (nI set)), some (.int (nI (i + 1))), none], k') := fun k' => by
        simp only [lu_X10_hangs_2, x_out, s_seq, s_ite, s_ret, s_retZ, s_retV, s_iasg, s_aasg, s_lasg, s_inc, s_put, s_putop, s_ast, s_astop, s_exp, s_call, s_skip, s_brk, s_cont, s_oinit, e_lit, e_long, e_il, e_al, e_ll, e_bin, e_un, e_fld, e_ald, e_tern, e_call, e_alen, b_cmp, b_cmp0, b_lcmp, b_and, b_or, b_not, o_add, o_sub, o_mul, o_and, o_or, o_xor, o_shl, o_shr, o_neg, o_i2l, o_l2i, o_i2c, r_eq, r_ne, r_lt, r_ge, r_gt, r_le, r_eq0, r_ne0, r_lt0, r_ge0, r_gt0, r_le0, x_fld, x_int, x_ref, x_long, x_args, x_nar, xKd, xst1, xst2, xlg, Option.bind_some, Option.bind_none, Option.map_some, Option.map_none, List.getElem?_cons_zero, List.getElem?_cons_succ, List.set_cons_zero, List.set_cons_succ, List.length_cons, List.length_nil, List.length_map, List.length_range, List.length_set, decide_eq_true_eq, if_true, if_false, reduceIte, reduceCtorEq, Bool.not_true, Bool.not_false, Bool.false_eq_true, x_ix_nI, ax_get, ax_set, e_aald, s_aast, true_and, and_true, ite_true, ite_false, ↓bI_01, bI_eq0, bI_eq1, bool_or, tern_pure, and_pure, or_pure, bI_def, bne_t, ndf, decide_not, Bool.decide_eq_true, Bool.decide_and, Bool.decide_or, Nat.reduceEqDiff, Nat.reduceAdd, Nat.reduceMul, Nat.reduceSub, Nat.reduceLT, Nat.reduceLeDiff, or_false, false_or, or_true, true_or, and_false, false_and, Bool.or_eq_true, Bool.and_eq_true, Bool.or_false, Bool.or_true, Bool.true_or, Bool.false_or, Bool.and_true, Bool.and_false, Bool.true_and, Bool.false_and, decide_true, decide_false, not_true_eq_false, not_false_eq_true, nI_1]
      have st : ltS P (hgE S w set) (i + 1) = if hgE S w set i = true then jn P i (ltS P (hgE S w set) i) else ltS P (hgE S w set) i := rfl
      cases q : hgE S w set i with
      | true =>
        rw [q] at c2 st
        rw [if_pos rfl] at st
        obtain ⟨k', x1, x2, x3⟩ := joins_r VK O K (ltS_B O i (by omega)) hi
        refine ⟨_, k', s_step_on c1 (?_ : _ = some (none, [some (.ref 106), some (.int (nI w)), some (.int (nI set)), some (.int (nI i)), none], k')) (u1 k'), rfl, by rw [st]; exact x2, (Fr.trans x3).mono fun b hb => hb.elim id id⟩
        unfold la_X10_hangs_2
        rw [s_ite_t c2]
        simp only [x_out, s_seq, s_ite, s_ret, s_retZ, s_retV, s_iasg, s_aasg, s_lasg, s_inc, s_put, s_putop, s_ast, s_astop, s_exp, s_call, s_skip, s_brk, s_cont, s_oinit, e_lit, e_long, e_il, e_al, e_ll, e_bin, e_un, e_fld, e_ald, e_tern, e_call, e_alen, b_cmp, b_cmp0, b_lcmp, b_and, b_or, b_not, o_add, o_sub, o_mul, o_and, o_or, o_xor, o_shl, o_shr, o_neg, o_i2l, o_l2i, o_i2c, r_eq, r_ne, r_lt, r_ge, r_gt, r_le, r_eq0, r_ne0, r_lt0, r_ge0, r_gt0, r_le0, x_fld, x_int, x_ref, x_long, x_args, x_nar, xKd, xst1, xst2, xlg, Option.bind_some, Option.bind_none, Option.map_some, Option.map_none, List.getElem?_cons_zero, List.getElem?_cons_succ, List.set_cons_zero, List.set_cons_succ, List.length_cons, List.length_nil, List.length_map, List.length_range, List.length_set, decide_eq_true_eq, if_true, if_false, reduceIte, reduceCtorEq, Bool.not_true, Bool.not_false, Bool.false_eq_true, x_ix_nI, ax_get, ax_set, e_aald, s_aast, true_and, and_true, ite_true, ite_false, ↓bI_01, bI_eq0, bI_eq1, bool_or, tern_pure, and_pure, or_pure, bI_def, bne_t, ndf, decide_not, Bool.decide_eq_true, Bool.decide_and, Bool.decide_or, Nat.reduceEqDiff, Nat.reduceAdd, Nat.reduceMul, Nat.reduceSub, Nat.reduceLT, Nat.reduceLeDiff, or_false, false_or, or_true, true_or, and_false, false_and, Bool.or_eq_true, Bool.and_eq_true, Bool.or_false, Bool.or_true, Bool.true_or, Bool.false_or, Bool.and_true, Bool.and_false, Bool.true_and, Bool.false_and, decide_true, decide_false, not_true_eq_false, not_false_eq_true, x1]
      | false =>
        rw [q] at c2 st
        rw [if_neg (by simp)] at st
        refine ⟨_, k, s_step_on c1 (?_ : _ = some (none, [some (.ref 106), some (.int (nI w)), some (.int (nI set)), some (.int (nI i)), none], k)) (u1 k), rfl, by rw [st]; exact K, Fr⟩
        unfold la_X10_hangs_2
        rw [s_ite_f c2]
        rfl)
    (fun env k hJ => by
      obtain ⟨rfl, -, Fr⟩ := hJ
      obtain ⟨⟨q', kk', sn', tx', z', h0'⟩, -⟩ := V.same (h' := k) fun b b1 b2 => Fr.2.2 b (by omega)
      have h0' : k[106]? = some (.inl (10, _)) := h0'
      obtain ⟨xf0, xf1, xf2, xf3, xf4, xf5, xf6, xf7, xf8, xf9, xf10, xf11, xf12, xf13, xf14, xf15, xf16, xf17, xf18, xf19, xf20, xf21, xf22, xf23, xf24, xf25, xf26, xf27⟩ := rfs h0'
      simp (disch := omega) only [lc_X10_hangs_2, la_X10_hangs_2, lu_X10_hangs_2, s_step, x_out, s_seq, s_ite, s_ret, s_retZ, s_retV, s_iasg, s_aasg, s_lasg, s_inc, s_put, s_putop, s_ast, s_astop, s_exp, s_call, s_skip, s_brk, s_cont, s_oinit, e_lit, e_long, e_il, e_al, e_ll, e_bin, e_un, e_fld, e_ald, e_tern, e_call, e_alen, b_cmp, b_cmp0, b_lcmp, b_and, b_or, b_not, o_add, o_sub, o_mul, o_and, o_or, o_xor, o_shl, o_shr, o_neg, o_i2l, o_l2i, o_i2c, r_eq, r_ne, r_lt, r_ge, r_gt, r_le, r_eq0, r_ne0, r_lt0, r_ge0, r_gt0, r_le0, x_int, x_ref, x_long, x_args, x_nar, xKd, xst1, xst2, xlg, Option.bind_some, Option.bind_none, Option.map_some, Option.map_none, List.getElem?_cons_zero, List.getElem?_cons_succ, List.set_cons_zero, List.set_cons_succ, List.length_cons, List.length_nil, List.length_map, List.length_range, List.length_set, decide_eq_true_eq, if_true, if_false, reduceIte, reduceCtorEq, Bool.not_true, Bool.not_false, Bool.false_eq_true, x_ix_nI, ax_get, ax_set, e_aald, s_aast, true_and, and_true, ite_true, ite_false, ↓bI_01, bI_eq0, bI_eq1, bool_or, tern_pure, and_pure, or_pure, bI_def, bne_t, ndf, decide_not, Bool.decide_eq_true, Bool.decide_and, Bool.decide_or, Nat.reduceEqDiff, Nat.reduceAdd, Nat.reduceMul, Nat.reduceSub, Nat.reduceLT, Nat.reduceLeDiff, or_false, false_or, or_true, true_or, and_false, false_and, Bool.or_eq_true, Bool.and_eq_true, Bool.or_false, Bool.or_true, Bool.true_or, Bool.false_or, Bool.and_true, Bool.and_false, Bool.true_and, Bool.false_and, decide_true, decide_false, not_true_eq_false, not_false_eq_true, xf0, xf1, xf2, xf3, xf4, xf5, xf6, xf7, xf8, xf9, xf10, xf11, xf12, xf13, xf14, xf15, xf16, xf17, xf18, xf19, xf20, xf21, xf22, xf23, xf24, xf25, xf26, xf27, nI_ltI, Nat.lt_irrefl])
  have V2 : RV h2 P f := V.same fun b b1 b2 => F2.2.2 b (by omega)
  have LB := ltS_B (E := hgE S w set) O (pN P) (Nat.le_refl _)
  unfold hgB
  generalize ltS P (hgE S w set) (pN P) = L at K2 LB ⊢
  obtain ⟨g2, m1, m2⟩ := K2
  have tp := T.2.1 w hw
  have hl3 := s_loop_run (c := lc_X10_hangs_3) (a := la_X10_hangs_3) (u := lu_X10_hangs_3) (fun i => ([some (.ref 106), some (.int (nI w)), some (.int (nI set)), some (.int (bI ((List.range i).find? fun s => !(!sUn S w s || decide (L (pA P s) = L (tP S w)))).isNone)), some (.int (nI i))], h2)) (none, [some (.ref 106), some (.int (nI w)), some (.int (nI set)), some (.int (bI ((List.range (pN P)).find? fun s => !(!sUn S w s || decide (L (pA P s) = L (tP S w)))).isNone)), some (.int (nI (pN P)))], h2) (pN P) 1000 (by omega)
    (fun i hi => by
      obtain ⟨⟨q', kk', sn', tx', z', h0'⟩, hr', -, ⟨fa, pa, va⟩, -⟩ := id V2
      have h0' : h2[106]? = some (.inl (10, _)) := h0'
      obtain ⟨q1, q2, q3, q4⟩ := O.2.2.2.2.2.2.1 i hi
      have rw := ax_row hr'
      have ra := ax_row pa
      have ea := va i hi
      have rl := ax_row m1
      have b1 := B.2.2.2.2.2 w hw i hi
      rw [Nat.zero_add] at b1
      have b2 := B.2.2.1 w hw
      rw [Nat.zero_add] at b2
      have t3 := T.2.2 (9 * w + i) (by omega)
      have e3 := oI_eq0 (x := tA S (9 * w + i)) (by omega) (by omega)
      have hlt : 22 + 9 * w + i < 696 := by omega
      have hl10 : 10 + w < 696 := by omega
      have hi9 : i < 9 := by omega
      have a8 : pA P i < 8 := by omega
      have t8 : tP S w < 8 := by omega
      have v1 := m2 (pA P i) q2
      have v2 := m2 (tP S w) tp
      have lb1 := LB (pA P i) q2
      have lb2 := LB (tP S w) tp
      have ne : (nI (L (pA P i)) = nI (L (tP S w))) = (L (pA P i) = L (tP S w)) := propext (nI_eq (by omega) (by omega))
      have st := find_isNone (p := fun s => !(!sUn S w s || decide (L (pA P s) = L (tP S w)))) (n := i)
      generalize ((List.range (i + 1)).find? fun s => !(!sUn S w s || decide (L (pA P s) = L (tP S w)))).isNone = x' at st ⊢
      generalize ((List.range i).find? fun s => !(!sUn S w s || decide (L (pA P s) = L (tP S w)))).isNone = x at st ⊢
      have su : sUn S w i = decide (¬ tA S (9 * w + i) = 0) := rfl
      have c1 : lc_X10_hangs_3 [some (.ref 106), some (.int (nI w)), some (.int (nI set)), some (.int (bI x)), some (.int (nI i))] h2 = some (true, h2) := by
        obtain ⟨xf0, xf1, xf2, xf3, xf4, xf5, xf6, xf7, xf8, xf9, xf10, xf11, xf12, xf13, xf14, xf15, xf16, xf17, xf18, xf19, xf20, xf21, xf22, xf23, xf24, xf25, xf26, xf27⟩ := rfs h0'
        simp (disch := omega) only [lc_X10_hangs_3, x_out, s_seq, s_ite, s_ret, s_retZ, s_retV, s_iasg, s_aasg, s_lasg, s_inc, s_put, s_putop, s_ast, s_astop, s_exp, s_call, s_skip, s_brk, s_cont, s_oinit, e_lit, e_long, e_il, e_al, e_ll, e_bin, e_un, e_fld, e_ald, e_tern, e_call, e_alen, b_cmp, b_cmp0, b_lcmp, b_and, b_or, b_not, o_add, o_sub, o_mul, o_and, o_or, o_xor, o_shl, o_shr, o_neg, o_i2l, o_l2i, o_i2c, r_eq, r_ne, r_lt, r_ge, r_gt, r_le, r_eq0, r_ne0, r_lt0, r_ge0, r_gt0, r_le0, x_int, x_ref, x_long, x_args, x_nar, xKd, xst1, xst2, xlg, Option.bind_some, Option.bind_none, Option.map_some, Option.map_none, List.getElem?_cons_zero, List.getElem?_cons_succ, List.set_cons_zero, List.set_cons_succ, List.length_cons, List.length_nil, List.length_map, List.length_range, List.length_set, decide_eq_true_eq, if_true, if_false, reduceIte, reduceCtorEq, Bool.not_true, Bool.not_false, Bool.false_eq_true, x_ix_nI, ax_get, ax_set, e_aald, s_aast, true_and, and_true, ite_true, ite_false, ↓bI_01, bI_eq0, bI_eq1, bool_or, tern_pure, and_pure, or_pure, bI_def, bne_t, ndf, decide_not, Bool.decide_eq_true, Bool.decide_and, Bool.decide_or, Nat.reduceEqDiff, Nat.reduceAdd, Nat.reduceMul, Nat.reduceSub, Nat.reduceLT, Nat.reduceLeDiff, or_false, false_or, or_true, true_or, and_false, false_and, Bool.or_eq_true, Bool.and_eq_true, Bool.or_false, Bool.or_true, Bool.true_or, Bool.false_or, Bool.and_true, Bool.and_false, Bool.true_and, Bool.false_and, decide_true, decide_false, not_true_eq_false, not_false_eq_true, xf0, xf1, xf2, xf3, xf4, xf5, xf6, xf7, xf8, xf9, xf10, xf11, xf12, xf13, xf14, xf15, xf16, xf17, xf18, xf19, xf20, xf21, xf22, xf23, xf24, xf25, xf26, xf27, nI_ltI, hi]
      have c2 : (b_and (b_cmp0 r_ne0 (e_il 3)) (b_or (b_cmp0 r_eq0 (e_ald 0 (e_fld 10 0 (e_al 0)) (e_bin o_add (e_bin o_add (e_lit 22) (e_bin o_mul (e_lit 9) (e_il 1))) (e_il 4)))) (b_cmp r_eq (e_ald 0 (e_fld 10 27 (e_al 0)) (e_ald 0 (e_fld 10 6 (e_al 0)) (e_il 4))) (e_ald 0 (e_fld 10 27 (e_al 0)) (e_ald 0 (e_fld 10 0 (e_al 0)) (e_bin o_add (e_lit 10) (e_il 1))))))) [some (.ref 106), some (.int (nI w)), some (.int (nI set)), some (.int (bI x)), some (.int (nI i))] h2 = some (x && (decide (tA S (9 * w + i) = 0) || decide (L (pA P i) = L (tP S w))), h2) := by
        obtain ⟨xf0, xf1, xf2, xf3, xf4, xf5, xf6, xf7, xf8, xf9, xf10, xf11, xf12, xf13, xf14, xf15, xf16, xf17, xf18, xf19, xf20, xf21, xf22, xf23, xf24, xf25, xf26, xf27⟩ := rfs h0'
        exact b_and_p (by cases x <;> simp only [x_out, s_seq, s_ite, s_ret, s_retZ, s_retV, s_iasg, s_aasg, s_lasg, s_inc, s_put, s_putop, s_ast, s_astop, s_exp, s_call, s_skip, s_brk, s_cont, s_oinit, e_lit, e_long, e_il, e_al, e_ll, e_bin, e_un, e_fld, e_ald, e_tern, e_call, e_alen, b_cmp, b_cmp0, b_lcmp, b_and, b_or, b_not, o_add, o_sub, o_mul, o_and, o_or, o_xor, o_shl, o_shr, o_neg, o_i2l, o_l2i, o_i2c, r_eq, r_ne, r_lt, r_ge, r_gt, r_le, r_eq0, r_ne0, r_lt0, r_ge0, r_gt0, r_le0, x_int, x_ref, x_long, x_args, x_nar, xKd, xst1, xst2, xlg, Option.bind_some, Option.bind_none, Option.map_some, Option.map_none, List.getElem?_cons_zero, List.getElem?_cons_succ, List.set_cons_zero, List.set_cons_succ, List.length_cons, List.length_nil, List.length_map, List.length_range, List.length_set, decide_eq_true_eq, if_true, if_false, reduceIte, reduceCtorEq, Bool.not_true, Bool.not_false, Bool.false_eq_true, x_ix_nI, ax_get, ax_set, e_aald, s_aast, true_and, and_true, ite_true, ite_false, ↓bI_01, bI_eq0, bI_eq1, bool_or, tern_pure, and_pure, or_pure, bI_def, bne_t, ndf, decide_not, Bool.decide_eq_true, Bool.decide_and, Bool.decide_or, Nat.reduceEqDiff, Nat.reduceAdd, Nat.reduceMul, Nat.reduceSub, Nat.reduceLT, Nat.reduceLeDiff, or_false, false_or, or_true, true_or, and_false, false_and, Bool.or_eq_true, Bool.and_eq_true, Bool.or_false, Bool.or_true, Bool.true_or, Bool.false_or, Bool.and_true, Bool.and_false, Bool.true_and, Bool.false_and, decide_true, decide_false, not_true_eq_false, not_false_eq_true, xf0, xf1, xf2, xf3, xf4, xf5, xf6, xf7, xf8, xf9, xf10, xf11, xf12, xf13, xf14, xf15, xf16, xf17, xf18, xf19, xf20, xf21, xf22, xf23, xf24, xf25, xf26, xf27]) (fun _ => b_or_p (by simp (disch := omega) only [x_out, s_seq, s_ite, s_ret, s_retZ, s_retV, s_iasg, s_aasg, s_lasg, s_inc, s_put, s_putop, s_ast, s_astop, s_exp, s_call, s_skip, s_brk, s_cont, s_oinit, e_lit, e_long, e_il, e_al, e_ll, e_bin, e_un, e_fld, e_ald, e_tern, e_call, e_alen, b_cmp, b_cmp0, b_lcmp, b_and, b_or, b_not, o_add, o_sub, o_mul, o_and, o_or, o_xor, o_shl, o_shr, o_neg, o_i2l, o_l2i, o_i2c, r_eq, r_ne, r_lt, r_ge, r_gt, r_le, r_eq0, r_ne0, r_lt0, r_ge0, r_gt0, r_le0, x_int, x_ref, x_long, x_args, x_nar, xKd, xst1, xst2, xlg, Option.bind_some, Option.bind_none, Option.map_some, Option.map_none, List.getElem?_cons_zero, List.getElem?_cons_succ, List.set_cons_zero, List.set_cons_succ, List.length_cons, List.length_nil, List.length_map, List.length_range, List.length_set, decide_eq_true_eq, if_true, if_false, reduceIte, reduceCtorEq, Bool.not_true, Bool.not_false, Bool.false_eq_true, x_ix_nI, ax_get, ax_set, e_aald, s_aast, true_and, and_true, ite_true, ite_false, ↓bI_01, bI_eq0, bI_eq1, bool_or, tern_pure, and_pure, or_pure, bI_def, bne_t, ndf, decide_not, Bool.decide_eq_true, Bool.decide_and, Bool.decide_or, Nat.reduceEqDiff, Nat.reduceAdd, Nat.reduceMul, Nat.reduceSub, Nat.reduceLT, Nat.reduceLeDiff, or_false, false_or, or_true, true_or, and_false, false_and, Bool.or_eq_true, Bool.and_eq_true, Bool.or_false, Bool.or_true, Bool.true_or, Bool.false_or, Bool.and_true, Bool.and_false, Bool.true_and, Bool.false_and, decide_true, decide_false, not_true_eq_false, not_false_eq_true, xf0, xf1, xf2, xf3, xf4, xf5, xf6, xf7, xf8, xf9, xf10, xf11, xf12, xf13, xf14, xf15, xf16, xf17, xf18, xf19, xf20, xf21, xf22, xf23, xf24, xf25, xf26, xf27, l9, l22, nI_m, nI_add, rw, hlt, b1, e3]) (fun _ => by simp (disch := omega) only [x_out, s_seq, s_ite, s_ret, s_retZ, s_retV, s_iasg, s_aasg, s_lasg, s_inc, s_put, s_putop, s_ast, s_astop, s_exp, s_call, s_skip, s_brk, s_cont, s_oinit, e_lit, e_long, e_il, e_al, e_ll, e_bin, e_un, e_fld, e_ald, e_tern, e_call, e_alen, b_cmp, b_cmp0, b_lcmp, b_and, b_or, b_not, o_add, o_sub, o_mul, o_and, o_or, o_xor, o_shl, o_shr, o_neg, o_i2l, o_l2i, o_i2c, r_eq, r_ne, r_lt, r_ge, r_gt, r_le, r_eq0, r_ne0, r_lt0, r_ge0, r_gt0, r_le0, x_int, x_ref, x_long, x_args, x_nar, xKd, xst1, xst2, xlg, Option.bind_some, Option.bind_none, Option.map_some, Option.map_none, List.getElem?_cons_zero, List.getElem?_cons_succ, List.set_cons_zero, List.set_cons_succ, List.length_cons, List.length_nil, List.length_map, List.length_range, List.length_set, decide_eq_true_eq, if_true, if_false, reduceIte, reduceCtorEq, Bool.not_true, Bool.not_false, Bool.false_eq_true, x_ix_nI, ax_get, ax_set, e_aald, s_aast, true_and, and_true, ite_true, ite_false, ↓bI_01, bI_eq0, bI_eq1, bool_or, tern_pure, and_pure, or_pure, bI_def, bne_t, ndf, decide_not, Bool.decide_eq_true, Bool.decide_and, Bool.decide_or, Nat.reduceEqDiff, Nat.reduceAdd, Nat.reduceMul, Nat.reduceSub, Nat.reduceLT, Nat.reduceLeDiff, or_false, false_or, or_true, true_or, and_false, false_and, Bool.or_eq_true, Bool.and_eq_true, Bool.or_false, Bool.or_true, Bool.true_or, Bool.false_or, Bool.and_true, Bool.and_false, Bool.true_and, Bool.false_and, decide_true, decide_false, not_true_eq_false, not_false_eq_true, xf0, xf1, xf2, xf3, xf4, xf5, xf6, xf7, xf8, xf9, xf10, xf11, xf12, xf13, xf14, xf15, xf16, xf17, xf18, xf19, xf20, xf21, xf22, xf23, xf24, xf25, xf26, xf27, l10, nI_add, rw, ra, rl, hl10, hi9, a8, t8, ea, b2, v1, v2, ne]))
      have ev : (x && (decide (tA S (9 * w + i) = 0) || decide (L (pA P i) = L (tP S w)))) = x' := by
        rw [st, su]
        by_cases y1 : tA S (9 * w + i) = 0 <;> simp [y1]
      rw [ev] at c2
      refine s_step_on c1 (env1 := [some (.ref 106), some (.int (nI w)), some (.int (nI set)), some (.int (bI x')), some (.int (nI i))]) (h1 := h2) ?_ ?_
      · unfold la_X10_hangs_3
        cases x' <;> simp only [s_iasg, e_tern, c2, Option.bind_some, if_true, Bool.false_eq_true, if_false, e_lit, x_int, xst1] <;> rfl
      · simp only [lu_X10_hangs_3, x_out, s_seq, s_ite, s_ret, s_retZ, s_retV, s_iasg, s_aasg, s_lasg, s_inc, s_put, s_putop, s_ast, s_astop, s_exp, s_call, s_skip, s_brk, s_cont, s_oinit, e_lit, e_long, e_il, e_al, e_ll, e_bin, e_un, e_fld, e_ald, e_tern, e_call, e_alen, b_cmp, b_cmp0, b_lcmp, b_and, b_or, b_not, o_add, o_sub, o_mul, o_and, o_or, o_xor, o_shl, o_shr, o_neg, o_i2l, o_l2i, o_i2c, r_eq, r_ne, r_lt, r_ge, r_gt, r_le, r_eq0, r_ne0, r_lt0, r_ge0, r_gt0, r_le0, x_fld, x_int, x_ref, x_long, x_args, x_nar, xKd, xst1, xst2, xlg, Option.bind_some, Option.bind_none, Option.map_some, Option.map_none, List.getElem?_cons_zero, List.getElem?_cons_succ, List.set_cons_zero, List.set_cons_succ, List.length_cons, List.length_nil, List.length_map, List.length_range, List.length_set, decide_eq_true_eq, if_true, if_false, reduceIte, reduceCtorEq, Bool.not_true, Bool.not_false, Bool.false_eq_true, x_ix_nI, ax_get, ax_set, e_aald, s_aast, true_and, and_true, ite_true, ite_false, ↓bI_01, bI_eq0, bI_eq1, bool_or, tern_pure, and_pure, or_pure, bI_def, bne_t, ndf, decide_not, Bool.decide_eq_true, Bool.decide_and, Bool.decide_or, Nat.reduceEqDiff, Nat.reduceAdd, Nat.reduceMul, Nat.reduceSub, Nat.reduceLT, Nat.reduceLeDiff, or_false, false_or, or_true, true_or, and_false, false_and, Bool.or_eq_true, Bool.and_eq_true, Bool.or_false, Bool.or_true, Bool.true_or, Bool.false_or, Bool.and_true, Bool.and_false, Bool.true_and, Bool.false_and, decide_true, decide_false, not_true_eq_false, not_false_eq_true, nI_1])
    (by
      obtain ⟨⟨q', kk', sn', tx', z', h0'⟩, -⟩ := id V2
      have h0' : h2[106]? = some (.inl (10, _)) := h0'
      obtain ⟨xf0, xf1, xf2, xf3, xf4, xf5, xf6, xf7, xf8, xf9, xf10, xf11, xf12, xf13, xf14, xf15, xf16, xf17, xf18, xf19, xf20, xf21, xf22, xf23, xf24, xf25, xf26, xf27⟩ := rfs h0'
      simp (disch := omega) only [lc_X10_hangs_3, la_X10_hangs_3, lu_X10_hangs_3, s_step, x_out, s_seq, s_ite, s_ret, s_retZ, s_retV, s_iasg, s_aasg, s_lasg, s_inc, s_put, s_putop, s_ast, s_astop, s_exp, s_call, s_skip, s_brk, s_cont, s_oinit, e_lit, e_long, e_il, e_al, e_ll, e_bin, e_un, e_fld, e_ald, e_tern, e_call, e_alen, b_cmp, b_cmp0, b_lcmp, b_and, b_or, b_not, o_add, o_sub, o_mul, o_and, o_or, o_xor, o_shl, o_shr, o_neg, o_i2l, o_l2i, o_i2c, r_eq, r_ne, r_lt, r_ge, r_gt, r_le, r_eq0, r_ne0, r_lt0, r_ge0, r_gt0, r_le0, x_int, x_ref, x_long, x_args, x_nar, xKd, xst1, xst2, xlg, Option.bind_some, Option.bind_none, Option.map_some, Option.map_none, List.getElem?_cons_zero, List.getElem?_cons_succ, List.set_cons_zero, List.set_cons_succ, List.length_cons, List.length_nil, List.length_map, List.length_range, List.length_set, decide_eq_true_eq, if_true, if_false, reduceIte, reduceCtorEq, Bool.not_true, Bool.not_false, Bool.false_eq_true, x_ix_nI, ax_get, ax_set, e_aald, s_aast, true_and, and_true, ite_true, ite_false, ↓bI_01, bI_eq0, bI_eq1, bool_or, tern_pure, and_pure, or_pure, bI_def, bne_t, ndf, decide_not, Bool.decide_eq_true, Bool.decide_and, Bool.decide_or, Nat.reduceEqDiff, Nat.reduceAdd, Nat.reduceMul, Nat.reduceSub, Nat.reduceLT, Nat.reduceLeDiff, or_false, false_or, or_true, true_or, and_false, false_and, Bool.or_eq_true, Bool.and_eq_true, Bool.or_false, Bool.or_true, Bool.true_or, Bool.false_or, Bool.and_true, Bool.and_false, Bool.true_and, Bool.false_and, decide_true, decide_false, not_true_eq_false, not_false_eq_true, xf0, xf1, xf2, xf3, xf4, xf5, xf6, xf7, xf8, xf9, xf10, xf11, xf12, xf13, xf14, xf15, xf16, xf17, xf18, xf19, xf20, xf21, xf22, xf23, xf24, xf25, xf26, xf27, nI_ltI, Nat.lt_irrefl])
  have z1 : bI ((List.range 0).find? fun s => !(!sUn S w s || decide (L (pA P s) = L (tP S w)))).isNone = 1 := rfl
  rw [z1, nI_0] at hl3
  rw [nI_0] at e1 e2
  refine ⟨h2, ?_, ⟨g2, m1⟩, F2⟩
  refine xM_run (env := [some (.ref 106), some (.int (nI w)), some (.int (nI set)), none, none]) h0 rfl rfl (Nat.le_of_ble_eq_true rfl) rfl ?_ rfl
  unfold bd_X10_hangs
  rw [s_seq_n (show (s_iasg 3 (e_lit 0)) _ h = some (none, [some (.ref 106), some (.int (nI w)), some (.int (nI set)), some (.int 0), none], h) from rfl), s_seq_n e1, s_seq_n (show (s_iasg 3 (e_lit 0)) _ h1 = some (none, [some (.ref 106), some (.int (nI w)), some (.int (nI set)), some (.int 0), none], h1) from rfl), s_seq_n e2, s_seq_n (show (s_iasg 3 (e_lit 1)) _ h2 = some (none, [some (.ref 106), some (.int (nI w)), some (.int (nI set)), some (.int 1), none], h2) from rfl), s_seq_n (show (s_iasg 4 (e_lit 0)) _ h2 = some (none, [some (.ref 106), some (.int (nI w)), some (.int (nI set)), some (.int 1), some (.int 0)], h2) from rfl), s_seq_n hl3]
  generalize ((List.range (pN P)).find? fun s => !(!sUn S w s || decide (L (pA P s) = L (tP S w)))).isNone = bb
  simp only [x_out, s_seq, s_ite, s_ret, s_retZ, s_retV, s_iasg, s_aasg, s_lasg, s_inc, s_put, s_putop, s_ast, s_astop, s_exp, s_call, s_skip, s_brk, s_cont, s_oinit, e_lit, e_long, e_il, e_al, e_ll, e_bin, e_un, e_fld, e_ald, e_tern, e_call, e_alen, b_cmp, b_cmp0, b_lcmp, b_and, b_or, b_not, o_add, o_sub, o_mul, o_and, o_or, o_xor, o_shl, o_shr, o_neg, o_i2l, o_l2i, o_i2c, r_eq, r_ne, r_lt, r_ge, r_gt, r_le, r_eq0, r_ne0, r_lt0, r_ge0, r_gt0, r_le0, x_fld, x_int, x_ref, x_long, x_args, x_nar, xKd, xst1, xst2, xlg, Option.bind_some, Option.bind_none, Option.map_some, Option.map_none, List.getElem?_cons_zero, List.getElem?_cons_succ, List.set_cons_zero, List.set_cons_succ, List.length_cons, List.length_nil, List.length_map, List.length_range, List.length_set, decide_eq_true_eq, if_true, if_false, reduceIte, reduceCtorEq, Bool.not_true, Bool.not_false, Bool.false_eq_true, x_ix_nI, ax_get, ax_set, e_aald, s_aast, true_and, and_true, ite_true, ite_false, ↓bI_01, bI_eq0, bI_eq1, bool_or, tern_pure, and_pure, or_pure, bI_def, bne_t, ndf, decide_not, Bool.decide_eq_true, Bool.decide_and, Bool.decide_or, Nat.reduceEqDiff, Nat.reduceAdd, Nat.reduceMul, Nat.reduceSub, Nat.reduceLT, Nat.reduceLeDiff, or_false, false_or, or_true, true_or, and_false, false_and, Bool.or_eq_true, Bool.and_eq_true, Bool.or_false, Bool.or_true, Bool.true_or, Bool.false_or, Bool.and_true, Bool.and_false, Bool.true_and, Bool.false_and, decide_true, decide_false, not_true_eq_false, not_false_eq_true]
theorem owedOut_r (V : RV h P f) (O : POK P) (B : Bk f 0 P S) {w g : Nat} (hw : w < pM P) (hg : g < pF P) : m_X10_owedOut [.ref 106, .int (nI w), .int (nI g)] h = some (some (.int (Int32.ofInt (lv P S w g))), h) := by
  have o2 := O.2.1
  have o5 := O.2.2.2.2.1
  have o6 := O.2.2.2.2.2.1
  obtain ⟨⟨q, kk, sn, tx, z, h0⟩, hrow, -, ⟨fa, pa, va⟩, ⟨fz, pz, vz⟩, -⟩ := id V
  have h0 : h[106]? = some (.inl (10, _)) := h0
  have ra := ax_row pa
  have rz := ax_row pz
  have rw := ax_row hrow
  have hl := s_loop_run (c := lc_X10_owedOut_1) (a := la_X10_owedOut_1) (u := lu_X10_owedOut_1) (fun i => ([some (.ref 106), some (.int (nI w)), some (.int (nI g)), some (.int (Int32.ofInt (lvI P S w i g))), some (.int (nI i))], h)) (none, [some (.ref 106), some (.int (nI w)), some (.int (nI g)), some (.int (Int32.ofInt (lvI P S w (pN P) g))), some (.int (nI (pN P)))], h) (pN P) 1000 (by omega)
    (fun i hi => by
      obtain ⟨q1, q2, q3, q4⟩ := O.2.2.2.2.2.2.1 i hi
      have ea := va i hi
      have ez := vz i hi
      have hi9 : i < 9 := by omega
      have b1 := B.2.2.2.2.2 w hw i hi
      rw [Nat.zero_add] at b1
      have hlt : 22 + 9 * w + i < 696 := by omega
      have n1 : (nI (pZ P i) = nI g) = (pZ P i = g) := propext (nI_eq (by omega) (by omega))
      have n2 : (nI (pA P i) = nI g) = (pA P i = g) := propext (nI_eq (by omega) (by omega))
      have s1 : (s_iasg 3 (e_bin o_add (e_il 3) (e_tern (b_cmp r_eq (e_ald 0 (e_fld 10 7 (e_al 0)) (e_il 4)) (e_il 2)) (e_ald 0 (e_fld 10 0 (e_al 0)) (e_bin o_add (e_bin o_add (e_lit 22) (e_bin o_mul (e_lit 9) (e_il 1))) (e_il 4))) (e_lit 0)))) [some (.ref 106), some (.int (nI w)), some (.int (nI g)), some (.int (Int32.ofInt (lvI P S w i g))), some (.int (nI i))] h = some (none, [some (.ref 106), some (.int (nI w)), some (.int (nI g)), some (.int (Int32.ofInt (lvI P S w i g + (if g = pZ P i then tA S (9 * w + i) else 0)))), some (.int (nI i))], h) := by
        obtain ⟨xf0, xf1, xf2, xf3, xf4, xf5, xf6, xf7, xf8, xf9, xf10, xf11, xf12, xf13, xf14, xf15, xf16, xf17, xf18, xf19, xf20, xf21, xf22, xf23, xf24, xf25, xf26, xf27⟩ := rfs h0
        by_cases y : pZ P i = g
        · rw [if_pos y.symm]
          simp (disch := omega) only [x_out, s_seq, s_ite, s_ret, s_retZ, s_retV, s_iasg, s_aasg, s_lasg, s_inc, s_put, s_putop, s_ast, s_astop, s_exp, s_call, s_skip, s_brk, s_cont, s_oinit, e_lit, e_long, e_il, e_al, e_ll, e_bin, e_un, e_fld, e_ald, e_tern, e_call, e_alen, b_cmp, b_cmp0, b_lcmp, b_and, b_or, b_not, o_add, o_sub, o_mul, o_and, o_or, o_xor, o_shl, o_shr, o_neg, o_i2l, o_l2i, o_i2c, r_eq, r_ne, r_lt, r_ge, r_gt, r_le, r_eq0, r_ne0, r_lt0, r_ge0, r_gt0, r_le0, x_int, x_ref, x_long, x_args, x_nar, xKd, xst1, xst2, xlg, Option.bind_some, Option.bind_none, Option.map_some, Option.map_none, List.getElem?_cons_zero, List.getElem?_cons_succ, List.set_cons_zero, List.set_cons_succ, List.length_cons, List.length_nil, List.length_map, List.length_range, List.length_set, decide_eq_true_eq, if_true, if_false, reduceIte, reduceCtorEq, Bool.not_true, Bool.not_false, Bool.false_eq_true, x_ix_nI, ax_get, ax_set, e_aald, s_aast, true_and, and_true, ite_true, ite_false, ↓bI_01, bI_eq0, bI_eq1, bool_or, tern_pure, and_pure, or_pure, bI_def, bne_t, ndf, decide_not, Bool.decide_eq_true, Bool.decide_and, Bool.decide_or, Nat.reduceEqDiff, Nat.reduceAdd, Nat.reduceMul, Nat.reduceSub, Nat.reduceLT, Nat.reduceLeDiff, or_false, false_or, or_true, true_or, and_false, false_and, Bool.or_eq_true, Bool.and_eq_true, Bool.or_false, Bool.or_true, Bool.true_or, Bool.false_or, Bool.and_true, Bool.and_false, Bool.true_and, Bool.false_and, decide_true, decide_false, not_true_eq_false, not_false_eq_true, xf0, xf1, xf2, xf3, xf4, xf5, xf6, xf7, xf8, xf9, xf10, xf11, xf12, xf13, xf14, xf15, xf16, xf17, xf18, xf19, xf20, xf21, xf22, xf23, xf24, xf25, xf26, xf27, l9, l22, nI_m, nI_add, rw, rz, hi9, hlt, ez, b1, n1, y, oI_add]
        · rw [if_neg (fun z => y z.symm)]
          simp (disch := omega) only [x_out, s_seq, s_ite, s_ret, s_retZ, s_retV, s_iasg, s_aasg, s_lasg, s_inc, s_put, s_putop, s_ast, s_astop, s_exp, s_call, s_skip, s_brk, s_cont, s_oinit, e_lit, e_long, e_il, e_al, e_ll, e_bin, e_un, e_fld, e_ald, e_tern, e_call, e_alen, b_cmp, b_cmp0, b_lcmp, b_and, b_or, b_not, o_add, o_sub, o_mul, o_and, o_or, o_xor, o_shl, o_shr, o_neg, o_i2l, o_l2i, o_i2c, r_eq, r_ne, r_lt, r_ge, r_gt, r_le, r_eq0, r_ne0, r_lt0, r_ge0, r_gt0, r_le0, x_int, x_ref, x_long, x_args, x_nar, xKd, xst1, xst2, xlg, Option.bind_some, Option.bind_none, Option.map_some, Option.map_none, List.getElem?_cons_zero, List.getElem?_cons_succ, List.set_cons_zero, List.set_cons_succ, List.length_cons, List.length_nil, List.length_map, List.length_range, List.length_set, decide_eq_true_eq, if_true, if_false, reduceIte, reduceCtorEq, Bool.not_true, Bool.not_false, Bool.false_eq_true, x_ix_nI, ax_get, ax_set, e_aald, s_aast, true_and, and_true, ite_true, ite_false, ↓bI_01, bI_eq0, bI_eq1, bool_or, tern_pure, and_pure, or_pure, bI_def, bne_t, ndf, decide_not, Bool.decide_eq_true, Bool.decide_and, Bool.decide_or, Nat.reduceEqDiff, Nat.reduceAdd, Nat.reduceMul, Nat.reduceSub, Nat.reduceLT, Nat.reduceLeDiff, or_false, false_or, or_true, true_or, and_false, false_and, Bool.or_eq_true, Bool.and_eq_true, Bool.or_false, Bool.or_true, Bool.true_or, Bool.false_or, Bool.and_true, Bool.and_false, Bool.true_and, Bool.false_and, decide_true, decide_false, not_true_eq_false, not_false_eq_true, xf0, xf1, xf2, xf3, xf4, xf5, xf6, xf7, xf8, xf9, xf10, xf11, xf12, xf13, xf14, xf15, xf16, xf17, xf18, xf19, xf20, xf21, xf22, xf23, xf24, xf25, xf26, xf27, l9, l22, nI_m, nI_add, rw, rz, hi9, hlt, ez, b1, n1, y, Int32.add_zero, Int.add_zero]
      have s2 : (s_iasg 3 (e_bin o_sub (e_il 3) (e_tern (b_cmp r_eq (e_ald 0 (e_fld 10 6 (e_al 0)) (e_il 4)) (e_il 2)) (e_ald 0 (e_fld 10 0 (e_al 0)) (e_bin o_add (e_bin o_add (e_lit 22) (e_bin o_mul (e_lit 9) (e_il 1))) (e_il 4))) (e_lit 0)))) [some (.ref 106), some (.int (nI w)), some (.int (nI g)), some (.int (Int32.ofInt (lvI P S w i g + (if g = pZ P i then tA S (9 * w + i) else 0)))), some (.int (nI i))] h = some (none, [some (.ref 106), some (.int (nI w)), some (.int (nI g)), some (.int (Int32.ofInt (lvI P S w (i + 1) g))), some (.int (nI i))], h) := by
        have st : lvI P S w (i + 1) g = lvI P S w i g + (if g = pZ P i then tA S (9 * w + i) else 0) - (if g = pA P i then tA S (9 * w + i) else 0) := rfl
        rw [st]
        generalize lvI P S w i g + (if g = pZ P i then tA S (9 * w + i) else 0) = x
        obtain ⟨xf0, xf1, xf2, xf3, xf4, xf5, xf6, xf7, xf8, xf9, xf10, xf11, xf12, xf13, xf14, xf15, xf16, xf17, xf18, xf19, xf20, xf21, xf22, xf23, xf24, xf25, xf26, xf27⟩ := rfs h0
        by_cases y : pA P i = g
        · rw [if_pos y.symm]
          simp (disch := omega) only [x_out, s_seq, s_ite, s_ret, s_retZ, s_retV, s_iasg, s_aasg, s_lasg, s_inc, s_put, s_putop, s_ast, s_astop, s_exp, s_call, s_skip, s_brk, s_cont, s_oinit, e_lit, e_long, e_il, e_al, e_ll, e_bin, e_un, e_fld, e_ald, e_tern, e_call, e_alen, b_cmp, b_cmp0, b_lcmp, b_and, b_or, b_not, o_add, o_sub, o_mul, o_and, o_or, o_xor, o_shl, o_shr, o_neg, o_i2l, o_l2i, o_i2c, r_eq, r_ne, r_lt, r_ge, r_gt, r_le, r_eq0, r_ne0, r_lt0, r_ge0, r_gt0, r_le0, x_int, x_ref, x_long, x_args, x_nar, xKd, xst1, xst2, xlg, Option.bind_some, Option.bind_none, Option.map_some, Option.map_none, List.getElem?_cons_zero, List.getElem?_cons_succ, List.set_cons_zero, List.set_cons_succ, List.length_cons, List.length_nil, List.length_map, List.length_range, List.length_set, decide_eq_true_eq, if_true, if_false, reduceIte, reduceCtorEq, Bool.not_true, Bool.not_false, Bool.false_eq_true, x_ix_nI, ax_get, ax_set, e_aald, s_aast, true_and, and_true, ite_true, ite_false, ↓bI_01, bI_eq0, bI_eq1, bool_or, tern_pure, and_pure, or_pure, bI_def, bne_t, ndf, decide_not, Bool.decide_eq_true, Bool.decide_and, Bool.decide_or, Nat.reduceEqDiff, Nat.reduceAdd, Nat.reduceMul, Nat.reduceSub, Nat.reduceLT, Nat.reduceLeDiff, or_false, false_or, or_true, true_or, and_false, false_and, Bool.or_eq_true, Bool.and_eq_true, Bool.or_false, Bool.or_true, Bool.true_or, Bool.false_or, Bool.and_true, Bool.and_false, Bool.true_and, Bool.false_and, decide_true, decide_false, not_true_eq_false, not_false_eq_true, xf0, xf1, xf2, xf3, xf4, xf5, xf6, xf7, xf8, xf9, xf10, xf11, xf12, xf13, xf14, xf15, xf16, xf17, xf18, xf19, xf20, xf21, xf22, xf23, xf24, xf25, xf26, xf27, l9, l22, nI_m, nI_add, rw, ra, hi9, hlt, ea, b1, n2, y, oI_sub]
        · rw [if_neg (fun z => y z.symm)]
          simp (disch := omega) only [x_out, s_seq, s_ite, s_ret, s_retZ, s_retV, s_iasg, s_aasg, s_lasg, s_inc, s_put, s_putop, s_ast, s_astop, s_exp, s_call, s_skip, s_brk, s_cont, s_oinit, e_lit, e_long, e_il, e_al, e_ll, e_bin, e_un, e_fld, e_ald, e_tern, e_call, e_alen, b_cmp, b_cmp0, b_lcmp, b_and, b_or, b_not, o_add, o_sub, o_mul, o_and, o_or, o_xor, o_shl, o_shr, o_neg, o_i2l, o_l2i, o_i2c, r_eq, r_ne, r_lt, r_ge, r_gt, r_le, r_eq0, r_ne0, r_lt0, r_ge0, r_gt0, r_le0, x_int, x_ref, x_long, x_args, x_nar, xKd, xst1, xst2, xlg, Option.bind_some, Option.bind_none, Option.map_some, Option.map_none, List.getElem?_cons_zero, List.getElem?_cons_succ, List.set_cons_zero, List.set_cons_succ, List.length_cons, List.length_nil, List.length_map, List.length_range, List.length_set, decide_eq_true_eq, if_true, if_false, reduceIte, reduceCtorEq, Bool.not_true, Bool.not_false, Bool.false_eq_true, x_ix_nI, ax_get, ax_set, e_aald, s_aast, true_and, and_true, ite_true, ite_false, ↓bI_01, bI_eq0, bI_eq1, bool_or, tern_pure, and_pure, or_pure, bI_def, bne_t, ndf, decide_not, Bool.decide_eq_true, Bool.decide_and, Bool.decide_or, Nat.reduceEqDiff, Nat.reduceAdd, Nat.reduceMul, Nat.reduceSub, Nat.reduceLT, Nat.reduceLeDiff, or_false, false_or, or_true, true_or, and_false, false_and, Bool.or_eq_true, Bool.and_eq_true, Bool.or_false, Bool.or_true, Bool.true_or, Bool.false_or, Bool.and_true, Bool.and_false, Bool.true_and, Bool.false_and, decide_true, decide_false, not_true_eq_false, not_false_eq_true, xf0, xf1, xf2, xf3, xf4, xf5, xf6, xf7, xf8, xf9, xf10, xf11, xf12, xf13, xf14, xf15, xf16, xf17, xf18, xf19, xf20, xf21, xf22, xf23, xf24, xf25, xf26, xf27, l9, l22, nI_m, nI_add, rw, ra, hi9, hlt, ea, b1, n2, y, Int32.sub_zero, Int.sub_zero]
      refine s_step_on (h0 := h) ?_ ((s_seq_n s1).trans s2) ?_
      · obtain ⟨xf0, xf1, xf2, xf3, xf4, xf5, xf6, xf7, xf8, xf9, xf10, xf11, xf12, xf13, xf14, xf15, xf16, xf17, xf18, xf19, xf20, xf21, xf22, xf23, xf24, xf25, xf26, xf27⟩ := rfs h0
        simp (disch := omega) only [lc_X10_owedOut_1, x_out, s_seq, s_ite, s_ret, s_retZ, s_retV, s_iasg, s_aasg, s_lasg, s_inc, s_put, s_putop, s_ast, s_astop, s_exp, s_call, s_skip, s_brk, s_cont, s_oinit, e_lit, e_long, e_il, e_al, e_ll, e_bin, e_un, e_fld, e_ald, e_tern, e_call, e_alen, b_cmp, b_cmp0, b_lcmp, b_and, b_or, b_not, o_add, o_sub, o_mul, o_and, o_or, o_xor, o_shl, o_shr, o_neg, o_i2l, o_l2i, o_i2c, r_eq, r_ne, r_lt, r_ge, r_gt, r_le, r_eq0, r_ne0, r_lt0, r_ge0, r_gt0, r_le0, x_int, x_ref, x_long, x_args, x_nar, xKd, xst1, xst2, xlg, Option.bind_some, Option.bind_none, Option.map_some, Option.map_none, List.getElem?_cons_zero, List.getElem?_cons_succ, List.set_cons_zero, List.set_cons_succ, List.length_cons, List.length_nil, List.length_map, List.length_range, List.length_set, decide_eq_true_eq, if_true, if_false, reduceIte, reduceCtorEq, Bool.not_true, Bool.not_false, Bool.false_eq_true, x_ix_nI, ax_get, ax_set, e_aald, s_aast, true_and, and_true, ite_true, ite_false, ↓bI_01, bI_eq0, bI_eq1, bool_or, tern_pure, and_pure, or_pure, bI_def, bne_t, ndf, decide_not, Bool.decide_eq_true, Bool.decide_and, Bool.decide_or, Nat.reduceEqDiff, Nat.reduceAdd, Nat.reduceMul, Nat.reduceSub, Nat.reduceLT, Nat.reduceLeDiff, or_false, false_or, or_true, true_or, and_false, false_and, Bool.or_eq_true, Bool.and_eq_true, Bool.or_false, Bool.or_true, Bool.true_or, Bool.false_or, Bool.and_true, Bool.and_false, Bool.true_and, Bool.false_and, decide_true, decide_false, not_true_eq_false, not_false_eq_true, xf0, xf1, xf2, xf3, xf4, xf5, xf6, xf7, xf8, xf9, xf10, xf11, xf12, xf13, xf14, xf15, xf16, xf17, xf18, xf19, xf20, xf21, xf22, xf23, xf24, xf25, xf26, xf27, nI_ltI, hi]
      · simp only [lu_X10_owedOut_1, x_out, s_seq, s_ite, s_ret, s_retZ, s_retV, s_iasg, s_aasg, s_lasg, s_inc, s_put, s_putop, s_ast, s_astop, s_exp, s_call, s_skip, s_brk, s_cont, s_oinit, e_lit, e_long, e_il, e_al, e_ll, e_bin, e_un, e_fld, e_ald, e_tern, e_call, e_alen, b_cmp, b_cmp0, b_lcmp, b_and, b_or, b_not, o_add, o_sub, o_mul, o_and, o_or, o_xor, o_shl, o_shr, o_neg, o_i2l, o_l2i, o_i2c, r_eq, r_ne, r_lt, r_ge, r_gt, r_le, r_eq0, r_ne0, r_lt0, r_ge0, r_gt0, r_le0, x_fld, x_int, x_ref, x_long, x_args, x_nar, xKd, xst1, xst2, xlg, Option.bind_some, Option.bind_none, Option.map_some, Option.map_none, List.getElem?_cons_zero, List.getElem?_cons_succ, List.set_cons_zero, List.set_cons_succ, List.length_cons, List.length_nil, List.length_map, List.length_range, List.length_set, decide_eq_true_eq, if_true, if_false, reduceIte, reduceCtorEq, Bool.not_true, Bool.not_false, Bool.false_eq_true, x_ix_nI, ax_get, ax_set, e_aald, s_aast, true_and, and_true, ite_true, ite_false, ↓bI_01, bI_eq0, bI_eq1, bool_or, tern_pure, and_pure, or_pure, bI_def, bne_t, ndf, decide_not, Bool.decide_eq_true, Bool.decide_and, Bool.decide_or, Nat.reduceEqDiff, Nat.reduceAdd, Nat.reduceMul, Nat.reduceSub, Nat.reduceLT, Nat.reduceLeDiff, or_false, false_or, or_true, true_or, and_false, false_and, Bool.or_eq_true, Bool.and_eq_true, Bool.or_false, Bool.or_true, Bool.true_or, Bool.false_or, Bool.and_true, Bool.and_false, Bool.true_and, Bool.false_and, decide_true, decide_false, not_true_eq_false, not_false_eq_true, nI_1])
    (by
      obtain ⟨xf0, xf1, xf2, xf3, xf4, xf5, xf6, xf7, xf8, xf9, xf10, xf11, xf12, xf13, xf14, xf15, xf16, xf17, xf18, xf19, xf20, xf21, xf22, xf23, xf24, xf25, xf26, xf27⟩ := rfs h0
      simp (disch := omega) only [lc_X10_owedOut_1, la_X10_owedOut_1, lu_X10_owedOut_1, s_step, x_out, s_seq, s_ite, s_ret, s_retZ, s_retV, s_iasg, s_aasg, s_lasg, s_inc, s_put, s_putop, s_ast, s_astop, s_exp, s_call, s_skip, s_brk, s_cont, s_oinit, e_lit, e_long, e_il, e_al, e_ll, e_bin, e_un, e_fld, e_ald, e_tern, e_call, e_alen, b_cmp, b_cmp0, b_lcmp, b_and, b_or, b_not, o_add, o_sub, o_mul, o_and, o_or, o_xor, o_shl, o_shr, o_neg, o_i2l, o_l2i, o_i2c, r_eq, r_ne, r_lt, r_ge, r_gt, r_le, r_eq0, r_ne0, r_lt0, r_ge0, r_gt0, r_le0, x_int, x_ref, x_long, x_args, x_nar, xKd, xst1, xst2, xlg, Option.bind_some, Option.bind_none, Option.map_some, Option.map_none, List.getElem?_cons_zero, List.getElem?_cons_succ, List.set_cons_zero, List.set_cons_succ, List.length_cons, List.length_nil, List.length_map, List.length_range, List.length_set, decide_eq_true_eq, if_true, if_false, reduceIte, reduceCtorEq, Bool.not_true, Bool.not_false, Bool.false_eq_true, x_ix_nI, ax_get, ax_set, e_aald, s_aast, true_and, and_true, ite_true, ite_false, ↓bI_01, bI_eq0, bI_eq1, bool_or, tern_pure, and_pure, or_pure, bI_def, bne_t, ndf, decide_not, Bool.decide_eq_true, Bool.decide_and, Bool.decide_or, Nat.reduceEqDiff, Nat.reduceAdd, Nat.reduceMul, Nat.reduceSub, Nat.reduceLT, Nat.reduceLeDiff, or_false, false_or, or_true, true_or, and_false, false_and, Bool.or_eq_true, Bool.and_eq_true, Bool.or_false, Bool.or_true, Bool.true_or, Bool.false_or, Bool.and_true, Bool.and_false, Bool.true_and, Bool.false_and, decide_true, decide_false, not_true_eq_false, not_false_eq_true, xf0, xf1, xf2, xf3, xf4, xf5, xf6, xf7, xf8, xf9, xf10, xf11, xf12, xf13, xf14, xf15, xf16, xf17, xf18, xf19, xf20, xf21, xf22, xf23, xf24, xf25, xf26, xf27, nI_ltI, Nat.lt_irrefl])
  have z1 : Int32.ofInt (lvI P S w 0 g) = 0 := rfl
  rw [z1, nI_0] at hl
  refine xM_run (env := [some (.ref 106), some (.int (nI w)), some (.int (nI g)), none, none]) h0 rfl rfl (Nat.le_of_ble_eq_true rfl) rfl ?_ rfl
  simp (disch := omega) only [bd_X10_owedOut, x_out, s_seq, s_ite, s_ret, s_retZ, s_retV, s_iasg, s_aasg, s_lasg, s_inc, s_put, s_putop, s_ast, s_astop, s_exp, s_call, s_skip, s_brk, s_cont, s_oinit, e_lit, e_long, e_il, e_al, e_ll, e_bin, e_un, e_fld, e_ald, e_tern, e_call, e_alen, b_cmp, b_cmp0, b_lcmp, b_and, b_or, b_not, o_add, o_sub, o_mul, o_and, o_or, o_xor, o_shl, o_shr, o_neg, o_i2l, o_l2i, o_i2c, r_eq, r_ne, r_lt, r_ge, r_gt, r_le, r_eq0, r_ne0, r_lt0, r_ge0, r_gt0, r_le0, x_fld, x_int, x_ref, x_long, x_args, x_nar, xKd, xst1, xst2, xlg, Option.bind_some, Option.bind_none, Option.map_some, Option.map_none, List.getElem?_cons_zero, List.getElem?_cons_succ, List.set_cons_zero, List.set_cons_succ, List.length_cons, List.length_nil, List.length_map, List.length_range, List.length_set, decide_eq_true_eq, if_true, if_false, reduceIte, reduceCtorEq, Bool.not_true, Bool.not_false, Bool.false_eq_true, x_ix_nI, ax_get, ax_set, e_aald, s_aast, true_and, and_true, ite_true, ite_false, ↓bI_01, bI_eq0, bI_eq1, bool_or, tern_pure, and_pure, or_pure, bI_def, bne_t, ndf, decide_not, Bool.decide_eq_true, Bool.decide_and, Bool.decide_or, Nat.reduceEqDiff, Nat.reduceAdd, Nat.reduceMul, Nat.reduceSub, Nat.reduceLT, Nat.reduceLeDiff, or_false, false_or, or_true, true_or, and_false, false_and, Bool.or_eq_true, Bool.and_eq_true, Bool.or_false, Bool.or_true, Bool.true_or, Bool.false_or, Bool.and_true, Bool.and_false, Bool.true_and, Bool.false_and, decide_true, decide_false, not_true_eq_false, not_false_eq_true, hl]
  rfl
end HM
/-- the reference's word for one walk -/
def owR (L : Nat → Int) (p F : Nat) : Bool := ((List.range F).find? fun f => !((decide (L f = 0) || decide (L f = -1)) || (decide (L f = 1) && decide (f = p)))).isNone && decide (cnt (fun f => decide (L f = -1)) F = if L p = 1 then 1 else 0)
def sI (L : Nat → Int) : Nat → Int
  | 0 => 0
  | n + 1 => sI L n + L n
theorem sI_en (L : Nat → Int) (p : Nat) : ∀ n, sI L n = -enI L p n + (if p < n then L p else 0) := by
  intro n
  induction n with
  | zero => simp [sI, enI]
  | succ n ih =>
    simp only [sI, enI, ih]
    by_cases q : n = p
    · subst q
      rw [if_pos rfl, if_neg (Nat.lt_irrefl n), if_pos (by omega)]
      omega
    · rw [if_neg q]
      by_cases q2 : p < n
      · rw [if_pos q2, if_pos (by omega)]; omega
      · rw [if_neg q2, if_neg (by omega)]; omega
theorem enI_nn {L : Nat → Int} {p : Nat} : ∀ {n : Nat}, (∀ f, f < n → f ≠ p → L f ≤ 0) → 0 ≤ enI L p n ∧ ∀ f, f < n → f ≠ p → -L f ≤ enI L p n := by
  intro n
  induction n with
  | zero => intro _; exact ⟨by simp [enI], fun f hf => absurd hf (by omega)⟩
  | succ n ih =>
    intro h
    obtain ⟨i1, i2⟩ := ih fun f hf => h f (by omega)
    simp only [enI]
    by_cases q : n = p
    · rw [if_pos q]
      refine ⟨i1, fun f hf hp => ?_⟩
      have : f ≠ n := fun z => hp (z.trans q)
      exact i2 f (by omega) hp
    · rw [if_neg q]
      have hn := h n (by omega) q
      refine ⟨by omega, fun f hf hp => ?_⟩
      by_cases e : f = n
      · subst e; omega
      · have := i2 f (by omega) hp
        omega
theorem enI_cnt {L : Nat → Int} {p : Nat} : ∀ {n : Nat}, (∀ f, f < n → f ≠ p → L f = 0 ∨ L f = -1) → enI L p n = (cnt (fun f => decide (L f = -1) && !decide (f = p)) n : Nat) := by
  intro n
  induction n with
  | zero => intro _; rfl
  | succ n ih =>
    intro h
    have i1 := ih fun f hf => h f (by omega)
    simp only [enI, cnt]
    by_cases q : n = p
    · rw [if_pos q, i1]
      simp [q]
    · rw [if_neg q, i1]
      rcases h n (by omega) q with e | e
      · simp [e]
      · simp [e, q]
theorem cnt_split {p : Nat → Bool} {k : Nat} : ∀ {n : Nat}, cnt p n = cnt (fun f => p f && !decide (f = k)) n + (if k < n ∧ p k = true then 1 else 0) := by
  intro n
  induction n with
  | zero => simp [cnt]
  | succ n ih =>
    simp only [cnt]
    rw [ih]
    by_cases q : n = k
    · subst q
      simp only [decide_true, Bool.not_true, Bool.and_false, Bool.false_eq_true, if_false]
      rw [if_neg (fun z => absurd z.1 (Nat.lt_irrefl _))]
      by_cases e : p n = true
      · rw [if_pos e, if_pos ⟨by omega, e⟩]
      · rw [if_neg e, if_neg (fun z => e z.2)]
    · simp only [decide_eq_false q, Bool.not_false, Bool.and_true]
      by_cases q2 : k < n ∧ p k = true
      · rw [if_pos q2, if_pos (c := k < n + 1 ∧ p k = true) ⟨by omega, q2.2⟩]; omega
      · rw [if_neg q2, if_neg (c := k < n + 1 ∧ p k = true) (fun z => q2 ⟨by omega, z.2⟩)]; omega
theorem ow_eq {L : Nat → Int} {p F : Nat} (hp : p < F) (hs : sI L F = 0) : owR L p F = owA L p F := by
  have se := sI_en L p F
  rw [if_pos hp, hs] at se
  have cs := cnt_split (p := fun f => decide (L f = -1)) (k := p) (n := F)
  rw [Bool.eq_iff_iff]
  unfold owR owA
  rw [Bool.and_eq_true, Bool.and_eq_true, find_isNone_iff, find_isNone_iff, decide_eq_true_eq, decide_eq_true_eq]
  constructor
  · rintro ⟨h1, h2⟩
    have ha : ∀ f, f < F → (L f = 0 ∨ L f = -1) ∨ (L f = 1 ∧ f = p) := fun f hf => by
      have := h1 f hf
      simp only [Bool.not_eq_false', Bool.or_eq_true, Bool.and_eq_true, decide_eq_true_eq] at this
      exact this
    have hb : ∀ f, f < F → f ≠ p → L f = 0 ∨ L f = -1 := fun f hf hne => by
      rcases ha f hf with e | e
      · exact e
      · exact absurd e.2 hne
    have ec := enI_cnt hb
    refine ⟨fun f hf => ?_, ?_⟩
    · by_cases e : f = p
      · simp [e]
      · rcases hb f hf e with y | y <;> simp [y]
    · rw [ec]
      split at h2 <;> omega
  · rintro ⟨h1, h2⟩
    have ha : ∀ f, f < F → f ≠ p → L f ≤ 0 := fun f hf hne => by
      have := h1 f hf
      simp [hne] at this
      exact this
    obtain ⟨n1, n2⟩ := enI_nn ha
    have hb : ∀ f, f < F → f ≠ p → L f = 0 ∨ L f = -1 := fun f hf hne => by
      have y1 := ha f hf hne
      have y2 := n2 f hf hne
      omega
    have ec := enI_cnt hb
    have lp : L p = 0 ∨ L p = 1 := by omega
    refine ⟨fun f hf => ?_, ?_⟩
    · by_cases e : f = p
      · subst e
        rcases lp with y | y <;> simp [y]
      · rcases hb f hf e with y | y <;> simp [y]
    · have np : ¬ (p < F ∧ decide (L p = -1) = true) := fun z => by
        have := of_decide_eq_true z.2
        omega
      rw [if_neg np] at cs
      rcases lp with y | y
      · rw [if_neg (by omega)]; omega
      · rw [if_pos y]; omega
theorem sI_one (c : Int) (k : Nat) : ∀ n, sI (fun i => if i = k then c else 0) n = if k < n then c else 0 := by
  intro n
  induction n with
  | zero => simp [sI]
  | succ n ih =>
    simp only [sI, ih]
    by_cases q : n = k
    · subst q; simp
    · by_cases q2 : k < n
      · simp [q, q2, show k < n + 1 by omega]
      · simp [q, q2, show ¬ k < n + 1 by omega]
theorem sI_add (f g : Nat → Int) : ∀ n, sI (fun i => f i + g i) n = sI f n + sI g n := by
  intro n
  induction n with
  | zero => rfl
  | succ n ih => simp only [sI, ih]; omega
theorem sI_sub (f g : Nat → Int) : ∀ n, sI (fun i => f i - g i) n = sI f n - sI g n := by
  intro n
  induction n with
  | zero => rfl
  | succ n ih => simp only [sI, ih]; omega
theorem lv_sum {P : XP} {S : XT} (O : POK P) {w : Nat} : sI (lv P S w) (pF P) = 0 := by
  have key : ∀ n, n ≤ pN P → sI (lvI P S w n) (pF P) = 0 := by
    intro n
    induction n with
    | zero =>
      intro _
      have : ∀ m, sI (lvI P S w 0) m = 0 := by
        intro m
        induction m with
        | zero => rfl
        | succ m ih =>
          show sI (lvI P S w 0) m + lvI P S w 0 m = 0
          rw [ih]
          rfl
      exact this _
    | succ n ih =>
      intro hn
      obtain ⟨-, q2, q3, -⟩ := O.2.2.2.2.2.2.1 n (by omega)
      have e : lvI P S w (n + 1) = fun f => (lvI P S w n f + (if f = pZ P n then tA S (9 * w + n) else 0)) - (if f = pA P n then tA S (9 * w + n) else 0) := rfl
      rw [e, sI_sub, sI_add, ih (by omega), sI_one, sI_one, if_pos q3, if_pos q2]
      omega
  exact key _ (Nat.le_refl _)
def fq : Option Nat → Nat
  | none => 1000000
  | some b => b
theorem evA_eq {P : XP} {S : XT} (O : POK P) {w : Nat} (hp : tP S w < pF P) : evA P S w = if owR (lv P S w) (tP S w) (pF P) = false then -4 else match evO P (sUn S w) (tP S w) with
    | none => -4
    | some o => nI (owT S w (pN P) + 2 * o) := by
  rw [ow_eq hp (lv_sum O)]
  unfold evA
  cases q : mZ (sUn S w) (pN P) with
  | false => rfl
  | true =>
    rw [if_pos rfl]
    have hz := mZ_iff.mp q
    have ha : ∀ s, s < pN P → tA S (9 * w + s) = 0 := fun s hs => by
      have := hz s hs
      unfold sUn at this
      simpa using this
    have l0 : ∀ n, n ≤ pN P → ∀ f, lvI P S w n f = 0 := by
      intro n
      induction n with
      | zero => intro _ f; rfl
      | succ n ih =>
        intro hn f
        show lvI P S w n f + (if f = pZ P n then tA S (9 * w + n) else 0) - (if f = pA P n then tA S (9 * w + n) else 0) = 0
        rw [ih (by omega), ha n (by omega)]
        split <;> split <;> rfl
    have l1 : ∀ f, lv P S w f = 0 := l0 _ (Nat.le_refl _)
    have en : ∀ n, enI (lv P S w) (tP S w) n = 0 := by
      intro n
      induction n with
      | zero => rfl
      | succ n ih =>
        simp only [enI, ih, l1]
        split <;> rfl
    have ow : owA (lv P S w) (tP S w) (pF P) = true := by
      unfold owA
      rw [Bool.and_eq_true, find_isNone_iff, decide_eq_true_eq, en]
      exact ⟨fun f hf => by simp [l1], by omega⟩
    have t0 : ∀ n, n ≤ pN P → owT S w n = 0 := by
      intro n
      induction n with
      | zero => intro _; rfl
      | succ n ih =>
        intro hn
        simp only [owT, ih (by omega), ha n (by omega)]
        rfl
    have e0 : evO P (sUn S w) (tP S w) = some 0 := by
      have h0 : evP P (sUn S w) (tP S w) 0 = true := by
        unfold evP
        rw [Bool.and_eq_true, mZ_iff, cmA_iff O.2.2.2.2.1]
        exact ⟨fun i hi => by rw [hz i hi]; rfl, fun s hs he => by simp at he⟩
      have c0 : evC P (sUn S w) 0 = 0 := by
        unfold evC
        have : ∀ n, cnt (fun k => (0 : Nat).testBit k && !sUn S w k) n = 0 := by
          intro n
          induction n with
          | zero => rfl
          | succ n ih =>
            show cnt (fun k => (0 : Nat).testBit k && !sUn S w k) n + (if ((0 : Nat).testBit n && !sUn S w n) = true then 1 else 0) = 0
            rw [ih]
            simp
        exact this _
      have hpos : 0 < 2 ^ pN P := Nat.pow_pos (by decide)
      cases hm : evO P (sUn S w) (tP S w) with
      | none =>
        rw [mnF_none hm 0 hpos] at h0
        cases h0
      | some m =>
        have := (mnF_some hm).2 0 hpos h0
        rw [c0] at this
        rw [show m = 0 by omega]
    rw [ow, e0, t0 _ (Nat.le_refl _)]
    rfl
section EM
variable {h : XH} {Y : XSy} {c : Nat} {P : XP} {S : XT} {f : Nat → Int32}
theorem isOwed_r (V : RV h P f) (O : POK P) (B : Bk f 0 P S) (T : TOK P c S) (hc : c ≤ 1000) {w : Nat} (hw : w < pM P) : m_X10_isOwed [.ref 106, .int (nI w)] h = some (some (.int (bI (owR (lv P S w) (tP S w) (pF P)))), h) := by
  have o2 := O.2.1
  have o5 := O.2.2.2.2.1
  have o6 := O.2.2.2.2.2.1
  obtain ⟨⟨q, kk, sn, tx, z, h0⟩, hrow, -⟩ := id V
  have h0 : h[106]? = some (.inl (10, _)) := h0
  have rw := ax_row hrow
  have tp := T.2.1 w hw
  have b2 := B.2.2.1 w hw
  rw [Nat.zero_add] at b2
  have hl10 : 10 + w < 696 := by omega
  have hB : ∀ g, -(20000 : Int) ≤ lv P S w g ∧ lv P S w g ≤ 20000 := fun g => by
    have b1 := lvI_B T (show w < 4 by omega) (pN P) o5 g
    have b2 : 2 * pN P * c ≤ 2 * 9 * 1000 := Nat.mul_le_mul (Nat.mul_le_mul_left 2 o5) hc
    unfold lv
    omega
  have ow := fun g (hg : g < pF P) => owedOut_r V O B hw hg
  have q0 : ∀ g, (Int32.ofInt (lv P S w g) = 0) = (lv P S w g = 0) := fun g => by
    have b := hB g
    exact oI_eq (x := lv P S w g) (y := 0) (by omega) (by omega) (by omega) (by omega)
  have q1 : ∀ g, (Int32.ofInt (lv P S w g) = 1) = (lv P S w g = 1) := fun g => by
    have b := hB g
    exact oI_eq (x := lv P S w g) (y := 1) (by omega) (by omega) (by omega) (by omega)
  have qm : ∀ g, (Int32.ofInt (lv P S w g) = -1) = (lv P S w g = -1) := fun g => by
    have b := hB g
    rw [show (-1 : Int32) = Int32.ofInt (-1) by decide]
    exact oI_eq (x := lv P S w g) (y := -1) (by omega) (by omega) (by omega) (by omega)
  unfold owR
  generalize lv P S w = L at ow q0 q1 qm ⊢
  generalize hpt : tP S w = p at tp b2 ⊢
  obtain ⟨env', h', e1, ⟨u5, rfl⟩, rfl⟩ := s_loop_J (c := lc_X10_isOwed_1) (a := la_X10_isOwed_1) (u := lu_X10_isOwed_1) (h := h) (env := [some (.ref 106), some (.int (nI w)), some (.int (nI 0)), some (.int 1), some (.int (nI 0)), none]) (fun i env k => (∃ u5, env = [some (.ref 106), some (.int (nI w)), some (.int (nI (cnt (fun f => decide (L f = -1)) i))), some (.int (bI ((List.range i).find? fun f => !((decide (L f = 0) || decide (L f = -1)) || (decide (L f = 1) && decide (f = p)))).isNone)), some (.int (nI i)), u5]) ∧ k = h) (pF P) 1000 (by omega) ⟨⟨none, rfl⟩, rfl⟩
    (fun i env k hi hJ => by
      obtain ⟨⟨u5, rfl⟩, rfl⟩ := hJ
      have o1 := ow i hi
      have st := find_isNone (p := fun f => !((decide (L f = 0) || decide (L f = -1)) || (decide (L f = 1) && decide (f = p)))) (n := i)
      have sc : cnt (fun f => decide (L f = -1)) (i + 1) = cnt (fun f => decide (L f = -1)) i + (if decide (L i = -1) = true then 1 else 0) := rfl
      generalize ((List.range (i + 1)).find? fun f => !((decide (L f = 0) || decide (L f = -1)) || (decide (L f = 1) && decide (f = p)))).isNone = x' at st ⊢
      generalize ((List.range i).find? fun f => !((decide (L f = 0) || decide (L f = -1)) || (decide (L f = 1) && decide (f = p)))).isNone = x at st ⊢
      generalize cnt (fun f => decide (L f = -1)) (i + 1) = cc' at sc ⊢
      generalize cnt (fun f => decide (L f = -1)) i = cc at sc ⊢
      have a0 := q0 i
      have a1 := q1 i
      have am := qm i
      have ni : (nI i = nI p) = (i = p) := propext (nI_eq (by omega) (by omega))
      have s1 : (s_iasg 5 (e_call m_X10_owedOut [(e_al 0), (e_il 1), (e_il 4)])) [some (.ref 106), some (.int (nI w)), some (.int (nI cc)), some (.int (bI x)), some (.int (nI i)), u5] k = some (none, [some (.ref 106), some (.int (nI w)), some (.int (nI cc)), some (.int (bI x)), some (.int (nI i)), some (.int (Int32.ofInt (L i)))], k) := by
        simp only [x_out, s_seq, s_ite, s_ret, s_retZ, s_retV, s_iasg, s_aasg, s_lasg, s_inc, s_put, s_putop, s_ast, s_astop, s_exp, s_call, s_skip, s_brk, s_cont, s_oinit, e_lit, e_long, e_il, e_al, e_ll, e_bin, e_un, e_fld, e_ald, e_tern, e_call, e_alen, b_cmp, b_cmp0, b_lcmp, b_and, b_or, b_not, o_add, o_sub, o_mul, o_and, o_or, o_xor, o_shl, o_shr, o_neg, o_i2l, o_l2i, o_i2c, r_eq, r_ne, r_lt, r_ge, r_gt, r_le, r_eq0, r_ne0, r_lt0, r_ge0, r_gt0, r_le0, x_fld, x_int, x_ref, x_long, x_args, x_nar, xKd, xst1, xst2, xlg, Option.bind_some, Option.bind_none, Option.map_some, Option.map_none, List.getElem?_cons_zero, List.getElem?_cons_succ, List.set_cons_zero, List.set_cons_succ, List.length_cons, List.length_nil, List.length_map, List.length_range, List.length_set, decide_eq_true_eq, if_true, if_false, reduceIte, reduceCtorEq, Bool.not_true, Bool.not_false, Bool.false_eq_true, x_ix_nI, ax_get, ax_set, e_aald, s_aast, true_and, and_true, ite_true, ite_false, ↓bI_01, bI_eq0, bI_eq1, bool_or, tern_pure, and_pure, or_pure, bI_def, bne_t, ndf, decide_not, Bool.decide_eq_true, Bool.decide_and, Bool.decide_or, Nat.reduceEqDiff, Nat.reduceAdd, Nat.reduceMul, Nat.reduceSub, Nat.reduceLT, Nat.reduceLeDiff, or_false, false_or, or_true, true_or, and_false, false_and, Bool.or_eq_true, Bool.and_eq_true, Bool.or_false, Bool.or_true, Bool.true_or, Bool.false_or, Bool.and_true, Bool.and_false, Bool.true_and, Bool.false_and, decide_true, decide_false, not_true_eq_false, not_false_eq_true, o1]
      have s2 : (s_iasg 2 (e_bin o_add (e_il 2) (e_tern (b_cmp r_eq (e_il 5) (e_lit (-1))) (e_lit 1) (e_lit 0)))) [some (.ref 106), some (.int (nI w)), some (.int (nI cc)), some (.int (bI x)), some (.int (nI i)), some (.int (Int32.ofInt (L i)))] k = some (none, [some (.ref 106), some (.int (nI w)), some (.int (nI cc')), some (.int (bI x)), some (.int (nI i)), some (.int (Int32.ofInt (L i)))], k) := by
        by_cases y : L i = -1
        · rw [if_pos (decide_eq_true y)] at sc
          have am : (Int32.ofInt (L i) = -1) = True := by rw [am]; exact eq_true y
          simp only [x_out, s_seq, s_ite, s_ret, s_retZ, s_retV, s_iasg, s_aasg, s_lasg, s_inc, s_put, s_putop, s_ast, s_astop, s_exp, s_call, s_skip, s_brk, s_cont, s_oinit, e_lit, e_long, e_il, e_al, e_ll, e_bin, e_un, e_fld, e_ald, e_tern, e_call, e_alen, b_cmp, b_cmp0, b_lcmp, b_and, b_or, b_not, o_add, o_sub, o_mul, o_and, o_or, o_xor, o_shl, o_shr, o_neg, o_i2l, o_l2i, o_i2c, r_eq, r_ne, r_lt, r_ge, r_gt, r_le, r_eq0, r_ne0, r_lt0, r_ge0, r_gt0, r_le0, x_fld, x_int, x_ref, x_long, x_args, x_nar, xKd, xst1, xst2, xlg, Option.bind_some, Option.bind_none, Option.map_some, Option.map_none, List.getElem?_cons_zero, List.getElem?_cons_succ, List.set_cons_zero, List.set_cons_succ, List.length_cons, List.length_nil, List.length_map, List.length_range, List.length_set, decide_eq_true_eq, if_true, if_false, reduceIte, reduceCtorEq, Bool.not_true, Bool.not_false, Bool.false_eq_true, x_ix_nI, ax_get, ax_set, e_aald, s_aast, true_and, and_true, ite_true, ite_false, ↓bI_01, bI_eq0, bI_eq1, bool_or, tern_pure, and_pure, or_pure, bI_def, bne_t, ndf, decide_not, Bool.decide_eq_true, Bool.decide_and, Bool.decide_or, Nat.reduceEqDiff, Nat.reduceAdd, Nat.reduceMul, Nat.reduceSub, Nat.reduceLT, Nat.reduceLeDiff, or_false, false_or, or_true, true_or, and_false, false_and, Bool.or_eq_true, Bool.and_eq_true, Bool.or_false, Bool.or_true, Bool.true_or, Bool.false_or, Bool.and_true, Bool.and_false, Bool.true_and, Bool.false_and, decide_true, decide_false, not_true_eq_false, not_false_eq_true, am, sc, bI_t, nI_1]
        · rw [if_neg (by simpa using y)] at sc
          have am : (Int32.ofInt (L i) = -1) = False := by rw [am]; exact eq_false y
          simp only [x_out, s_seq, s_ite, s_ret, s_retZ, s_retV, s_iasg, s_aasg, s_lasg, s_inc, s_put, s_putop, s_ast, s_astop, s_exp, s_call, s_skip, s_brk, s_cont, s_oinit, e_lit, e_long, e_il, e_al, e_ll, e_bin, e_un, e_fld, e_ald, e_tern, e_call, e_alen, b_cmp, b_cmp0, b_lcmp, b_and, b_or, b_not, o_add, o_sub, o_mul, o_and, o_or, o_xor, o_shl, o_shr, o_neg, o_i2l, o_l2i, o_i2c, r_eq, r_ne, r_lt, r_ge, r_gt, r_le, r_eq0, r_ne0, r_lt0, r_ge0, r_gt0, r_le0, x_fld, x_int, x_ref, x_long, x_args, x_nar, xKd, xst1, xst2, xlg, Option.bind_some, Option.bind_none, Option.map_some, Option.map_none, List.getElem?_cons_zero, List.getElem?_cons_succ, List.set_cons_zero, List.set_cons_succ, List.length_cons, List.length_nil, List.length_map, List.length_range, List.length_set, decide_eq_true_eq, if_true, if_false, reduceIte, reduceCtorEq, Bool.not_true, Bool.not_false, Bool.false_eq_true, x_ix_nI, ax_get, ax_set, e_aald, s_aast, true_and, and_true, ite_true, ite_false, ↓bI_01, bI_eq0, bI_eq1, bool_or, tern_pure, and_pure, or_pure, bI_def, bne_t, ndf, decide_not, Bool.decide_eq_true, Bool.decide_and, Bool.decide_or, Nat.reduceEqDiff, Nat.reduceAdd, Nat.reduceMul, Nat.reduceSub, Nat.reduceLT, Nat.reduceLeDiff, or_false, false_or, or_true, true_or, and_false, false_and, Bool.or_eq_true, Bool.and_eq_true, Bool.or_false, Bool.or_true, Bool.true_or, Bool.false_or, Bool.and_true, Bool.and_false, Bool.true_and, Bool.false_and, decide_true, decide_false, not_true_eq_false, not_false_eq_true, am, sc, bI_f, Int32.add_zero, Nat.add_zero]
      have c2 : (b_and (b_cmp0 r_ne0 (e_il 3)) (b_or (b_or (b_cmp0 r_eq0 (e_il 5)) (b_cmp r_eq (e_il 5) (e_lit (-1)))) (b_and (b_cmp r_eq (e_il 5) (e_lit 1)) (b_cmp r_eq (e_il 4) (e_ald 0 (e_fld 10 0 (e_al 0)) (e_bin o_add (e_lit 10) (e_il 1))))))) [some (.ref 106), some (.int (nI w)), some (.int (nI cc')), some (.int (bI x)), some (.int (nI i)), some (.int (Int32.ofInt (L i)))] k = some (x && ((decide (L i = 0) || decide (L i = -1)) || (decide (L i = 1) && decide (i = p))), k) := by
        obtain ⟨xf0, xf1, xf2, xf3, xf4, xf5, xf6, xf7, xf8, xf9, xf10, xf11, xf12, xf13, xf14, xf15, xf16, xf17, xf18, xf19, xf20, xf21, xf22, xf23, xf24, xf25, xf26, xf27⟩ := rfs h0
        exact b_and_p (by cases x <;> simp only [x_out, s_seq, s_ite, s_ret, s_retZ, s_retV, s_iasg, s_aasg, s_lasg, s_inc, s_put, s_putop, s_ast, s_astop, s_exp, s_call, s_skip, s_brk, s_cont, s_oinit, e_lit, e_long, e_il, e_al, e_ll, e_bin, e_un, e_fld, e_ald, e_tern, e_call, e_alen, b_cmp, b_cmp0, b_lcmp, b_and, b_or, b_not, o_add, o_sub, o_mul, o_and, o_or, o_xor, o_shl, o_shr, o_neg, o_i2l, o_l2i, o_i2c, r_eq, r_ne, r_lt, r_ge, r_gt, r_le, r_eq0, r_ne0, r_lt0, r_ge0, r_gt0, r_le0, x_int, x_ref, x_long, x_args, x_nar, xKd, xst1, xst2, xlg, Option.bind_some, Option.bind_none, Option.map_some, Option.map_none, List.getElem?_cons_zero, List.getElem?_cons_succ, List.set_cons_zero, List.set_cons_succ, List.length_cons, List.length_nil, List.length_map, List.length_range, List.length_set, decide_eq_true_eq, if_true, if_false, reduceIte, reduceCtorEq, Bool.not_true, Bool.not_false, Bool.false_eq_true, x_ix_nI, ax_get, ax_set, e_aald, s_aast, true_and, and_true, ite_true, ite_false, ↓bI_01, bI_eq0, bI_eq1, bool_or, tern_pure, and_pure, or_pure, bI_def, bne_t, ndf, decide_not, Bool.decide_eq_true, Bool.decide_and, Bool.decide_or, Nat.reduceEqDiff, Nat.reduceAdd, Nat.reduceMul, Nat.reduceSub, Nat.reduceLT, Nat.reduceLeDiff, or_false, false_or, or_true, true_or, and_false, false_and, Bool.or_eq_true, Bool.and_eq_true, Bool.or_false, Bool.or_true, Bool.true_or, Bool.false_or, Bool.and_true, Bool.and_false, Bool.true_and, Bool.false_and, decide_true, decide_false, not_true_eq_false, not_false_eq_true, xf0, xf1, xf2, xf3, xf4, xf5, xf6, xf7, xf8, xf9, xf10, xf11, xf12, xf13, xf14, xf15, xf16, xf17, xf18, xf19, xf20, xf21, xf22, xf23, xf24, xf25, xf26, xf27]) (fun _ => b_or_p (b_or_p (by simp only [x_out, s_seq, s_ite, s_ret, s_retZ, s_retV, s_iasg, s_aasg, s_lasg, s_inc, s_put, s_putop, s_ast, s_astop, s_exp, s_call, s_skip, s_brk, s_cont, s_oinit, e_lit, e_long, e_il, e_al, e_ll, e_bin, e_un, e_fld, e_ald, e_tern, e_call, e_alen, b_cmp, b_cmp0, b_lcmp, b_and, b_or, b_not, o_add, o_sub, o_mul, o_and, o_or, o_xor, o_shl, o_shr, o_neg, o_i2l, o_l2i, o_i2c, r_eq, r_ne, r_lt, r_ge, r_gt, r_le, r_eq0, r_ne0, r_lt0, r_ge0, r_gt0, r_le0, x_int, x_ref, x_long, x_args, x_nar, xKd, xst1, xst2, xlg, Option.bind_some, Option.bind_none, Option.map_some, Option.map_none, List.getElem?_cons_zero, List.getElem?_cons_succ, List.set_cons_zero, List.set_cons_succ, List.length_cons, List.length_nil, List.length_map, List.length_range, List.length_set, decide_eq_true_eq, if_true, if_false, reduceIte, reduceCtorEq, Bool.not_true, Bool.not_false, Bool.false_eq_true, x_ix_nI, ax_get, ax_set, e_aald, s_aast, true_and, and_true, ite_true, ite_false, ↓bI_01, bI_eq0, bI_eq1, bool_or, tern_pure, and_pure, or_pure, bI_def, bne_t, ndf, decide_not, Bool.decide_eq_true, Bool.decide_and, Bool.decide_or, Nat.reduceEqDiff, Nat.reduceAdd, Nat.reduceMul, Nat.reduceSub, Nat.reduceLT, Nat.reduceLeDiff, or_false, false_or, or_true, true_or, and_false, false_and, Bool.or_eq_true, Bool.and_eq_true, Bool.or_false, Bool.or_true, Bool.true_or, Bool.false_or, Bool.and_true, Bool.and_false, Bool.true_and, Bool.false_and, decide_true, decide_false, not_true_eq_false, not_false_eq_true, xf0, xf1, xf2, xf3, xf4, xf5, xf6, xf7, xf8, xf9, xf10, xf11, xf12, xf13, xf14, xf15, xf16, xf17, xf18, xf19, xf20, xf21, xf22, xf23, xf24, xf25, xf26, xf27, a0]) (fun _ => by simp only [x_out, s_seq, s_ite, s_ret, s_retZ, s_retV, s_iasg, s_aasg, s_lasg, s_inc, s_put, s_putop, s_ast, s_astop, s_exp, s_call, s_skip, s_brk, s_cont, s_oinit, e_lit, e_long, e_il, e_al, e_ll, e_bin, e_un, e_fld, e_ald, e_tern, e_call, e_alen, b_cmp, b_cmp0, b_lcmp, b_and, b_or, b_not, o_add, o_sub, o_mul, o_and, o_or, o_xor, o_shl, o_shr, o_neg, o_i2l, o_l2i, o_i2c, r_eq, r_ne, r_lt, r_ge, r_gt, r_le, r_eq0, r_ne0, r_lt0, r_ge0, r_gt0, r_le0, x_int, x_ref, x_long, x_args, x_nar, xKd, xst1, xst2, xlg, Option.bind_some, Option.bind_none, Option.map_some, Option.map_none, List.getElem?_cons_zero, List.getElem?_cons_succ, List.set_cons_zero, List.set_cons_succ, List.length_cons, List.length_nil, List.length_map, List.length_range, List.length_set, decide_eq_true_eq, if_true, if_false, reduceIte, reduceCtorEq, Bool.not_true, Bool.not_false, Bool.false_eq_true, x_ix_nI, ax_get, ax_set, e_aald, s_aast, true_and, and_true, ite_true, ite_false, ↓bI_01, bI_eq0, bI_eq1, bool_or, tern_pure, and_pure, or_pure, bI_def, bne_t, ndf, decide_not, Bool.decide_eq_true, Bool.decide_and, Bool.decide_or, Nat.reduceEqDiff, Nat.reduceAdd, Nat.reduceMul, Nat.reduceSub, Nat.reduceLT, Nat.reduceLeDiff, or_false, false_or, or_true, true_or, and_false, false_and, Bool.or_eq_true, Bool.and_eq_true, Bool.or_false, Bool.or_true, Bool.true_or, Bool.false_or, Bool.and_true, Bool.and_false, Bool.true_and, Bool.false_and, decide_true, decide_false, not_true_eq_false, not_false_eq_true, xf0, xf1, xf2, xf3, xf4, xf5, xf6, xf7, xf8, xf9, xf10, xf11, xf12, xf13, xf14, xf15, xf16, xf17, xf18, xf19, xf20, xf21, xf22, xf23, xf24, xf25, xf26, xf27, am])) (fun _ => b_and_p (by simp only [x_out, s_seq, s_ite, s_ret, s_retZ, s_retV, s_iasg, s_aasg, s_lasg, s_inc, s_put, s_putop, s_ast, s_astop, s_exp, s_call, s_skip, s_brk, s_cont, s_oinit, e_lit, e_long, e_il, e_al, e_ll, e_bin, e_un, e_fld, e_ald, e_tern, e_call, e_alen, b_cmp, b_cmp0, b_lcmp, b_and, b_or, b_not, o_add, o_sub, o_mul, o_and, o_or, o_xor, o_shl, o_shr, o_neg, o_i2l, o_l2i, o_i2c, r_eq, r_ne, r_lt, r_ge, r_gt, r_le, r_eq0, r_ne0, r_lt0, r_ge0, r_gt0, r_le0, x_int, x_ref, x_long, x_args, x_nar, xKd, xst1, xst2, xlg, Option.bind_some, Option.bind_none, Option.map_some, Option.map_none, List.getElem?_cons_zero, List.getElem?_cons_succ, List.set_cons_zero, List.set_cons_succ, List.length_cons, List.length_nil, List.length_map, List.length_range, List.length_set, decide_eq_true_eq, if_true, if_false, reduceIte, reduceCtorEq, Bool.not_true, Bool.not_false, Bool.false_eq_true, x_ix_nI, ax_get, ax_set, e_aald, s_aast, true_and, and_true, ite_true, ite_false, ↓bI_01, bI_eq0, bI_eq1, bool_or, tern_pure, and_pure, or_pure, bI_def, bne_t, ndf, decide_not, Bool.decide_eq_true, Bool.decide_and, Bool.decide_or, Nat.reduceEqDiff, Nat.reduceAdd, Nat.reduceMul, Nat.reduceSub, Nat.reduceLT, Nat.reduceLeDiff, or_false, false_or, or_true, true_or, and_false, false_and, Bool.or_eq_true, Bool.and_eq_true, Bool.or_false, Bool.or_true, Bool.true_or, Bool.false_or, Bool.and_true, Bool.and_false, Bool.true_and, Bool.false_and, decide_true, decide_false, not_true_eq_false, not_false_eq_true, xf0, xf1, xf2, xf3, xf4, xf5, xf6, xf7, xf8, xf9, xf10, xf11, xf12, xf13, xf14, xf15, xf16, xf17, xf18, xf19, xf20, xf21, xf22, xf23, xf24, xf25, xf26, xf27, a1]) (fun _ => by simp (disch := omega) only [x_out, s_seq, s_ite, s_ret, s_retZ, s_retV, s_iasg, s_aasg, s_lasg, s_inc, s_put, s_putop, s_ast, s_astop, s_exp, s_call, s_skip, s_brk, s_cont, s_oinit, e_lit, e_long, e_il, e_al, e_ll, e_bin, e_un, e_fld, e_ald, e_tern, e_call, e_alen, b_cmp, b_cmp0, b_lcmp, b_and, b_or, b_not, o_add, o_sub, o_mul, o_and, o_or, o_xor, o_shl, o_shr, o_neg, o_i2l, o_l2i, o_i2c, r_eq, r_ne, r_lt, r_ge, r_gt, r_le, r_eq0, r_ne0, r_lt0, r_ge0, r_gt0, r_le0, x_int, x_ref, x_long, x_args, x_nar, xKd, xst1, xst2, xlg, Option.bind_some, Option.bind_none, Option.map_some, Option.map_none, List.getElem?_cons_zero, List.getElem?_cons_succ, List.set_cons_zero, List.set_cons_succ, List.length_cons, List.length_nil, List.length_map, List.length_range, List.length_set, decide_eq_true_eq, if_true, if_false, reduceIte, reduceCtorEq, Bool.not_true, Bool.not_false, Bool.false_eq_true, x_ix_nI, ax_get, ax_set, e_aald, s_aast, true_and, and_true, ite_true, ite_false, ↓bI_01, bI_eq0, bI_eq1, bool_or, tern_pure, and_pure, or_pure, bI_def, bne_t, ndf, decide_not, Bool.decide_eq_true, Bool.decide_and, Bool.decide_or, Nat.reduceEqDiff, Nat.reduceAdd, Nat.reduceMul, Nat.reduceSub, Nat.reduceLT, Nat.reduceLeDiff, or_false, false_or, or_true, true_or, and_false, false_and, Bool.or_eq_true, Bool.and_eq_true, Bool.or_false, Bool.or_true, Bool.true_or, Bool.false_or, Bool.and_true, Bool.and_false, Bool.true_and, Bool.false_and, decide_true, decide_false, not_true_eq_false, not_false_eq_true, xf0, xf1, xf2, xf3, xf4, xf5, xf6, xf7, xf8, xf9, xf10, xf11, xf12, xf13, xf14, xf15, xf16, xf17, xf18, xf19, xf20, xf21, xf22, xf23, xf24, xf25, xf26, xf27, l10, nI_add, rw, hl10, b2, ni])))
      have ev : (x && ((decide (L i = 0) || decide (L i = -1)) || (decide (L i = 1) && decide (i = p)))) = x' := by
        rw [st, Bool.not_not]
      rw [ev] at c2
      refine ⟨[some (.ref 106), some (.int (nI w)), some (.int (nI cc')), some (.int (bI x')), some (.int (nI (i + 1))), some (.int (Int32.ofInt (L i)))], k, s_step_on (h0 := k) (h1 := k) (env1 := [some (.ref 106), some (.int (nI w)), some (.int (nI cc')), some (.int (bI x')), some (.int (nI i)), some (.int (Int32.ofInt (L i)))]) ?_ ?_ ?_, ⟨_, rfl⟩, rfl⟩
      · obtain ⟨xf0, xf1, xf2, xf3, xf4, xf5, xf6, xf7, xf8, xf9, xf10, xf11, xf12, xf13, xf14, xf15, xf16, xf17, xf18, xf19, xf20, xf21, xf22, xf23, xf24, xf25, xf26, xf27⟩ := rfs h0
        simp (disch := omega) only [lc_X10_isOwed_1, x_out, s_seq, s_ite, s_ret, s_retZ, s_retV, s_iasg, s_aasg, s_lasg, s_inc, s_put, s_putop, s_ast, s_astop, s_exp, s_call, s_skip, s_brk, s_cont, s_oinit, e_lit, e_long, e_il, e_al, e_ll, e_bin, e_un, e_fld, e_ald, e_tern, e_call, e_alen, b_cmp, b_cmp0, b_lcmp, b_and, b_or, b_not, o_add, o_sub, o_mul, o_and, o_or, o_xor, o_shl, o_shr, o_neg, o_i2l, o_l2i, o_i2c, r_eq, r_ne, r_lt, r_ge, r_gt, r_le, r_eq0, r_ne0, r_lt0, r_ge0, r_gt0, r_le0, x_int, x_ref, x_long, x_args, x_nar, xKd, xst1, xst2, xlg, Option.bind_some, Option.bind_none, Option.map_some, Option.map_none, List.getElem?_cons_zero, List.getElem?_cons_succ, List.set_cons_zero, List.set_cons_succ, List.length_cons, List.length_nil, List.length_map, List.length_range, List.length_set, decide_eq_true_eq, if_true, if_false, reduceIte, reduceCtorEq, Bool.not_true, Bool.not_false, Bool.false_eq_true, x_ix_nI, ax_get, ax_set, e_aald, s_aast, true_and, and_true, ite_true, ite_false, ↓bI_01, bI_eq0, bI_eq1, bool_or, tern_pure, and_pure, or_pure, bI_def, bne_t, ndf, decide_not, Bool.decide_eq_true, Bool.decide_and, Bool.decide_or, Nat.reduceEqDiff, Nat.reduceAdd, Nat.reduceMul, Nat.reduceSub, Nat.reduceLT, Nat.reduceLeDiff, or_false, false_or, or_true, true_or, and_false, false_and, Bool.or_eq_true, Bool.and_eq_true, Bool.or_false, Bool.or_true, Bool.true_or, Bool.false_or, Bool.and_true, Bool.and_false, Bool.true_and, Bool.false_and, decide_true, decide_false, not_true_eq_false, not_false_eq_true, xf0, xf1, xf2, xf3, xf4, xf5, xf6, xf7, xf8, xf9, xf10, xf11, xf12, xf13, xf14, xf15, xf16, xf17, xf18, xf19, xf20, xf21, xf22, xf23, xf24, xf25, xf26, xf27, nI_ltI, hi]
      · unfold la_X10_isOwed_1
        rw [s_seq_n s1, s_seq_n s2]
        cases x' <;> simp only [s_iasg, e_tern, c2, Option.bind_some, if_true, Bool.false_eq_true, if_false, e_lit, x_int, xst1] <;> rfl
      · simp only [lu_X10_isOwed_1, x_out, s_seq, s_ite, s_ret, s_retZ, s_retV, s_iasg, s_aasg, s_lasg, s_inc, s_put, s_putop, s_ast, s_astop, s_exp, s_call, s_skip, s_brk, s_cont, s_oinit, e_lit, e_long, e_il, e_al, e_ll, e_bin, e_un, e_fld, e_ald, e_tern, e_call, e_alen, b_cmp, b_cmp0, b_lcmp, b_and, b_or, b_not, o_add, o_sub, o_mul, o_and, o_or, o_xor, o_shl, o_shr, o_neg, o_i2l, o_l2i, o_i2c, r_eq, r_ne, r_lt, r_ge, r_gt, r_le, r_eq0, r_ne0, r_lt0, r_ge0, r_gt0, r_le0, x_fld, x_int, x_ref, x_long, x_args, x_nar, xKd, xst1, xst2, xlg, Option.bind_some, Option.bind_none, Option.map_some, Option.map_none, List.getElem?_cons_zero, List.getElem?_cons_succ, List.set_cons_zero, List.set_cons_succ, List.length_cons, List.length_nil, List.length_map, List.length_range, List.length_set, decide_eq_true_eq, if_true, if_false, reduceIte, reduceCtorEq, Bool.not_true, Bool.not_false, Bool.false_eq_true, x_ix_nI, ax_get, ax_set, e_aald, s_aast, true_and, and_true, ite_true, ite_false, ↓bI_01, bI_eq0, bI_eq1, bool_or, tern_pure, and_pure, or_pure, bI_def, bne_t, ndf, decide_not, Bool.decide_eq_true, Bool.decide_and, Bool.decide_or, Nat.reduceEqDiff, Nat.reduceAdd, Nat.reduceMul, Nat.reduceSub, Nat.reduceLT, Nat.reduceLeDiff, or_false, false_or, or_true, true_or, and_false, false_and, Bool.or_eq_true, Bool.and_eq_true, Bool.or_false, Bool.or_true, Bool.true_or, Bool.false_or, Bool.and_true, Bool.and_false, Bool.true_and, Bool.false_and, decide_true, decide_false, not_true_eq_false, not_false_eq_true, nI_1])
    (fun env k hJ => by
      obtain ⟨⟨u5, rfl⟩, rfl⟩ := hJ
      obtain ⟨xf0, xf1, xf2, xf3, xf4, xf5, xf6, xf7, xf8, xf9, xf10, xf11, xf12, xf13, xf14, xf15, xf16, xf17, xf18, xf19, xf20, xf21, xf22, xf23, xf24, xf25, xf26, xf27⟩ := rfs h0
      simp (disch := omega) only [lc_X10_isOwed_1, la_X10_isOwed_1, lu_X10_isOwed_1, s_step, x_out, s_seq, s_ite, s_ret, s_retZ, s_retV, s_iasg, s_aasg, s_lasg, s_inc, s_put, s_putop, s_ast, s_astop, s_exp, s_call, s_skip, s_brk, s_cont, s_oinit, e_lit, e_long, e_il, e_al, e_ll, e_bin, e_un, e_fld, e_ald, e_tern, e_call, e_alen, b_cmp, b_cmp0, b_lcmp, b_and, b_or, b_not, o_add, o_sub, o_mul, o_and, o_or, o_xor, o_shl, o_shr, o_neg, o_i2l, o_l2i, o_i2c, r_eq, r_ne, r_lt, r_ge, r_gt, r_le, r_eq0, r_ne0, r_lt0, r_ge0, r_gt0, r_le0, x_int, x_ref, x_long, x_args, x_nar, xKd, xst1, xst2, xlg, Option.bind_some, Option.bind_none, Option.map_some, Option.map_none, List.getElem?_cons_zero, List.getElem?_cons_succ, List.set_cons_zero, List.set_cons_succ, List.length_cons, List.length_nil, List.length_map, List.length_range, List.length_set, decide_eq_true_eq, if_true, if_false, reduceIte, reduceCtorEq, Bool.not_true, Bool.not_false, Bool.false_eq_true, x_ix_nI, ax_get, ax_set, e_aald, s_aast, true_and, and_true, ite_true, ite_false, ↓bI_01, bI_eq0, bI_eq1, bool_or, tern_pure, and_pure, or_pure, bI_def, bne_t, ndf, decide_not, Bool.decide_eq_true, Bool.decide_and, Bool.decide_or, Nat.reduceEqDiff, Nat.reduceAdd, Nat.reduceMul, Nat.reduceSub, Nat.reduceLT, Nat.reduceLeDiff, or_false, false_or, or_true, true_or, and_false, false_and, Bool.or_eq_true, Bool.and_eq_true, Bool.or_false, Bool.or_true, Bool.true_or, Bool.false_or, Bool.and_true, Bool.and_false, Bool.true_and, Bool.false_and, decide_true, decide_false, not_true_eq_false, not_false_eq_true, xf0, xf1, xf2, xf3, xf4, xf5, xf6, xf7, xf8, xf9, xf10, xf11, xf12, xf13, xf14, xf15, xf16, xf17, xf18, xf19, xf20, xf21, xf22, xf23, xf24, xf25, xf26, xf27, nI_ltI, Nat.lt_irrefl])
  have op := ow p tp
  have cl := cnt_le (fun f => decide (L f = -1)) (pF P)
  have a1 := q1 p
  generalize ((List.range (pF P)).find? fun f => !((decide (L f = 0) || decide (L f = -1)) || (decide (L f = 1) && decide (f = p)))).isNone = x at e1 ⊢
  generalize cnt (fun f => decide (L f = -1)) (pF P) = cc at e1 cl ⊢
  have n1 : ∀ m : Nat, m < 2 → (nI cc = nI m) = (cc = m) := fun m hm => propext (nI_eq (by omega) (by omega))
  have c2 : (b_and (b_cmp0 r_ne0 (e_il 3)) (b_cmp r_eq (e_il 2) (e_tern (b_cmp r_eq (e_call m_X10_owedOut [(e_al 0), (e_il 1), (e_ald 0 (e_fld 10 0 (e_al 0)) (e_bin o_add (e_lit 10) (e_il 1)))]) (e_lit 1)) (e_lit 1) (e_lit 0)))) [some (.ref 106), some (.int (nI w)), some (.int (nI cc)), some (.int (bI x)), some (.int (nI (pF P))), u5] h' = some (x && decide (cc = if L p = 1 then 1 else 0), h') := by
    obtain ⟨xf0, xf1, xf2, xf3, xf4, xf5, xf6, xf7, xf8, xf9, xf10, xf11, xf12, xf13, xf14, xf15, xf16, xf17, xf18, xf19, xf20, xf21, xf22, xf23, xf24, xf25, xf26, xf27⟩ := rfs h0
    refine b_and_p (by cases x <;> simp only [x_out, s_seq, s_ite, s_ret, s_retZ, s_retV, s_iasg, s_aasg, s_lasg, s_inc, s_put, s_putop, s_ast, s_astop, s_exp, s_call, s_skip, s_brk, s_cont, s_oinit, e_lit, e_long, e_il, e_al, e_ll, e_bin, e_un, e_fld, e_ald, e_tern, e_call, e_alen, b_cmp, b_cmp0, b_lcmp, b_and, b_or, b_not, o_add, o_sub, o_mul, o_and, o_or, o_xor, o_shl, o_shr, o_neg, o_i2l, o_l2i, o_i2c, r_eq, r_ne, r_lt, r_ge, r_gt, r_le, r_eq0, r_ne0, r_lt0, r_ge0, r_gt0, r_le0, x_int, x_ref, x_long, x_args, x_nar, xKd, xst1, xst2, xlg, Option.bind_some, Option.bind_none, Option.map_some, Option.map_none, List.getElem?_cons_zero, List.getElem?_cons_succ, List.set_cons_zero, List.set_cons_succ, List.length_cons, List.length_nil, List.length_map, List.length_range, List.length_set, decide_eq_true_eq, if_true, if_false, reduceIte, reduceCtorEq, Bool.not_true, Bool.not_false, Bool.false_eq_true, x_ix_nI, ax_get, ax_set, e_aald, s_aast, true_and, and_true, ite_true, ite_false, ↓bI_01, bI_eq0, bI_eq1, bool_or, tern_pure, and_pure, or_pure, bI_def, bne_t, ndf, decide_not, Bool.decide_eq_true, Bool.decide_and, Bool.decide_or, Nat.reduceEqDiff, Nat.reduceAdd, Nat.reduceMul, Nat.reduceSub, Nat.reduceLT, Nat.reduceLeDiff, or_false, false_or, or_true, true_or, and_false, false_and, Bool.or_eq_true, Bool.and_eq_true, Bool.or_false, Bool.or_true, Bool.true_or, Bool.false_or, Bool.and_true, Bool.and_false, Bool.true_and, Bool.false_and, decide_true, decide_false, not_true_eq_false, not_false_eq_true, xf0, xf1, xf2, xf3, xf4, xf5, xf6, xf7, xf8, xf9, xf10, xf11, xf12, xf13, xf14, xf15, xf16, xf17, xf18, xf19, xf20, xf21, xf22, xf23, xf24, xf25, xf26, xf27]) (fun _ => ?_)
    by_cases y : L p = 1
    · have a1 : (Int32.ofInt (L p) = 1) = True := by rw [a1]; exact eq_true y
      have n1 := n1 1 (by omega)
      have n1 : (nI cc = 1) = (cc = 1) := n1
      rw [if_pos y]
      simp (disch := omega) only [x_out, s_seq, s_ite, s_ret, s_retZ, s_retV, s_iasg, s_aasg, s_lasg, s_inc, s_put, s_putop, s_ast, s_astop, s_exp, s_call, s_skip, s_brk, s_cont, s_oinit, e_lit, e_long, e_il, e_al, e_ll, e_bin, e_un, e_fld, e_ald, e_tern, e_call, e_alen, b_cmp, b_cmp0, b_lcmp, b_and, b_or, b_not, o_add, o_sub, o_mul, o_and, o_or, o_xor, o_shl, o_shr, o_neg, o_i2l, o_l2i, o_i2c, r_eq, r_ne, r_lt, r_ge, r_gt, r_le, r_eq0, r_ne0, r_lt0, r_ge0, r_gt0, r_le0, x_int, x_ref, x_long, x_args, x_nar, xKd, xst1, xst2, xlg, Option.bind_some, Option.bind_none, Option.map_some, Option.map_none, List.getElem?_cons_zero, List.getElem?_cons_succ, List.set_cons_zero, List.set_cons_succ, List.length_cons, List.length_nil, List.length_map, List.length_range, List.length_set, decide_eq_true_eq, if_true, if_false, reduceIte, reduceCtorEq, Bool.not_true, Bool.not_false, Bool.false_eq_true, x_ix_nI, ax_get, ax_set, e_aald, s_aast, true_and, and_true, ite_true, ite_false, ↓bI_01, bI_eq0, bI_eq1, bool_or, tern_pure, and_pure, or_pure, bI_def, bne_t, ndf, decide_not, Bool.decide_eq_true, Bool.decide_and, Bool.decide_or, Nat.reduceEqDiff, Nat.reduceAdd, Nat.reduceMul, Nat.reduceSub, Nat.reduceLT, Nat.reduceLeDiff, or_false, false_or, or_true, true_or, and_false, false_and, Bool.or_eq_true, Bool.and_eq_true, Bool.or_false, Bool.or_true, Bool.true_or, Bool.false_or, Bool.and_true, Bool.and_false, Bool.true_and, Bool.false_and, decide_true, decide_false, not_true_eq_false, not_false_eq_true, xf0, xf1, xf2, xf3, xf4, xf5, xf6, xf7, xf8, xf9, xf10, xf11, xf12, xf13, xf14, xf15, xf16, xf17, xf18, xf19, xf20, xf21, xf22, xf23, xf24, xf25, xf26, xf27, l10, nI_add, rw, hl10, b2, op, a1, bI_t, n1]
    · have a1 : (Int32.ofInt (L p) = 1) = False := by rw [a1]; exact eq_false y
      have n1 := n1 0 (by omega)
      have n1 : (nI cc = 0) = (cc = 0) := n1
      rw [if_neg y]
      simp (disch := omega) only [x_out, s_seq, s_ite, s_ret, s_retZ, s_retV, s_iasg, s_aasg, s_lasg, s_inc, s_put, s_putop, s_ast, s_astop, s_exp, s_call, s_skip, s_brk, s_cont, s_oinit, e_lit, e_long, e_il, e_al, e_ll, e_bin, e_un, e_fld, e_ald, e_tern, e_call, e_alen, b_cmp, b_cmp0, b_lcmp, b_and, b_or, b_not, o_add, o_sub, o_mul, o_and, o_or, o_xor, o_shl, o_shr, o_neg, o_i2l, o_l2i, o_i2c, r_eq, r_ne, r_lt, r_ge, r_gt, r_le, r_eq0, r_ne0, r_lt0, r_ge0, r_gt0, r_le0, x_int, x_ref, x_long, x_args, x_nar, xKd, xst1, xst2, xlg, Option.bind_some, Option.bind_none, Option.map_some, Option.map_none, List.getElem?_cons_zero, List.getElem?_cons_succ, List.set_cons_zero, List.set_cons_succ, List.length_cons, List.length_nil, List.length_map, List.length_range, List.length_set, decide_eq_true_eq, if_true, if_false, reduceIte, reduceCtorEq, Bool.not_true, Bool.not_false, Bool.false_eq_true, x_ix_nI, ax_get, ax_set, e_aald, s_aast, true_and, and_true, ite_true, ite_false, ↓bI_01, bI_eq0, bI_eq1, bool_or, tern_pure, and_pure, or_pure, bI_def, bne_t, ndf, decide_not, Bool.decide_eq_true, Bool.decide_and, Bool.decide_or, Nat.reduceEqDiff, Nat.reduceAdd, Nat.reduceMul, Nat.reduceSub, Nat.reduceLT, Nat.reduceLeDiff, or_false, false_or, or_true, true_or, and_false, false_and, Bool.or_eq_true, Bool.and_eq_true, Bool.or_false, Bool.or_true, Bool.true_or, Bool.false_or, Bool.and_true, Bool.and_false, Bool.true_and, Bool.false_and, decide_true, decide_false, not_true_eq_false, not_false_eq_true, xf0, xf1, xf2, xf3, xf4, xf5, xf6, xf7, xf8, xf9, xf10, xf11, xf12, xf13, xf14, xf15, xf16, xf17, xf18, xf19, xf20, xf21, xf22, xf23, xf24, xf25, xf26, xf27, l10, nI_add, rw, hl10, b2, op, a1, bI_f, n1]
  rw [nI_0] at e1
  refine xM_run (env := [some (.ref 106), some (.int (nI w)), none, none, none, none]) h0 rfl rfl (Nat.le_of_ble_eq_true rfl) rfl ?_ rfl
  unfold bd_X10_isOwed
  rw [s_seq_n (show (s_iasg 2 (e_lit 0)) _ h' = some (none, [some (.ref 106), some (.int (nI w)), some (.int 0), none, none, none], h') from rfl), s_seq_n (show (s_iasg 3 (e_lit 1)) _ h' = some (none, [some (.ref 106), some (.int (nI w)), some (.int 0), some (.int 1), none, none], h') from rfl), s_seq_n (show (s_iasg 4 (e_lit 0)) _ h' = some (none, [some (.ref 106), some (.int (nI w)), some (.int 0), some (.int 1), some (.int 0), none], h') from rfl), s_seq_n e1]
  generalize (x && decide (cc = if L p = 1 then 1 else 0)) = bb at c2 ⊢
  cases bb <;> simp only [s_retZ, e_tern, c2, Option.bind_some, if_true, Bool.false_eq_true, if_false, e_lit, x_int, x_out, Option.map_some, true_or, or_true, bI_t, bI_f]
theorem b_and_f {a b : XB} {env : XE} {h h1 : XH} (ha : a env h = some (false, h1)) : b_and a b env h = some (false, h1) := by
  simp only [b_and, ha, Option.bind_some, Bool.false_eq_true, if_false]
theorem b_and_h {a b : XB} {env : XE} {h h1 h2 : XH} {y : Bool} (ha : a env h = some (true, h1)) (hb : b env h1 = some (y, h2)) : b_and a b env h = some (y, h2) := by
  simp only [b_and, ha, Option.bind_some, if_true, hb]
theorem s_iasg_p {i : Nat} {e : XX} {env env' : XE} {h h' : XH} {x : Int32} (he : e env h = some (.int x, h')) (hs : xst1 env i (.int x) = some env') : s_iasg i e env h = some (none, env', h') := by
  simp only [s_iasg, he, Option.bind_some, x_int, hs, Option.map_some]
theorem ev_d1 {on : XF} {k : XH} {w i ci fw : Nat} {u2 : Int32} (o1 : on [.int (nI i)] k = some (some (.int (nI ci)), k)) : (e_call on [(e_il 4)]) [some (.ref 106), some (.int (nI w)), some (.int u2), some (.int (nI fw)), some (.int (nI i))] k = some (.int (nI ci), k) := by
  simp only [x_out, s_seq, s_ite, s_ret, s_retZ, s_retV, s_iasg, s_aasg, s_lasg, s_inc, s_put, s_putop, s_ast, s_astop, s_exp, s_call, s_skip, s_brk, s_cont, s_oinit, e_lit, e_long, e_il, e_al, e_ll, e_bin, e_un, e_fld, e_ald, e_tern, e_call, e_alen, b_cmp, b_cmp0, b_lcmp, b_and, b_or, b_not, o_add, o_sub, o_mul, o_and, o_or, o_xor, o_shl, o_shr, o_neg, o_i2l, o_l2i, o_i2c, r_eq, r_ne, r_lt, r_ge, r_gt, r_le, r_eq0, r_ne0, r_lt0, r_ge0, r_gt0, r_le0, x_fld, x_int, x_ref, x_long, x_args, x_nar, xKd, xst1, xst2, xlg, Option.bind_some, Option.bind_none, Option.map_some, Option.map_none, List.getElem?_cons_zero, List.getElem?_cons_succ, List.set_cons_zero, List.set_cons_succ, List.length_cons, List.length_nil, List.length_map, List.length_range, List.length_set, decide_eq_true_eq, if_true, if_false, reduceIte, reduceCtorEq, Bool.not_true, Bool.not_false, Bool.false_eq_true, x_ix_nI, ax_get, ax_set, e_aald, s_aast, true_and, and_true, ite_true, ite_false, ↓bI_01, bI_eq0, bI_eq1, bool_or, tern_pure, and_pure, or_pure, bI_def, bne_t, ndf, decide_not, Bool.decide_eq_true, Bool.decide_and, Bool.decide_or, Nat.reduceEqDiff, Nat.reduceAdd, Nat.reduceMul, Nat.reduceSub, Nat.reduceLT, Nat.reduceLeDiff, or_false, false_or, or_true, true_or, and_false, false_and, Bool.or_eq_true, Bool.and_eq_true, Bool.or_false, Bool.or_true, Bool.true_or, Bool.false_or, Bool.and_true, Bool.and_false, Bool.true_and, Bool.false_and, decide_true, decide_false, not_true_eq_false, not_false_eq_true, o1]
theorem ev_y2 {hg : XF} {k k' : XH} {w i fw : Nat} {hb : Bool} {u2 : Int32} (o2 : hg [.ref 106, .int (nI w), .int (nI i)] k = some (some (.int (bI hb)), k')) : (b_cmp0 r_ne0 (e_call hg [(e_al 0), (e_il 1), (e_il 4)])) [some (.ref 106), some (.int (nI w)), some (.int u2), some (.int (nI fw)), some (.int (nI i))] k = some (hb, k') := by
  simp only [x_out, s_seq, s_ite, s_ret, s_retZ, s_retV, s_iasg, s_aasg, s_lasg, s_inc, s_put, s_putop, s_ast, s_astop, s_exp, s_call, s_skip, s_brk, s_cont, s_oinit, e_lit, e_long, e_il, e_al, e_ll, e_bin, e_un, e_fld, e_ald, e_tern, e_call, e_alen, b_cmp, b_cmp0, b_lcmp, b_and, b_or, b_not, o_add, o_sub, o_mul, o_and, o_or, o_xor, o_shl, o_shr, o_neg, o_i2l, o_l2i, o_i2c, r_eq, r_ne, r_lt, r_ge, r_gt, r_le, r_eq0, r_ne0, r_lt0, r_ge0, r_gt0, r_le0, x_fld, x_int, x_ref, x_long, x_args, x_nar, xKd, xst1, xst2, xlg, Option.bind_some, Option.bind_none, Option.map_some, Option.map_none, List.getElem?_cons_zero, List.getElem?_cons_succ, List.set_cons_zero, List.set_cons_succ, List.length_cons, List.length_nil, List.length_map, List.length_range, List.length_set, decide_eq_true_eq, if_true, if_false, reduceIte, reduceCtorEq, Bool.not_true, Bool.not_false, Bool.false_eq_true, x_ix_nI, ax_get, ax_set, e_aald, s_aast, true_and, and_true, ite_true, ite_false, ↓bI_01, bI_eq0, bI_eq1, bool_or, tern_pure, and_pure, or_pure, bI_def, bne_t, ndf, decide_not, Bool.decide_eq_true, Bool.decide_and, Bool.decide_or, Nat.reduceEqDiff, Nat.reduceAdd, Nat.reduceMul, Nat.reduceSub, Nat.reduceLT, Nat.reduceLeDiff, or_false, false_or, or_true, true_or, and_false, false_and, Bool.or_eq_true, Bool.and_eq_true, Bool.or_false, Bool.or_true, Bool.true_or, Bool.false_or, Bool.and_true, Bool.and_false, Bool.true_and, Bool.false_and, decide_true, decide_false, not_true_eq_false, not_false_eq_true, o2]
theorem ev_y1 {a b : XX} {env : XE} {k : XH} {ci fw : Nat} (d1 : a env k = some (.int (nI ci), k)) (d2 : b env k = some (.int (nI fw), k)) (hci : ci < 2 ^ 30) (hf : fw < 2 ^ 30) : (b_cmp r_lt a b) env k = some (decide (ci < fw), k) := by
  have lt := nI_ltI (a := ci) (b := fw) (by omega) (by omega)
  simp only [b_cmp, d1, d2, Option.bind_some, Option.map_some, x_int, r_lt, lt]
theorem ev_xs {w i fw : Nat} {u2 v : Int32} : xst1 [some (.ref 106), some (.int (nI w)), some (.int u2), some (.int (nI fw)), some (.int (nI i))] 3 (.int v) = some [some (.ref 106), some (.int (nI w)), some (.int u2), some (.int v), some (.int (nI i))] := by
  simp only [x_out, s_seq, s_ite, s_ret, s_retZ, s_retV, s_iasg, s_aasg, s_lasg, s_inc, s_put, s_putop, s_ast, s_astop, s_exp, s_call, s_skip, s_brk, s_cont, s_oinit, e_lit, e_long, e_il, e_al, e_ll, e_bin, e_un, e_fld, e_ald, e_tern, e_call, e_alen, b_cmp, b_cmp0, b_lcmp, b_and, b_or, b_not, o_add, o_sub, o_mul, o_and, o_or, o_xor, o_shl, o_shr, o_neg, o_i2l, o_l2i, o_i2c, r_eq, r_ne, r_lt, r_ge, r_gt, r_le, r_eq0, r_ne0, r_lt0, r_ge0, r_gt0, r_le0, x_fld, x_int, x_ref, x_long, x_args, x_nar, xKd, xst1, xst2, xlg, Option.bind_some, Option.bind_none, Option.map_some, Option.map_none, List.getElem?_cons_zero, List.getElem?_cons_succ, List.set_cons_zero, List.set_cons_succ, List.length_cons, List.length_nil, List.length_map, List.length_range, List.length_set, decide_eq_true_eq, if_true, if_false, reduceIte, reduceCtorEq, Bool.not_true, Bool.not_false, Bool.false_eq_true, x_ix_nI, ax_get, ax_set, e_aald, s_aast, true_and, and_true, ite_true, ite_false, ↓bI_01, bI_eq0, bI_eq1, bool_or, tern_pure, and_pure, or_pure, bI_def, bne_t, ndf, decide_not, Bool.decide_eq_true, Bool.decide_and, Bool.decide_or, Nat.reduceEqDiff, Nat.reduceAdd, Nat.reduceMul, Nat.reduceSub, Nat.reduceLT, Nat.reduceLeDiff, or_false, false_or, or_true, true_or, and_false, false_and, Bool.or_eq_true, Bool.and_eq_true, Bool.or_false, Bool.or_true, Bool.true_or, Bool.false_or, Bool.and_true, Bool.and_false, Bool.true_and, Bool.false_and, decide_true, decide_false, not_true_eq_false, not_false_eq_true]
theorem ev_n {c0 c1 : XB} {a b : XX} {env env' : XE} {k : XH} {x : Int32} (y1 : c0 env k = some (false, k)) (d2 : b env k = some (.int x, k)) (xs : xst1 env 3 (.int x) = some env') : (s_iasg 3 (e_tern (b_and c0 c1) a b)) env k = some (none, env', k) := by
  refine s_iasg_p ?_ xs
  rw [e_tern_p (b_and_f y1), if_neg Bool.false_ne_true]
  exact d2
theorem ev_p {c0 c1 : XB} {a b : XX} {env env' : XE} {k k' : XH} {x y : Int32} {hb : Bool} (y1 : c0 env k = some (true, k)) (y2 : c1 env k = some (hb, k')) (d1 : a env k' = some (.int x, k')) (d2 : b env k' = some (.int y, k')) (xs : xst1 env 3 (.int (if hb = true then x else y)) = some env') : (s_iasg 3 (e_tern (b_and c0 c1) a b)) env k = some (none, env', k') := by
  refine s_iasg_p ?_ xs
  rw [e_tern_p (b_and_h y1 y2)]
  cases hb with
  | true => rw [if_pos rfl, if_pos rfl]; exact d1
  | false => rw [if_neg Bool.false_ne_true, if_neg Bool.false_ne_true]; exact d2
theorem ev_s {on hg : XF} {k k' : XH} {w i ci fw : Nat} {hb : Bool} {u2 : Int32} (o1 : on [.int (nI i)] k = some (some (.int (nI ci)), k)) (o1' : on [.int (nI i)] k' = some (some (.int (nI ci)), k')) (o2 : hg [.ref 106, .int (nI w), .int (nI i)] k = some (some (.int (bI hb)), k')) (hci : ci < 2 ^ 30) (hf : fw < 2 ^ 30) : ((¬ ci < fw) → (s_iasg 3 (e_tern (b_and (b_cmp r_lt (e_call on [(e_il 4)]) (e_il 3)) (b_cmp0 r_ne0 (e_call hg [(e_al 0), (e_il 1), (e_il 4)]))) (e_call on [(e_il 4)]) (e_il 3))) [some (.ref 106), some (.int (nI w)), some (.int u2), some (.int (nI fw)), some (.int (nI i))] k = some (none, [some (.ref 106), some (.int (nI w)), some (.int u2), some (.int (nI fw)), some (.int (nI i))], k)) ∧ (ci < fw → (s_iasg 3 (e_tern (b_and (b_cmp r_lt (e_call on [(e_il 4)]) (e_il 3)) (b_cmp0 r_ne0 (e_call hg [(e_al 0), (e_il 1), (e_il 4)]))) (e_call on [(e_il 4)]) (e_il 3))) [some (.ref 106), some (.int (nI w)), some (.int u2), some (.int (nI fw)), some (.int (nI i))] k = some (none, [some (.ref 106), some (.int (nI w)), some (.int u2), some (.int (if hb = true then nI ci else nI fw)), some (.int (nI i))], k')) := by
  have y1 := ev_y1 (b := e_il 3) (ev_d1 (w := w) (fw := fw) (u2 := u2) o1) rfl hci hf
  refine ⟨fun q => ?_, fun q => ?_⟩
  · rw [decide_eq_false q] at y1
    exact ev_n y1 rfl ev_xs
  · rw [decide_eq_true q] at y1
    exact ev_p y1 (ev_y2 o2) (ev_d1 o1') rfl ev_xs
theorem RAt.up119 {h h' : XH} (H : RAt h Y) (F : xFr (fun b => b = 119) h h') {g : Nat → Int32} (hg : h'[119]? = some (arr 8 g)) : RAt h' Y := by
  obtain ⟨g0, ⟨z, g1⟩, ⟨f, g2, g3⟩, g4, g5, g6, ⟨f1, s1⟩, ⟨f2, s2⟩, ⟨f3, s3⟩, -⟩ := H
  have e : ∀ b, b ≠ 119 → h'[b]? = h[b]? := fun b hb => F.2.2 b hb
  exact ⟨g0, ⟨z, (e _ (by omega)).trans g1⟩, ⟨f, (e _ (by omega)).trans g2, g3⟩, g4.same fun b _ _ => e b (by omega), g5.same fun b _ _ => e b (by omega), g6.same (e _ (by omega)), ⟨f1, (e _ (by omega)).trans s1⟩, ⟨f2, (e _ (by omega)).trans s2⟩, ⟨f3, (e _ (by omega)).trans s3⟩, g, hg⟩
theorem even_m (H : RAt h Y) (K : YOK c Y) (x : Int32) : ∃ h', m_X10_even [.ref 106, .int x] h = some (some (.int (aEven Y x)), h') ∧ RAt h' Y ∧ xFr rC h h' := by
  have O := K.2.1
  have T := K.2.2.1
  have o5 := O.2.2.2.2.1
  have o6 := O.2.2.2.2.2.1
  obtain ⟨f, V, W⟩ := H.view
  obtain ⟨-, ⟨z, h0⟩, -⟩ := id H
  have h0 : h[106]? = some (.inl (10, _)) := h0
  have e1 := isWalker_r V O x
  unfold aEven
  rcases inR_cases x (n := pM (yP Y)) (by omega) with q | ⟨w, hw, rfl, q⟩
  · refine ⟨h, ?_, H, xFr.rf _ _⟩
    refine xM_run (env := [some (.ref 106), some (.int x), none, none, none]) h0 rfl rfl (Nat.le_of_ble_eq_true rfl) rfl ?_ rfl
    simp (disch := omega) only [bd_X10_even, x_out, s_seq, s_ite, s_ret, s_retZ, s_retV, s_iasg, s_aasg, s_lasg, s_inc, s_put, s_putop, s_ast, s_astop, s_exp, s_call, s_skip, s_brk, s_cont, s_oinit, e_lit, e_long, e_il, e_al, e_ll, e_bin, e_un, e_fld, e_ald, e_tern, e_call, e_alen, b_cmp, b_cmp0, b_lcmp, b_and, b_or, b_not, o_add, o_sub, o_mul, o_and, o_or, o_xor, o_shl, o_shr, o_neg, o_i2l, o_l2i, o_i2c, r_eq, r_ne, r_lt, r_ge, r_gt, r_le, r_eq0, r_ne0, r_lt0, r_ge0, r_gt0, r_le0, x_fld, x_int, x_ref, x_long, x_args, x_nar, xKd, xst1, xst2, xlg, Option.bind_some, Option.bind_none, Option.map_some, Option.map_none, List.getElem?_cons_zero, List.getElem?_cons_succ, List.set_cons_zero, List.set_cons_succ, List.length_cons, List.length_nil, List.length_map, List.length_range, List.length_set, decide_eq_true_eq, if_true, if_false, reduceIte, reduceCtorEq, Bool.not_true, Bool.not_false, Bool.false_eq_true, x_ix_nI, ax_get, ax_set, e_aald, s_aast, true_and, and_true, ite_true, ite_false, ↓bI_01, bI_eq0, bI_eq1, bool_or, tern_pure, and_pure, or_pure, bI_def, bne_t, ndf, decide_not, Bool.decide_eq_true, Bool.decide_and, Bool.decide_or, Nat.reduceEqDiff, Nat.reduceAdd, Nat.reduceMul, Nat.reduceSub, Nat.reduceLT, Nat.reduceLeDiff, or_false, false_or, or_true, true_or, and_false, false_and, Bool.or_eq_true, Bool.and_eq_true, Bool.or_false, Bool.or_true, Bool.true_or, Bool.false_or, Bool.and_true, Bool.and_false, Bool.true_and, Bool.false_and, decide_true, decide_false, not_true_eq_false, not_false_eq_true, e1, q, bI_f, if_true]
  · have tp := T.2.1 w hw
    rw [iN_nI (by omega), evA_eq O tp]
    have e2 := isOwed_r V O W.1 T K.1 hw
    have c1 : (s_ite (b_not (b_cmp0 r_ne0 (e_call m_X10_isWalker [(e_al 0), (e_il 1)]))) (s_ret (e_lit (-1))) s_skip) [some (.ref 106), some (.int (nI w)), none, none, none] h = some (none, [some (.ref 106), some (.int (nI w)), none, none, none], h) := by simp only [x_out, s_seq, s_ite, s_ret, s_retZ, s_retV, s_iasg, s_aasg, s_lasg, s_inc, s_put, s_putop, s_ast, s_astop, s_exp, s_call, s_skip, s_brk, s_cont, s_oinit, e_lit, e_long, e_il, e_al, e_ll, e_bin, e_un, e_fld, e_ald, e_tern, e_call, e_alen, b_cmp, b_cmp0, b_lcmp, b_and, b_or, b_not, o_add, o_sub, o_mul, o_and, o_or, o_xor, o_shl, o_shr, o_neg, o_i2l, o_l2i, o_i2c, r_eq, r_ne, r_lt, r_ge, r_gt, r_le, r_eq0, r_ne0, r_lt0, r_ge0, r_gt0, r_le0, x_fld, x_int, x_ref, x_long, x_args, x_nar, xKd, xst1, xst2, xlg, Option.bind_some, Option.bind_none, Option.map_some, Option.map_none, List.getElem?_cons_zero, List.getElem?_cons_succ, List.set_cons_zero, List.set_cons_succ, List.length_cons, List.length_nil, List.length_map, List.length_range, List.length_set, decide_eq_true_eq, if_true, if_false, reduceIte, reduceCtorEq, Bool.not_true, Bool.not_false, Bool.false_eq_true, x_ix_nI, ax_get, ax_set, e_aald, s_aast, true_and, and_true, ite_true, ite_false, ↓bI_01, bI_eq0, bI_eq1, bool_or, tern_pure, and_pure, or_pure, bI_def, bne_t, ndf, decide_not, Bool.decide_eq_true, Bool.decide_and, Bool.decide_or, Nat.reduceEqDiff, Nat.reduceAdd, Nat.reduceMul, Nat.reduceSub, Nat.reduceLT, Nat.reduceLeDiff, or_false, false_or, or_true, true_or, and_false, false_and, Bool.or_eq_true, Bool.and_eq_true, Bool.or_false, Bool.or_true, Bool.true_or, Bool.false_or, Bool.and_true, Bool.and_false, Bool.true_and, Bool.false_and, decide_true, decide_false, not_true_eq_false, not_false_eq_true, e1, q]
    cases q2 : owR (lv (yP Y) (yS Y) w) (tP (yS Y) w) (pF (yP Y)) with
    | false =>
      rw [q2] at e2
      refine ⟨h, ?_, H, xFr.rf _ _⟩
      refine xM_run (env := [some (.ref 106), some (.int (nI w)), none, none, none]) h0 rfl rfl (Nat.le_of_ble_eq_true rfl) rfl ?_ rfl
      unfold bd_X10_even
      rw [s_seq_n c1]
      simp only [x_out, s_seq, s_ite, s_ret, s_retZ, s_retV, s_iasg, s_aasg, s_lasg, s_inc, s_put, s_putop, s_ast, s_astop, s_exp, s_call, s_skip, s_brk, s_cont, s_oinit, e_lit, e_long, e_il, e_al, e_ll, e_bin, e_un, e_fld, e_ald, e_tern, e_call, e_alen, b_cmp, b_cmp0, b_lcmp, b_and, b_or, b_not, o_add, o_sub, o_mul, o_and, o_or, o_xor, o_shl, o_shr, o_neg, o_i2l, o_l2i, o_i2c, r_eq, r_ne, r_lt, r_ge, r_gt, r_le, r_eq0, r_ne0, r_lt0, r_ge0, r_gt0, r_le0, x_fld, x_int, x_ref, x_long, x_args, x_nar, xKd, xst1, xst2, xlg, Option.bind_some, Option.bind_none, Option.map_some, Option.map_none, List.getElem?_cons_zero, List.getElem?_cons_succ, List.set_cons_zero, List.set_cons_succ, List.length_cons, List.length_nil, List.length_map, List.length_range, List.length_set, decide_eq_true_eq, if_true, if_false, reduceIte, reduceCtorEq, Bool.not_true, Bool.not_false, Bool.false_eq_true, x_ix_nI, ax_get, ax_set, e_aald, s_aast, true_and, and_true, ite_true, ite_false, ↓bI_01, bI_eq0, bI_eq1, bool_or, tern_pure, and_pure, or_pure, bI_def, bne_t, ndf, decide_not, Bool.decide_eq_true, Bool.decide_and, Bool.decide_or, Nat.reduceEqDiff, Nat.reduceAdd, Nat.reduceMul, Nat.reduceSub, Nat.reduceLT, Nat.reduceLeDiff, or_false, false_or, or_true, true_or, and_false, false_and, Bool.or_eq_true, Bool.and_eq_true, Bool.or_false, Bool.or_true, Bool.true_or, Bool.false_or, Bool.and_true, Bool.and_false, Bool.true_and, Bool.false_and, decide_true, decide_false, not_true_eq_false, not_false_eq_true, e2, q, Bool.true_eq_false, if_false, if_true]
    | true =>
      rw [q2] at e2
      have c2 : (s_ite (b_not (b_cmp0 r_ne0 (e_call m_X10_isOwed [(e_al 0), (e_il 1)]))) (s_ret (e_lit (-4))) s_skip) [some (.ref 106), some (.int (nI w)), none, none, none] h = some (none, [some (.ref 106), some (.int (nI w)), none, none, none], h) := by simp only [x_out, s_seq, s_ite, s_ret, s_retZ, s_retV, s_iasg, s_aasg, s_lasg, s_inc, s_put, s_putop, s_ast, s_astop, s_exp, s_call, s_skip, s_brk, s_cont, s_oinit, e_lit, e_long, e_il, e_al, e_ll, e_bin, e_un, e_fld, e_ald, e_tern, e_call, e_alen, b_cmp, b_cmp0, b_lcmp, b_and, b_or, b_not, o_add, o_sub, o_mul, o_and, o_or, o_xor, o_shl, o_shr, o_neg, o_i2l, o_l2i, o_i2c, r_eq, r_ne, r_lt, r_ge, r_gt, r_le, r_eq0, r_ne0, r_lt0, r_ge0, r_gt0, r_le0, x_fld, x_int, x_ref, x_long, x_args, x_nar, xKd, xst1, xst2, xlg, Option.bind_some, Option.bind_none, Option.map_some, Option.map_none, List.getElem?_cons_zero, List.getElem?_cons_succ, List.set_cons_zero, List.set_cons_succ, List.length_cons, List.length_nil, List.length_map, List.length_range, List.length_set, decide_eq_true_eq, if_true, if_false, reduceIte, reduceCtorEq, Bool.not_true, Bool.not_false, Bool.false_eq_true, x_ix_nI, ax_get, ax_set, e_aald, s_aast, true_and, and_true, ite_true, ite_false, ↓bI_01, bI_eq0, bI_eq1, bool_or, tern_pure, and_pure, or_pure, bI_def, bne_t, ndf, decide_not, Bool.decide_eq_true, Bool.decide_and, Bool.decide_or, Nat.reduceEqDiff, Nat.reduceAdd, Nat.reduceMul, Nat.reduceSub, Nat.reduceLT, Nat.reduceLeDiff, or_false, false_or, or_true, true_or, and_false, false_and, Bool.or_eq_true, Bool.and_eq_true, Bool.or_false, Bool.or_true, Bool.true_or, Bool.false_or, Bool.and_true, Bool.and_false, Bool.true_and, Bool.false_and, decide_true, decide_false, not_true_eq_false, not_false_eq_true, e2]
      -- the treads owed
      obtain ⟨env3, h3, e3, ⟨u4, rfl⟩, rfl⟩ := s_loop_J (c := lc_X10_even_1) (a := la_X10_even_1) (u := lu_X10_even_1) (h := h) (env := [some (.ref 106), some (.int (nI w)), some (.int (nI 0)), some (.int (nI 0)), none]) (fun i env k => (∃ u4, env = [some (.ref 106), some (.int (nI w)), some (.int (nI (owT (yS Y) w i))), some (.int (nI i)), u4]) ∧ k = h) (pN (yP Y)) 1000 (by omega) ⟨⟨none, rfl⟩, rfl⟩
        (fun i env k hi hJ => by
          obtain ⟨⟨u4, rfl⟩, rfl⟩ := hJ
          have rw := ax_row V.2.1
          have b1 := W.1.2.2.2.2.2 w hw i hi
          rw [Nat.zero_add] at b1
          have t3 := T.2.2 (9 * w + i) (by omega)
          have hc := K.1
          have hlt : 22 + 9 * w + i < 696 := by omega
          have st : owT (yS Y) w (i + 1) = owT (yS Y) w i + (tA (yS Y) (9 * w + i)).natAbs := rfl
          have lt0 : (Int32.ofInt (tA (yS Y) (9 * w + i)) < 0) = (tA (yS Y) (9 * w + i) < 0) := oI_lt (x := tA (yS Y) (9 * w + i)) (y := 0) (by omega) (by omega) (by omega) (by omega)
          generalize tA (yS Y) (9 * w + i) = a at b1 t3 st lt0
          have s1 : (s_iasg 4 (e_ald 0 (e_fld 10 0 (e_al 0)) (e_bin o_add (e_bin o_add (e_lit 22) (e_bin o_mul (e_lit 9) (e_il 1))) (e_il 3)))) [some (.ref 106), some (.int (nI w)), some (.int (nI (owT (yS Y) w i))), some (.int (nI i)), u4] k = some (none, [some (.ref 106), some (.int (nI w)), some (.int (nI (owT (yS Y) w i))), some (.int (nI i)), some (.int (Int32.ofInt a))], k) := by
            obtain ⟨xf0, xf1, xf2, xf3, xf4, xf5, xf6, xf7, xf8, xf9, xf10, xf11, xf12, xf13, xf14, xf15, xf16, xf17, xf18, xf19, xf20, xf21, xf22, xf23, xf24, xf25, xf26, xf27⟩ := rfs h0
            simp (disch := omega) only [x_out, s_seq, s_ite, s_ret, s_retZ, s_retV, s_iasg, s_aasg, s_lasg, s_inc, s_put, s_putop, s_ast, s_astop, s_exp, s_call, s_skip, s_brk, s_cont, s_oinit, e_lit, e_long, e_il, e_al, e_ll, e_bin, e_un, e_fld, e_ald, e_tern, e_call, e_alen, b_cmp, b_cmp0, b_lcmp, b_and, b_or, b_not, o_add, o_sub, o_mul, o_and, o_or, o_xor, o_shl, o_shr, o_neg, o_i2l, o_l2i, o_i2c, r_eq, r_ne, r_lt, r_ge, r_gt, r_le, r_eq0, r_ne0, r_lt0, r_ge0, r_gt0, r_le0, x_int, x_ref, x_long, x_args, x_nar, xKd, xst1, xst2, xlg, Option.bind_some, Option.bind_none, Option.map_some, Option.map_none, List.getElem?_cons_zero, List.getElem?_cons_succ, List.set_cons_zero, List.set_cons_succ, List.length_cons, List.length_nil, List.length_map, List.length_range, List.length_set, decide_eq_true_eq, if_true, if_false, reduceIte, reduceCtorEq, Bool.not_true, Bool.not_false, Bool.false_eq_true, x_ix_nI, ax_get, ax_set, e_aald, s_aast, true_and, and_true, ite_true, ite_false, ↓bI_01, bI_eq0, bI_eq1, bool_or, tern_pure, and_pure, or_pure, bI_def, bne_t, ndf, decide_not, Bool.decide_eq_true, Bool.decide_and, Bool.decide_or, Nat.reduceEqDiff, Nat.reduceAdd, Nat.reduceMul, Nat.reduceSub, Nat.reduceLT, Nat.reduceLeDiff, or_false, false_or, or_true, true_or, and_false, false_and, Bool.or_eq_true, Bool.and_eq_true, Bool.or_false, Bool.or_true, Bool.true_or, Bool.false_or, Bool.and_true, Bool.and_false, Bool.true_and, Bool.false_and, decide_true, decide_false, not_true_eq_false, not_false_eq_true, xf0, xf1, xf2, xf3, xf4, xf5, xf6, xf7, xf8, xf9, xf10, xf11, xf12, xf13, xf14, xf15, xf16, xf17, xf18, xf19, xf20, xf21, xf22, xf23, xf24, xf25, xf26, xf27, l9, l22, nI_m, nI_add, rw, hlt, b1]
          have s2 : (s_iasg 2 (e_bin o_add (e_il 2) (e_tern (b_cmp0 r_lt0 (e_il 4)) (e_un o_neg (e_il 4)) (e_il 4)))) [some (.ref 106), some (.int (nI w)), some (.int (nI (owT (yS Y) w i))), some (.int (nI i)), some (.int (Int32.ofInt a))] k = some (none, [some (.ref 106), some (.int (nI w)), some (.int (nI (owT (yS Y) w (i + 1)))), some (.int (nI i)), some (.int (Int32.ofInt a))], k) := by
            have e2 : ∀ n : Nat, nI n = Int32.ofInt n := fun n => rfl
            by_cases y : a < 0
            · have ab : -Int32.ofInt a = nI a.natAbs := by
                rw [e2, ← Int32.ofInt_neg]
                congr 1
                omega
              have lt0 : (Int32.ofInt a < 0) = True := by rw [lt0]; exact eq_true y
              simp only [x_out, s_seq, s_ite, s_ret, s_retZ, s_retV, s_iasg, s_aasg, s_lasg, s_inc, s_put, s_putop, s_ast, s_astop, s_exp, s_call, s_skip, s_brk, s_cont, s_oinit, e_lit, e_long, e_il, e_al, e_ll, e_bin, e_un, e_fld, e_ald, e_tern, e_call, e_alen, b_cmp, b_cmp0, b_lcmp, b_and, b_or, b_not, o_add, o_sub, o_mul, o_and, o_or, o_xor, o_shl, o_shr, o_neg, o_i2l, o_l2i, o_i2c, r_eq, r_ne, r_lt, r_ge, r_gt, r_le, r_eq0, r_ne0, r_lt0, r_ge0, r_gt0, r_le0, x_fld, x_int, x_ref, x_long, x_args, x_nar, xKd, xst1, xst2, xlg, Option.bind_some, Option.bind_none, Option.map_some, Option.map_none, List.getElem?_cons_zero, List.getElem?_cons_succ, List.set_cons_zero, List.set_cons_succ, List.length_cons, List.length_nil, List.length_map, List.length_range, List.length_set, decide_eq_true_eq, if_true, if_false, reduceIte, reduceCtorEq, Bool.not_true, Bool.not_false, Bool.false_eq_true, x_ix_nI, ax_get, ax_set, e_aald, s_aast, true_and, and_true, ite_true, ite_false, ↓bI_01, bI_eq0, bI_eq1, bool_or, tern_pure, and_pure, or_pure, bI_def, bne_t, ndf, decide_not, Bool.decide_eq_true, Bool.decide_and, Bool.decide_or, Nat.reduceEqDiff, Nat.reduceAdd, Nat.reduceMul, Nat.reduceSub, Nat.reduceLT, Nat.reduceLeDiff, or_false, false_or, or_true, true_or, and_false, false_and, Bool.or_eq_true, Bool.and_eq_true, Bool.or_false, Bool.or_true, Bool.true_or, Bool.false_or, Bool.and_true, Bool.and_false, Bool.true_and, Bool.false_and, decide_true, decide_false, not_true_eq_false, not_false_eq_true, lt0, ab, nI_add, st]
            · have ab : Int32.ofInt a = nI a.natAbs := by
                rw [e2]
                congr 1
                omega
              have lt0 : (Int32.ofInt a < 0) = False := by rw [lt0]; exact eq_false y
              rw [ab] at lt0 ⊢
              simp only [x_out, s_seq, s_ite, s_ret, s_retZ, s_retV, s_iasg, s_aasg, s_lasg, s_inc, s_put, s_putop, s_ast, s_astop, s_exp, s_call, s_skip, s_brk, s_cont, s_oinit, e_lit, e_long, e_il, e_al, e_ll, e_bin, e_un, e_fld, e_ald, e_tern, e_call, e_alen, b_cmp, b_cmp0, b_lcmp, b_and, b_or, b_not, o_add, o_sub, o_mul, o_and, o_or, o_xor, o_shl, o_shr, o_neg, o_i2l, o_l2i, o_i2c, r_eq, r_ne, r_lt, r_ge, r_gt, r_le, r_eq0, r_ne0, r_lt0, r_ge0, r_gt0, r_le0, x_fld, x_int, x_ref, x_long, x_args, x_nar, xKd, xst1, xst2, xlg, Option.bind_some, Option.bind_none, Option.map_some, Option.map_none, List.getElem?_cons_zero, List.getElem?_cons_succ, List.set_cons_zero, List.set_cons_succ, List.length_cons, List.length_nil, List.length_map, List.length_range, List.length_set, decide_eq_true_eq, if_true, if_false, reduceIte, reduceCtorEq, Bool.not_true, Bool.not_false, Bool.false_eq_true, x_ix_nI, ax_get, ax_set, e_aald, s_aast, true_and, and_true, ite_true, ite_false, ↓bI_01, bI_eq0, bI_eq1, bool_or, tern_pure, and_pure, or_pure, bI_def, bne_t, ndf, decide_not, Bool.decide_eq_true, Bool.decide_and, Bool.decide_or, Nat.reduceEqDiff, Nat.reduceAdd, Nat.reduceMul, Nat.reduceSub, Nat.reduceLT, Nat.reduceLeDiff, or_false, false_or, or_true, true_or, and_false, false_and, Bool.or_eq_true, Bool.and_eq_true, Bool.or_false, Bool.or_true, Bool.true_or, Bool.false_or, Bool.and_true, Bool.and_false, Bool.true_and, Bool.false_and, decide_true, decide_false, not_true_eq_false, not_false_eq_true, lt0, nI_add, st]
          refine ⟨[some (.ref 106), some (.int (nI w)), some (.int (nI (owT (yS Y) w (i + 1)))), some (.int (nI (i + 1))), some (.int (Int32.ofInt a))], k, s_step_on (h0 := k) ?_ ((s_seq_n s1).trans s2) ?_, ⟨_, rfl⟩, rfl⟩
          · obtain ⟨xf0, xf1, xf2, xf3, xf4, xf5, xf6, xf7, xf8, xf9, xf10, xf11, xf12, xf13, xf14, xf15, xf16, xf17, xf18, xf19, xf20, xf21, xf22, xf23, xf24, xf25, xf26, xf27⟩ := rfs h0
            simp (disch := omega) only [lc_X10_even_1, x_out, s_seq, s_ite, s_ret, s_retZ, s_retV, s_iasg, s_aasg, s_lasg, s_inc, s_put, s_putop, s_ast, s_astop, s_exp, s_call, s_skip, s_brk, s_cont, s_oinit, e_lit, e_long, e_il, e_al, e_ll, e_bin, e_un, e_fld, e_ald, e_tern, e_call, e_alen, b_cmp, b_cmp0, b_lcmp, b_and, b_or, b_not, o_add, o_sub, o_mul, o_and, o_or, o_xor, o_shl, o_shr, o_neg, o_i2l, o_l2i, o_i2c, r_eq, r_ne, r_lt, r_ge, r_gt, r_le, r_eq0, r_ne0, r_lt0, r_ge0, r_gt0, r_le0, x_int, x_ref, x_long, x_args, x_nar, xKd, xst1, xst2, xlg, Option.bind_some, Option.bind_none, Option.map_some, Option.map_none, List.getElem?_cons_zero, List.getElem?_cons_succ, List.set_cons_zero, List.set_cons_succ, List.length_cons, List.length_nil, List.length_map, List.length_range, List.length_set, decide_eq_true_eq, if_true, if_false, reduceIte, reduceCtorEq, Bool.not_true, Bool.not_false, Bool.false_eq_true, x_ix_nI, ax_get, ax_set, e_aald, s_aast, true_and, and_true, ite_true, ite_false, ↓bI_01, bI_eq0, bI_eq1, bool_or, tern_pure, and_pure, or_pure, bI_def, bne_t, ndf, decide_not, Bool.decide_eq_true, Bool.decide_and, Bool.decide_or, Nat.reduceEqDiff, Nat.reduceAdd, Nat.reduceMul, Nat.reduceSub, Nat.reduceLT, Nat.reduceLeDiff, or_false, false_or, or_true, true_or, and_false, false_and, Bool.or_eq_true, Bool.and_eq_true, Bool.or_false, Bool.or_true, Bool.true_or, Bool.false_or, Bool.and_true, Bool.and_false, Bool.true_and, Bool.false_and, decide_true, decide_false, not_true_eq_false, not_false_eq_true, xf0, xf1, xf2, xf3, xf4, xf5, xf6, xf7, xf8, xf9, xf10, xf11, xf12, xf13, xf14, xf15, xf16, xf17, xf18, xf19, xf20, xf21, xf22, xf23, xf24, xf25, xf26, xf27, nI_ltI, hi]
          · simp only [lu_X10_even_1, x_out, s_seq, s_ite, s_ret, s_retZ, s_retV, s_iasg, s_aasg, s_lasg, s_inc, s_put, s_putop, s_ast, s_astop, s_exp, s_call, s_skip, s_brk, s_cont, s_oinit, e_lit, e_long, e_il, e_al, e_ll, e_bin, e_un, e_fld, e_ald, e_tern, e_call, e_alen, b_cmp, b_cmp0, b_lcmp, b_and, b_or, b_not, o_add, o_sub, o_mul, o_and, o_or, o_xor, o_shl, o_shr, o_neg, o_i2l, o_l2i, o_i2c, r_eq, r_ne, r_lt, r_ge, r_gt, r_le, r_eq0, r_ne0, r_lt0, r_ge0, r_gt0, r_le0, x_fld, x_int, x_ref, x_long, x_args, x_nar, xKd, xst1, xst2, xlg, Option.bind_some, Option.bind_none, Option.map_some, Option.map_none, List.getElem?_cons_zero, List.getElem?_cons_succ, List.set_cons_zero, List.set_cons_succ, List.length_cons, List.length_nil, List.length_map, List.length_range, List.length_set, decide_eq_true_eq, if_true, if_false, reduceIte, reduceCtorEq, Bool.not_true, Bool.not_false, Bool.false_eq_true, x_ix_nI, ax_get, ax_set, e_aald, s_aast, true_and, and_true, ite_true, ite_false, ↓bI_01, bI_eq0, bI_eq1, bool_or, tern_pure, and_pure, or_pure, bI_def, bne_t, ndf, decide_not, Bool.decide_eq_true, Bool.decide_and, Bool.decide_or, Nat.reduceEqDiff, Nat.reduceAdd, Nat.reduceMul, Nat.reduceSub, Nat.reduceLT, Nat.reduceLeDiff, or_false, false_or, or_true, true_or, and_false, false_and, Bool.or_eq_true, Bool.and_eq_true, Bool.or_false, Bool.or_true, Bool.true_or, Bool.false_or, Bool.and_true, Bool.and_false, Bool.true_and, Bool.false_and, decide_true, decide_false, not_true_eq_false, not_false_eq_true, nI_1])
        (fun env k hJ => by
          obtain ⟨⟨u4, rfl⟩, rfl⟩ := hJ
          obtain ⟨xf0, xf1, xf2, xf3, xf4, xf5, xf6, xf7, xf8, xf9, xf10, xf11, xf12, xf13, xf14, xf15, xf16, xf17, xf18, xf19, xf20, xf21, xf22, xf23, xf24, xf25, xf26, xf27⟩ := rfs h0
          simp (disch := omega) only [lc_X10_even_1, la_X10_even_1, lu_X10_even_1, s_step, x_out, s_seq, s_ite, s_ret, s_retZ, s_retV, s_iasg, s_aasg, s_lasg, s_inc, s_put, s_putop, s_ast, s_astop, s_exp, s_call, s_skip, s_brk, s_cont, s_oinit, e_lit, e_long, e_il, e_al, e_ll, e_bin, e_un, e_fld, e_ald, e_tern, e_call, e_alen, b_cmp, b_cmp0, b_lcmp, b_and, b_or, b_not, o_add, o_sub, o_mul, o_and, o_or, o_xor, o_shl, o_shr, o_neg, o_i2l, o_l2i, o_i2c, r_eq, r_ne, r_lt, r_ge, r_gt, r_le, r_eq0, r_ne0, r_lt0, r_ge0, r_gt0, r_le0, x_int, x_ref, x_long, x_args, x_nar, xKd, xst1, xst2, xlg, Option.bind_some, Option.bind_none, Option.map_some, Option.map_none, List.getElem?_cons_zero, List.getElem?_cons_succ, List.set_cons_zero, List.set_cons_succ, List.length_cons, List.length_nil, List.length_map, List.length_range, List.length_set, decide_eq_true_eq, if_true, if_false, reduceIte, reduceCtorEq, Bool.not_true, Bool.not_false, Bool.false_eq_true, x_ix_nI, ax_get, ax_set, e_aald, s_aast, true_and, and_true, ite_true, ite_false, ↓bI_01, bI_eq0, bI_eq1, bool_or, tern_pure, and_pure, or_pure, bI_def, bne_t, ndf, decide_not, Bool.decide_eq_true, Bool.decide_and, Bool.decide_or, Nat.reduceEqDiff, Nat.reduceAdd, Nat.reduceMul, Nat.reduceSub, Nat.reduceLT, Nat.reduceLeDiff, or_false, false_or, or_true, true_or, and_false, false_and, Bool.or_eq_true, Bool.and_eq_true, Bool.or_false, Bool.or_true, Bool.true_or, Bool.false_or, Bool.and_true, Bool.and_false, Bool.true_and, Bool.false_and, decide_true, decide_false, not_true_eq_false, not_false_eq_true, xf0, xf1, xf2, xf3, xf4, xf5, xf6, xf7, xf8, xf9, xf10, xf11, xf12, xf13, xf14, xf15, xf16, xf17, xf18, xf19, xf20, xf21, xf22, xf23, xf24, xf25, xf26, xf27, nI_ltI, Nat.lt_irrefl])
      have h2n : 2 ^ pN (yP Y) ≤ 512 := Nat.le_trans (Nat.pow_le_pow_right (by decide) o5) (by decide)
      have ow := ev_eq o5 (U := sUn (yS Y) w) (hb := hgB (yP Y) (yS Y) w) (a := tP (yS Y) w) (fun i _ => hgB_iff)
      have sh := shl1b (pN (yP Y)) (by omega)
      obtain ⟨env9, h9, e9, rfl, H9, F9⟩ := s_loop_J (c := lc_X10_even_2) (a := la_X10_even_2) (u := lu_X10_even_2) (h := h3) (env := [some (.ref 106), some (.int (nI w)), some (.int (nI (owT (yS Y) w (pN (yP Y))))), some (.int (nI (fq none))), some (.int (nI 0))]) (fun i env k => env = [some (.ref 106), some (.int (nI w)), some (.int (nI (owT (yS Y) w (pN (yP Y))))), some (.int (nI (fq (mnF (hgB (yP Y) (yS Y) w) (fun i => cnt (fun k => i.testBit k) (pN (yP Y))) i)))), some (.int (nI i))] ∧ RAt k Y ∧ xFr (fun b => b = 119) h3 k) (2 ^ pN (yP Y)) 1000 (by omega) ⟨rfl, H, xFr.rf _ _⟩
        (fun i env k hi hJ => by
          obtain ⟨rfl, HK, Fr⟩ := hJ
          have hi5 : i < 512 := by omega
          obtain ⟨f', V', W'⟩ := HK.view
          obtain ⟨-, ⟨z', h0'⟩, -, -, -, -, -, -, -, g4, s4⟩ := id HK
          have h0' : k[106]? = some (.inl (10, _)) := h0'
          obtain ⟨k', x1, ⟨g', x2⟩, x3⟩ := hangs_r V' O W'.1 T K.1 s4 hw hi5
          have st : mnF (hgB (yP Y) (yS Y) w) (fun i => cnt (fun k => i.testBit k) (pN (yP Y))) (i + 1) = if hgB (yP Y) (yS Y) w i = true ∧ (∀ b, mnF (hgB (yP Y) (yS Y) w) (fun i => cnt (fun k => i.testBit k) (pN (yP Y))) i = some b → cnt (fun k => i.testBit k) (pN (yP Y)) < b) then some (cnt (fun k => i.testBit k) (pN (yP Y))) else mnF (hgB (yP Y) (yS Y) w) (fun i => cnt (fun k => i.testBit k) (pN (yP Y))) i := rfl
          have hb9 : ∀ b, mnF (hgB (yP Y) (yS Y) w) (fun i => cnt (fun k => i.testBit k) (pN (yP Y))) i = some b → b ≤ 9 := fun b e => by
            obtain ⟨⟨j, -, -, j3⟩, -⟩ := mnF_some e
            have : cnt (fun k => j.testBit k) (pN (yP Y)) = b := j3
            have := cnt_le (fun k => j.testBit k) (pN (yP Y))
            omega
          have hc9 := cnt_le (fun k => i.testBit k) (pN (yP Y))
          have on : ∀ k : XH, m_X10_ones [.int (nI i)] k = some (some (.int (nI (cnt (fun k => i.testBit k) (pN (yP Y))))), k) := fun k => by
            rw [← pop_lt2 o5 hi]
            exact ones_x k hi5
          generalize mnF (hgB (yP Y) (yS Y) w) (fun i => cnt (fun k => i.testBit k) (pN (yP Y))) (i + 1) = best' at st ⊢
          generalize mnF (hgB (yP Y) (yS Y) w) (fun i => cnt (fun k => i.testBit k) (pN (yP Y))) i = best at st hb9 ⊢
          generalize cnt (fun k => i.testBit k) (pN (yP Y)) = ci at st hc9 on
          generalize hgB (yP Y) (yS Y) w i = hb at st x1
          have hfq : fq best ≤ 1000000 := by
            cases best with
            | none => exact Nat.le_refl _
            | some b => have := hb9 b rfl; show b ≤ 1000000; omega
          have lq : (∀ b, best = some b → ci < b) ↔ ci < fq best := by
            cases best with
            | none => exact ⟨fun _ => by show ci < 1000000; omega, fun _ b hb => by cases hb⟩
            | some b => exact ⟨fun y => y b rfl, fun y b' hb' => by cases hb'; exact y⟩
          obtain ⟨r1, r2⟩ := ev_s (on := m_X10_ones) (hg := m_X10_hangs) (u2 := nI (owT (yS Y) w (pN (yP Y)))) (fw := fq best) (on k) (on k') x1 (by omega) (by omega)
          have ct : lc_X10_even_2 [some (.ref 106), some (.int (nI w)), some (.int (nI (owT (yS Y) w (pN (yP Y))))), some (.int (nI (fq best))), some (.int (nI i))] k = some (true, k) := by
            obtain ⟨xf0, xf1, xf2, xf3, xf4, xf5, xf6, xf7, xf8, xf9, xf10, xf11, xf12, xf13, xf14, xf15, xf16, xf17, xf18, xf19, xf20, xf21, xf22, xf23, xf24, xf25, xf26, xf27⟩ := rfs h0'
            simp (disch := omega) only [lc_X10_even_2, x_out, s_seq, s_ite, s_ret, s_retZ, s_retV, s_iasg, s_aasg, s_lasg, s_inc, s_put, s_putop, s_ast, s_astop, s_exp, s_call, s_skip, s_brk, s_cont, s_oinit, e_lit, e_long, e_il, e_al, e_ll, e_bin, e_un, e_fld, e_ald, e_tern, e_call, e_alen, b_cmp, b_cmp0, b_lcmp, b_and, b_or, b_not, o_add, o_sub, o_mul, o_and, o_or, o_xor, o_shl, o_shr, o_neg, o_i2l, o_l2i, o_i2c, r_eq, r_ne, r_lt, r_ge, r_gt, r_le, r_eq0, r_ne0, r_lt0, r_ge0, r_gt0, r_le0, x_int, x_ref, x_long, x_args, x_nar, xKd, xst1, xst2, xlg, Option.bind_some, Option.bind_none, Option.map_some, Option.map_none, List.getElem?_cons_zero, List.getElem?_cons_succ, List.set_cons_zero, List.set_cons_succ, List.length_cons, List.length_nil, List.length_map, List.length_range, List.length_set, decide_eq_true_eq, if_true, if_false, reduceIte, reduceCtorEq, Bool.not_true, Bool.not_false, Bool.false_eq_true, x_ix_nI, ax_get, ax_set, e_aald, s_aast, true_and, and_true, ite_true, ite_false, ↓bI_01, bI_eq0, bI_eq1, bool_or, tern_pure, and_pure, or_pure, bI_def, bne_t, ndf, decide_not, Bool.decide_eq_true, Bool.decide_and, Bool.decide_or, Nat.reduceEqDiff, Nat.reduceAdd, Nat.reduceMul, Nat.reduceSub, Nat.reduceLT, Nat.reduceLeDiff, or_false, false_or, or_true, true_or, and_false, false_and, Bool.or_eq_true, Bool.and_eq_true, Bool.or_false, Bool.or_true, Bool.true_or, Bool.false_or, Bool.and_true, Bool.and_false, Bool.true_and, Bool.false_and, decide_true, decide_false, not_true_eq_false, not_false_eq_true, xf0, xf1, xf2, xf3, xf4, xf5, xf6, xf7, xf8, xf9, xf10, xf11, xf12, xf13, xf14, xf15, xf16, xf17, xf18, xf19, xf20, xf21, xf22, xf23, xf24, xf25, xf26, xf27, sh, nI_ltI, hi]
          have ut : ∀ (v : Int32) (k' : XH), lu_X10_even_2 [some (.ref 106), some (.int (nI w)), some (.int (nI (owT (yS Y) w (pN (yP Y))))), some (.int v), some (.int (nI i))] k' = some (none, [some (.ref 106), some (.int (nI w)), some (.int (nI (owT (yS Y) w (pN (yP Y))))), some (.int v), some (.int (nI (i + 1)))], k') := fun v k' => by
            simp only [lu_X10_even_2, x_out, s_seq, s_ite, s_ret, s_retZ, s_retV, s_iasg, s_aasg, s_lasg, s_inc, s_put, s_putop, s_ast, s_astop, s_exp, s_call, s_skip, s_brk, s_cont, s_oinit, e_lit, e_long, e_il, e_al, e_ll, e_bin, e_un, e_fld, e_ald, e_tern, e_call, e_alen, b_cmp, b_cmp0, b_lcmp, b_and, b_or, b_not, o_add, o_sub, o_mul, o_and, o_or, o_xor, o_shl, o_shr, o_neg, o_i2l, o_l2i, o_i2c, r_eq, r_ne, r_lt, r_ge, r_gt, r_le, r_eq0, r_ne0, r_lt0, r_ge0, r_gt0, r_le0, x_fld, x_int, x_ref, x_long, x_args, x_nar, xKd, xst1, xst2, xlg, Option.bind_some, Option.bind_none, Option.map_some, Option.map_none, List.getElem?_cons_zero, List.getElem?_cons_succ, List.set_cons_zero, List.set_cons_succ, List.length_cons, List.length_nil, List.length_map, List.length_range, List.length_set, decide_eq_true_eq, if_true, if_false, reduceIte, reduceCtorEq, Bool.not_true, Bool.not_false, Bool.false_eq_true, x_ix_nI, ax_get, ax_set, e_aald, s_aast, true_and, and_true, ite_true, ite_false, ↓bI_01, bI_eq0, bI_eq1, bool_or, tern_pure, and_pure, or_pure, bI_def, bne_t, ndf, decide_not, Bool.decide_eq_true, Bool.decide_and, Bool.decide_or, Nat.reduceEqDiff, Nat.reduceAdd, Nat.reduceMul, Nat.reduceSub, Nat.reduceLT, Nat.reduceLeDiff, or_false, false_or, or_true, true_or, and_false, false_and, Bool.or_eq_true, Bool.and_eq_true, Bool.or_false, Bool.or_true, Bool.true_or, Bool.false_or, Bool.and_true, Bool.and_false, Bool.true_and, Bool.false_and, decide_true, decide_false, not_true_eq_false, not_false_eq_true, nI_1]
          by_cases y : ci < fq best
          · have fe : fq best' = if hb = true then ci else fq best := by
              rw [st]
              cases hb with
              | true => rw [if_pos ⟨rfl, lq.mpr y⟩, if_pos rfl]; rfl
              | false => rw [if_neg (fun z => by cases z.1), if_neg (by simp)]
            have fe2 : nI (fq best') = if hb = true then nI ci else nI (fq best) := by
              rw [fe]
              split <;> rfl
            rw [← fe2] at r2
            exact ⟨_, k', s_step_on ct (r2 y) (ut _ k'), rfl, HK.up119 x3 x2, (Fr.trans x3).mono fun b hb => hb.elim id id⟩
          · have fe : best' = best := by
              rw [st, if_neg (fun z => y (lq.mp z.2))]
            rw [fe]
            exact ⟨_, k, s_step_on ct (r1 y) (ut _ k), rfl, HK, Fr⟩)
        (fun env k hJ => by
          obtain ⟨rfl, HK, Fr⟩ := hJ
          obtain ⟨-, ⟨z', h0'⟩, -⟩ := id HK
          have h0' : k[106]? = some (.inl (10, _)) := h0'
          refine s_step_end ?_
          obtain ⟨xf0, xf1, xf2, xf3, xf4, xf5, xf6, xf7, xf8, xf9, xf10, xf11, xf12, xf13, xf14, xf15, xf16, xf17, xf18, xf19, xf20, xf21, xf22, xf23, xf24, xf25, xf26, xf27⟩ := rfs h0'
          simp (disch := omega) only [lc_X10_even_2, x_out, s_seq, s_ite, s_ret, s_retZ, s_retV, s_iasg, s_aasg, s_lasg, s_inc, s_put, s_putop, s_ast, s_astop, s_exp, s_call, s_skip, s_brk, s_cont, s_oinit, e_lit, e_long, e_il, e_al, e_ll, e_bin, e_un, e_fld, e_ald, e_tern, e_call, e_alen, b_cmp, b_cmp0, b_lcmp, b_and, b_or, b_not, o_add, o_sub, o_mul, o_and, o_or, o_xor, o_shl, o_shr, o_neg, o_i2l, o_l2i, o_i2c, r_eq, r_ne, r_lt, r_ge, r_gt, r_le, r_eq0, r_ne0, r_lt0, r_ge0, r_gt0, r_le0, x_int, x_ref, x_long, x_args, x_nar, xKd, xst1, xst2, xlg, Option.bind_some, Option.bind_none, Option.map_some, Option.map_none, List.getElem?_cons_zero, List.getElem?_cons_succ, List.set_cons_zero, List.set_cons_succ, List.length_cons, List.length_nil, List.length_map, List.length_range, List.length_set, decide_eq_true_eq, if_true, if_false, reduceIte, reduceCtorEq, Bool.not_true, Bool.not_false, Bool.false_eq_true, x_ix_nI, ax_get, ax_set, e_aald, s_aast, true_and, and_true, ite_true, ite_false, ↓bI_01, bI_eq0, bI_eq1, bool_or, tern_pure, and_pure, or_pure, bI_def, bne_t, ndf, decide_not, Bool.decide_eq_true, Bool.decide_and, Bool.decide_or, Nat.reduceEqDiff, Nat.reduceAdd, Nat.reduceMul, Nat.reduceSub, Nat.reduceLT, Nat.reduceLeDiff, or_false, false_or, or_true, true_or, and_false, false_and, Bool.or_eq_true, Bool.and_eq_true, Bool.or_false, Bool.or_true, Bool.true_or, Bool.false_or, Bool.and_true, Bool.and_false, Bool.true_and, Bool.false_and, decide_true, decide_false, not_true_eq_false, not_false_eq_true, xf0, xf1, xf2, xf3, xf4, xf5, xf6, xf7, xf8, xf9, xf10, xf11, xf12, xf13, xf14, xf15, xf16, xf17, xf18, xf19, xf20, xf21, xf22, xf23, xf24, xf25, xf26, xf27, sh, nI_ltI, Nat.lt_irrefl])
      rw [ow] at e9
      refine ⟨h9, ?_, H9, F9.mono fun b hb => by unfold rC; omega⟩
      have z2 : nI (fq none) = 1000000 := rfl
      rw [z2, nI_0] at e9
      rw [nI_0] at e3
      refine xM_run (env := [some (.ref 106), some (.int (nI w)), none, none, none]) h0 rfl rfl (Nat.le_of_ble_eq_true rfl) rfl ?_ rfl
      unfold bd_X10_even
      rw [s_seq_n c1, s_seq_n c2, s_seq_n (show (s_iasg 2 (e_lit 0)) _ h3 = some (none, [some (.ref 106), some (.int (nI w)), some (.int 0), none, none], h3) from rfl), s_seq_n (show (s_iasg 3 (e_lit 0)) _ h3 = some (none, [some (.ref 106), some (.int (nI w)), some (.int 0), some (.int 0), none], h3) from rfl), s_seq_n e3, s_seq_n (show (s_iasg 3 (e_lit 1000000)) _ h3 = some (none, [some (.ref 106), some (.int (nI w)), some (.int (nI (owT (yS Y) w (pN (yP Y))))), some (.int 1000000), u4], h3) from rfl), s_seq_n (show (s_iasg 4 (e_lit 0)) _ h3 = some (none, [some (.ref 106), some (.int (nI w)), some (.int (nI (owT (yS Y) w (pN (yP Y))))), some (.int 1000000), some (.int 0)], h3) from rfl), s_seq_n e9]
      simp only [q, Bool.true_eq_false, if_false]
      cases q3 : evO (yP Y) (sUn (yS Y) w) (tP (yS Y) w) with
      | none =>
        have z3 : nI (fq none) = 1000000 := rfl
        simp only [x_out, s_seq, s_ite, s_ret, s_retZ, s_retV, s_iasg, s_aasg, s_lasg, s_inc, s_put, s_putop, s_ast, s_astop, s_exp, s_call, s_skip, s_brk, s_cont, s_oinit, e_lit, e_long, e_il, e_al, e_ll, e_bin, e_un, e_fld, e_ald, e_tern, e_call, e_alen, b_cmp, b_cmp0, b_lcmp, b_and, b_or, b_not, o_add, o_sub, o_mul, o_and, o_or, o_xor, o_shl, o_shr, o_neg, o_i2l, o_l2i, o_i2c, r_eq, r_ne, r_lt, r_ge, r_gt, r_le, r_eq0, r_ne0, r_lt0, r_ge0, r_gt0, r_le0, x_fld, x_int, x_ref, x_long, x_args, x_nar, xKd, xst1, xst2, xlg, Option.bind_some, Option.bind_none, Option.map_some, Option.map_none, List.getElem?_cons_zero, List.getElem?_cons_succ, List.set_cons_zero, List.set_cons_succ, List.length_cons, List.length_nil, List.length_map, List.length_range, List.length_set, decide_eq_true_eq, if_true, if_false, reduceIte, reduceCtorEq, Bool.not_true, Bool.not_false, Bool.false_eq_true, x_ix_nI, ax_get, ax_set, e_aald, s_aast, true_and, and_true, ite_true, ite_false, ↓bI_01, bI_eq0, bI_eq1, bool_or, tern_pure, and_pure, or_pure, bI_def, bne_t, ndf, decide_not, Bool.decide_eq_true, Bool.decide_and, Bool.decide_or, Nat.reduceEqDiff, Nat.reduceAdd, Nat.reduceMul, Nat.reduceSub, Nat.reduceLT, Nat.reduceLeDiff, or_false, false_or, or_true, true_or, and_false, false_and, Bool.or_eq_true, Bool.and_eq_true, Bool.or_false, Bool.or_true, Bool.true_or, Bool.false_or, Bool.and_true, Bool.and_false, Bool.true_and, Bool.false_and, decide_true, decide_false, not_true_eq_false, not_false_eq_true, z3]
      | some o =>
        have ho : o ≤ 9 := by
          obtain ⟨⟨i, -, -, i3⟩, -⟩ := mnF_some q3
          have := evC_le (yP Y) O (sUn (yS Y) w) i
          omega
        have z3 : fq (some o) = o := rfl
        have nf : (nI o = 1000000) = False := by
          rw [show (1000000 : Int32) = nI 1000000 from rfl, nI_eq (by omega) (by omega)]
          exact eq_false (by omega)
        simp (disch := omega) only [x_out, s_seq, s_ite, s_ret, s_retZ, s_retV, s_iasg, s_aasg, s_lasg, s_inc, s_put, s_putop, s_ast, s_astop, s_exp, s_call, s_skip, s_brk, s_cont, s_oinit, e_lit, e_long, e_il, e_al, e_ll, e_bin, e_un, e_fld, e_ald, e_tern, e_call, e_alen, b_cmp, b_cmp0, b_lcmp, b_and, b_or, b_not, o_add, o_sub, o_mul, o_and, o_or, o_xor, o_shl, o_shr, o_neg, o_i2l, o_l2i, o_i2c, r_eq, r_ne, r_lt, r_ge, r_gt, r_le, r_eq0, r_ne0, r_lt0, r_ge0, r_gt0, r_le0, x_fld, x_int, x_ref, x_long, x_args, x_nar, xKd, xst1, xst2, xlg, Option.bind_some, Option.bind_none, Option.map_some, Option.map_none, List.getElem?_cons_zero, List.getElem?_cons_succ, List.set_cons_zero, List.set_cons_succ, List.length_cons, List.length_nil, List.length_map, List.length_range, List.length_set, decide_eq_true_eq, if_true, if_false, reduceIte, reduceCtorEq, Bool.not_true, Bool.not_false, Bool.false_eq_true, x_ix_nI, ax_get, ax_set, e_aald, s_aast, true_and, and_true, ite_true, ite_false, ↓bI_01, bI_eq0, bI_eq1, bool_or, tern_pure, and_pure, or_pure, bI_def, bne_t, ndf, decide_not, Bool.decide_eq_true, Bool.decide_and, Bool.decide_or, Nat.reduceEqDiff, Nat.reduceAdd, Nat.reduceMul, Nat.reduceSub, Nat.reduceLT, Nat.reduceLeDiff, or_false, false_or, or_true, true_or, and_false, false_and, Bool.or_eq_true, Bool.and_eq_true, Bool.or_false, Bool.or_true, Bool.true_or, Bool.false_or, Bool.and_true, Bool.and_false, Bool.true_and, Bool.false_and, decide_true, decide_false, not_true_eq_false, not_false_eq_true, z3, nf, l2, nI_m, nI_add]
end EM
