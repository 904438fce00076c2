/-! the text: what its items are; the class's reading of numbers -/
def lt (l : List Nat) (i : Nat) : Nat := l.getD i 0
def dg (x : Nat) : Bool := decide (48 ≤ x) && decide (x ≤ 57)
def nD (l : List Nat) (i : Nat) : Nat := if dg (lt l i) = true then (if dg (lt l (i + 1)) = true then 2 else 1) else 0
def nV (l : List Nat) (i : Nat) : Nat := if dg (lt l i) = true then (if dg (lt l (i + 1)) = true then 10 * (lt l i - 48) + (lt l (i + 1) - 48) else lt l i - 48) else 0
/-- a number with its sign behind it: its value, the place behind -/
def tk (l : List Nat) (i sg : Nat) : Option (Nat × Nat) := if nD l i = 0 then none else if lt l (i + nD l i) = sg then some (nV l i, i + nD l i + 1) else none
/-- so many numbers at most, parted by a comma, a semicolon behind the last -/
def rnN (l : List Nat) : Nat → Nat → Option (List Nat × Nat)
  | 0, _ => none
  | k + 1, p => match tk l p 59 with
    | some (v, j) => some ([v], j)
    | none => match tk l p 44 with
      | some (v, j) => (rnN l k j).map fun r => (v :: r.1, r.2)
      | none => none
theorem lt_out {l : List Nat} {i : Nat} (h : l.length ≤ i) : lt l i = 0 := by
  unfold lt
  rw [List.getD_eq_getElem?_getD, List.getElem?_eq_none h]
  rfl
theorem lt_in {l : List Nat} {i : Nat} (h : lt l i ≠ 0) : i < l.length := by
  refine Classical.byContradiction fun q => h (lt_out (by omega))
theorem lt_le {l : List Nat} (hl : ∀ x, x ∈ l → 32 ≤ x ∧ x ≤ 126) (i : Nat) : lt l i ≤ 126 := by
  by_cases q : i < l.length
  · unfold lt
    rw [List.getD_eq_getElem?_getD, List.getElem?_eq_getElem q]
    exact (hl _ (List.getElem_mem q)).2
  · rw [lt_out (by omega)]; omega
theorem dg_iff {x : Nat} : dg x = true ↔ 48 ≤ x ∧ x ≤ 57 := by simp [dg]
theorem nV_le (l : List Nat) (i : Nat) : nV l i ≤ 99 := by
  unfold nV
  split
  · rename_i q
    have := dg_iff.mp q
    split
    · rename_i q2
      have := dg_iff.mp q2
      omega
    · omega
  · omega
theorem nD_le (l : List Nat) (i : Nat) : nD l i ≤ 2 := by
  unfold nD
  split
  · split <;> omega
  · omega
theorem tk_spec {l : List Nat} {i sg v j : Nat} (hs : sg ≠ 0) (h : tk l i sg = some (v, j)) : i < j ∧ j ≤ l.length ∧ v ≤ 99 := by
  unfold tk at h
  split at h
  · cases h
  · split at h
    · rename_i q1 q2
      cases h
      have := lt_in (l := l) (i := i + nD l i) (by omega)
      exact ⟨by omega, by omega, nV_le _ _⟩
    · cases h
theorem tk_excl {l : List Nat} {i v j : Nat} (h : tk l i 44 = some (v, j)) : tk l i 59 = none := by
  unfold tk at h ⊢
  split at h
  · cases h
  · rename_i q1
    rw [if_neg q1]
    split at h
    · rename_i q2
      rw [if_neg (by omega)]
    · cases h
theorem rnN_spec {l : List Nat} : ∀ {k p : Nat} {vs : List Nat} {j : Nat}, rnN l k p = some (vs, j) → p < j ∧ j ≤ l.length ∧ vs.length ≤ k ∧ 1 ≤ vs.length ∧ ∀ x, x ∈ vs → x ≤ 99 := by
  intro k
  induction k with
  | zero => intro p vs j h; cases h
  | succ k ih =>
    intro p vs j h
    simp only [rnN] at h
    split at h
    · rename_i v j' e
      cases h
      obtain ⟨h1, h2, h3⟩ := tk_spec (by decide) e
      exact ⟨h1, h2, by simp, by simp, fun x hx => by rw [List.mem_singleton.mp hx]; exact h3⟩
    · split at h
      · rename_i v j' e
        obtain ⟨r, hr, h⟩ := Option.map_eq_some_iff.mp h
        cases h
        obtain ⟨h1, h2, h3⟩ := tk_spec (by decide) e
        obtain ⟨g1, g2, g3, g4, g5⟩ := ih hr
        refine ⟨by omega, g2, by simp; omega, by simp, fun x hx => ?_⟩
        rcases List.mem_cons.mp hx with rfl | hx
        · exact h3
        · exact g5 x hx
      · cases h
/-- a loop that is out within so many rounds -/
def lpR (N : Nat) (c : XB) (a u : XS) (env : XE) (h : XH) (r : XO × XE × XH) : Prop := ∀ m, N < m → s_loop m c a u env h = some r
theorem lpR_step {N : Nat} {c : XB} {a u : XS} {env env' : XE} {h h' : XH} {r : XO × XE × XH} (h1 : s_step c a u env h = some (.inr (env', h'))) (h2 : lpR N c a u env' h' r) : lpR (N + 1) c a u env h r := by
  intro m hm
  obtain ⟨k, rfl⟩ : ∃ k, m = k + 1 := ⟨m - 1, by omega⟩
  rw [s_loop_step, h1]
  exact h2 k (by omega)
theorem lpR_out {c : XB} {a u : XS} {env : XE} {h : XH} {r : XO × XE × XH} (h1 : s_step c a u env h = some (.inl r)) : lpR 0 c a u env h r := by
  intro m hm
  obtain ⟨k, rfl⟩ : ∃ k, m = k + 1 := ⟨m - 1, by omega⟩
  rw [s_loop_step, h1]
  rfl
theorem lpR_mono {N M : Nat} {c : XB} {a u : XS} {env : XE} {h : XH} {r : XO × XE × XH} (h1 : lpR N c a u env h r) (hn : N ≤ M) : lpR M c a u env h r := fun m hm => h1 m (by omega)
theorem s_step_cont {c : XB} {a u : XS} {env env1 env2 : XE} {h h0 h1 h2 : XH} (hc : c env h = some (true, h0)) (ha : a env h0 = some (some (.inl false), env1, h1)) (hu : u env1 h1 = some (none, env2, h2)) : s_step c a u env h = some (.inr (env2, h2)) := by
  simp only [s_step, hc, ha, hu, Option.bind_some, if_true]
/-- the text's own cells -/
def XTx (h : XH) (n : Nat) (nc ff : Int32) : Prop := h[1]? = some (.inl (8, [.int (nI n), .ref 2, .ref 9, .ref 10, .int nc, .int ff]))
def XLt (h : XH) (l : List Nat) : Prop := ∃ f, h[9]? = some (carr 200 f) ∧ ∀ i, i < l.length → f i = nI (l.getD i 0)
section RN
variable {h : XH} {l : List Nat} {ff : Int32} {g : Nat → Int32}
theorem rn_letter {n : Nat} {nc : Int32} (hx : XTx h n nc ff) (hL : XLt h l) (hl : l.length ≤ 200) {p : Nat} (hp : p < l.length) (s v f u : Option Value) : (s_iasg 5 (e_ald 1 (e_fld 8 2 (e_al 0)) (e_il 4))) [some (.ref 1), s, v, f, some (.int (nI p)), u] h = some (none, [some (.ref 1), s, v, f, some (.int (nI p)), some (.int (nI (lt l p)))], h) := by
  obtain ⟨r, h1, h2⟩ := hL
  have hx : h[1]? = some (.inl (8, [.int (nI n), .ref 2, .ref 9, .ref 10, .int nc, .int ff])) := hx
  have r1 := cx_row h1
  have hp2 : p < 200 := by omega
  have e := h2 p hp
  simp (disch := omega) only [x_out, s_seq, s_ite, s_ret, s_retZ, s_retV, s_iasg, s_aasg, s_lasg, s_inc, s_put, s_putop, s_ast, s_astop, s_exp, s_call, s_skip, s_brk, s_cont, s_oinit, e_lit, e_long, e_il, e_al, e_ll, e_bin, e_un, e_fld, e_ald, e_tern, e_call, e_alen, b_cmp, b_cmp0, b_lcmp, b_and, b_or, b_not, o_add, o_sub, o_mul, o_and, o_or, o_xor, o_shl, o_shr, o_neg, o_i2l, o_l2i, o_i2c, r_eq, r_ne, r_lt, r_ge, r_gt, r_le, r_eq0, r_ne0, r_lt0, r_ge0, r_gt0, r_le0, x_fld, x_int, x_ref, x_long, x_args, x_nar, xKd, xst1, xst2, xlg, Option.bind_some, Option.bind_none, Option.map_some, Option.map_none, List.getElem?_cons_zero, List.getElem?_cons_succ, List.set_cons_zero, List.set_cons_succ, List.length_cons, List.length_nil, List.length_map, List.length_range, List.length_set, decide_eq_true_eq, if_true, if_false, reduceIte, reduceCtorEq, Bool.not_true, Bool.not_false, Bool.false_eq_true, x_ix_nI, ax_get, ax_set, e_aald, s_aast, true_and, and_true, ite_true, ite_false, ↓bI_01, bI_eq0, bI_eq1, bool_or, tern_pure, and_pure, or_pure, bI_def, bne_t, ndf, decide_not, Bool.decide_eq_true, Bool.decide_and, Bool.decide_or, Nat.reduceEqDiff, Nat.reduceAdd, Nat.reduceMul, Nat.reduceSub, Nat.reduceLT, Nat.reduceLeDiff, or_false, false_or, or_true, true_or, and_false, false_and, Bool.or_eq_true, Bool.and_eq_true, Bool.or_false, Bool.or_true, Bool.true_or, Bool.false_or, Bool.and_true, Bool.and_false, Bool.true_and, Bool.false_and, decide_true, decide_false, not_true_eq_false, not_false_eq_true, hx, r1, hp2, e, lt]
theorem rn_test {nc : Int32} (hx : XTx h l.length nc ff) (hl : l.length ≤ 200) {p : Nat} (hp : p ≤ 300) (s v f u : Option Value) : lc_X8_readNumbers_1 [some (.ref 1), s, v, f, some (.int (nI p)), u] h = some (decide (p < l.length), h) := by
  have hx : h[1]? = some (.inl (8, [.int (nI l.length), .ref 2, .ref 9, .ref 10, .int nc, .int ff])) := hx
  simp (disch := omega) only [lc_X8_readNumbers_1, x_out, s_seq, s_ite, s_ret, s_retZ, s_retV, s_iasg, s_aasg, s_lasg, s_inc, s_put, s_putop, s_ast, s_astop, s_exp, s_call, s_skip, s_brk, s_cont, s_oinit, e_lit, e_long, e_il, e_al, e_ll, e_bin, e_un, e_fld, e_ald, e_tern, e_call, e_alen, b_cmp, b_cmp0, b_lcmp, b_and, b_or, b_not, o_add, o_sub, o_mul, o_and, o_or, o_xor, o_shl, o_shr, o_neg, o_i2l, o_l2i, o_i2c, r_eq, r_ne, r_lt, r_ge, r_gt, r_le, r_eq0, r_ne0, r_lt0, r_ge0, r_gt0, r_le0, x_fld, x_int, x_ref, x_long, x_args, x_nar, xKd, xst1, xst2, xlg, Option.bind_some, Option.bind_none, Option.map_some, Option.map_none, List.getElem?_cons_zero, List.getElem?_cons_succ, List.set_cons_zero, List.set_cons_succ, List.length_cons, List.length_nil, List.length_map, List.length_range, List.length_set, decide_eq_true_eq, if_true, if_false, reduceIte, reduceCtorEq, Bool.not_true, Bool.not_false, Bool.false_eq_true, x_ix_nI, ax_get, ax_set, e_aald, s_aast, true_and, and_true, ite_true, ite_false, ↓bI_01, bI_eq0, bI_eq1, bool_or, tern_pure, and_pure, or_pure, bI_def, bne_t, ndf, decide_not, Bool.decide_eq_true, Bool.decide_and, Bool.decide_or, Nat.reduceEqDiff, Nat.reduceAdd, Nat.reduceMul, Nat.reduceSub, Nat.reduceLT, Nat.reduceLeDiff, or_false, false_or, or_true, true_or, and_false, false_and, Bool.or_eq_true, Bool.and_eq_true, Bool.or_false, Bool.or_true, Bool.true_or, Bool.false_or, Bool.and_true, Bool.and_false, Bool.true_and, Bool.false_and, decide_true, decide_false, not_true_eq_false, not_false_eq_true, hx, nI_ltI]
theorem rn_dig {x fg : Nat} (hx : x ≤ 126) (hf : fg ≤ 2) (t s v p : Option Value) : (b_and (b_and (b_cmp r_ge (e_il 5) (e_lit 48)) (b_cmp r_le (e_il 5) (e_lit 57))) (b_cmp r_lt (e_il 3) (e_lit 2))) [t, s, v, some (.int (nI fg)), p, some (.int (nI x))] h = some (dg x && decide (fg < 2), h) := by
  have e1 : (48 : Int32) = nI 48 := rfl
  have e2 : (57 : Int32) = nI 57 := rfl
  exact b_and_p (b_and_p (by simp (disch := omega) only [x_out, s_seq, s_ite, s_ret, s_retZ, s_retV, s_iasg, s_aasg, s_lasg, s_inc, s_put, s_putop, s_ast, s_astop, s_exp, s_call, s_skip, s_brk, s_cont, s_oinit, e_lit, e_long, e_il, e_al, e_ll, e_bin, e_un, e_fld, e_ald, e_tern, e_call, e_alen, b_cmp, b_cmp0, b_lcmp, b_and, b_or, b_not, o_add, o_sub, o_mul, o_and, o_or, o_xor, o_shl, o_shr, o_neg, o_i2l, o_l2i, o_i2c, r_eq, r_ne, r_lt, r_ge, r_gt, r_le, r_eq0, r_ne0, r_lt0, r_ge0, r_gt0, r_le0, x_fld, x_int, x_ref, x_long, x_args, x_nar, xKd, xst1, xst2, xlg, Option.bind_some, Option.bind_none, Option.map_some, Option.map_none, List.getElem?_cons_zero, List.getElem?_cons_succ, List.set_cons_zero, List.set_cons_succ, List.length_cons, List.length_nil, List.length_map, List.length_range, List.length_set, decide_eq_true_eq, if_true, if_false, reduceIte, reduceCtorEq, Bool.not_true, Bool.not_false, Bool.false_eq_true, x_ix_nI, ax_get, ax_set, e_aald, s_aast, true_and, and_true, ite_true, ite_false, ↓bI_01, bI_eq0, bI_eq1, bool_or, tern_pure, and_pure, or_pure, bI_def, bne_t, ndf, decide_not, Bool.decide_eq_true, Bool.decide_and, Bool.decide_or, Nat.reduceEqDiff, Nat.reduceAdd, Nat.reduceMul, Nat.reduceSub, Nat.reduceLT, Nat.reduceLeDiff, or_false, false_or, or_true, true_or, and_false, false_and, Bool.or_eq_true, Bool.and_eq_true, Bool.or_false, Bool.or_true, Bool.true_or, Bool.false_or, Bool.and_true, Bool.and_false, Bool.true_and, Bool.false_and, decide_true, decide_false, not_true_eq_false, not_false_eq_true, e1, nI_leI]) (fun _ => by simp (disch := omega) only [x_out, s_seq, s_ite, s_ret, s_retZ, s_retV, s_iasg, s_aasg, s_lasg, s_inc, s_put, s_putop, s_ast, s_astop, s_exp, s_call, s_skip, s_brk, s_cont, s_oinit, e_lit, e_long, e_il, e_al, e_ll, e_bin, e_un, e_fld, e_ald, e_tern, e_call, e_alen, b_cmp, b_cmp0, b_lcmp, b_and, b_or, b_not, o_add, o_sub, o_mul, o_and, o_or, o_xor, o_shl, o_shr, o_neg, o_i2l, o_l2i, o_i2c, r_eq, r_ne, r_lt, r_ge, r_gt, r_le, r_eq0, r_ne0, r_lt0, r_ge0, r_gt0, r_le0, x_fld, x_int, x_ref, x_long, x_args, x_nar, xKd, xst1, xst2, xlg, Option.bind_some, Option.bind_none, Option.map_some, Option.map_none, List.getElem?_cons_zero, List.getElem?_cons_succ, List.set_cons_zero, List.set_cons_succ, List.length_cons, List.length_nil, List.length_map, List.length_range, List.length_set, decide_eq_true_eq, if_true, if_false, reduceIte, reduceCtorEq, Bool.not_true, Bool.not_false, Bool.false_eq_true, x_ix_nI, ax_get, ax_set, e_aald, s_aast, true_and, and_true, ite_true, ite_false, ↓bI_01, bI_eq0, bI_eq1, bool_or, tern_pure, and_pure, or_pure, bI_def, bne_t, ndf, decide_not, Bool.decide_eq_true, Bool.decide_and, Bool.decide_or, Nat.reduceEqDiff, Nat.reduceAdd, Nat.reduceMul, Nat.reduceSub, Nat.reduceLT, Nat.reduceLeDiff, or_false, false_or, or_true, true_or, and_false, false_and, Bool.or_eq_true, Bool.and_eq_true, Bool.or_false, Bool.or_true, Bool.true_or, Bool.false_or, Bool.and_true, Bool.and_false, Bool.true_and, Bool.false_and, decide_true, decide_false, not_true_eq_false, not_false_eq_true, e2, nI_leI])) (fun _ => by simp (disch := omega) only [x_out, s_seq, s_ite, s_ret, s_retZ, s_retV, s_iasg, s_aasg, s_lasg, s_inc, s_put, s_putop, s_ast, s_astop, s_exp, s_call, s_skip, s_brk, s_cont, s_oinit, e_lit, e_long, e_il, e_al, e_ll, e_bin, e_un, e_fld, e_ald, e_tern, e_call, e_alen, b_cmp, b_cmp0, b_lcmp, b_and, b_or, b_not, o_add, o_sub, o_mul, o_and, o_or, o_xor, o_shl, o_shr, o_neg, o_i2l, o_l2i, o_i2c, r_eq, r_ne, r_lt, r_ge, r_gt, r_le, r_eq0, r_ne0, r_lt0, r_ge0, r_gt0, r_le0, x_fld, x_int, x_ref, x_long, x_args, x_nar, xKd, xst1, xst2, xlg, Option.bind_some, Option.bind_none, Option.map_some, Option.map_none, List.getElem?_cons_zero, List.getElem?_cons_succ, List.set_cons_zero, List.set_cons_succ, List.length_cons, List.length_nil, List.length_map, List.length_range, List.length_set, decide_eq_true_eq, if_true, if_false, reduceIte, reduceCtorEq, Bool.not_true, Bool.not_false, Bool.false_eq_true, x_ix_nI, ax_get, ax_set, e_aald, s_aast, true_and, and_true, ite_true, ite_false, ↓bI_01, bI_eq0, bI_eq1, bool_or, tern_pure, and_pure, or_pure, bI_def, bne_t, ndf, decide_not, Bool.decide_eq_true, Bool.decide_and, Bool.decide_or, Nat.reduceEqDiff, Nat.reduceAdd, Nat.reduceMul, Nat.reduceSub, Nat.reduceLT, Nat.reduceLeDiff, or_false, false_or, or_true, true_or, and_false, false_and, Bool.or_eq_true, Bool.and_eq_true, Bool.or_false, Bool.or_true, Bool.true_or, Bool.false_or, Bool.and_true, Bool.and_false, Bool.true_and, Bool.false_and, decide_true, decide_false, not_true_eq_false, not_false_eq_true, l2, nI_ltI])
/-- a figure is taken -/
theorem rn_s1 {nc : Int32} (hx : XTx h l.length nc ff) (hL : XLt h l) (hl : l.length ≤ 200) (ha : ∀ x, x ∈ l → 32 ≤ x ∧ x ≤ 126) {p fg v i : Nat} (hd : dg (lt l p) = true) (hf : fg < 2) (u : Option Value) : s_step lc_X8_readNumbers_1 la_X8_readNumbers_1 lu_X8_readNumbers_1 [some (.ref 1), some (.int (nI i)), some (.int (nI v)), some (.int (nI fg)), some (.int (nI p)), u] h = some (.inr ([some (.ref 1), some (.int (nI i)), some (.int (nI (10 * v + (lt l p - 48)))), some (.int (nI (fg + 1))), some (.int (nI (p + 1))), some (.int (nI (lt l p)))], h)) := by
  have hd2 := dg_iff.mp hd
  have hp : p < l.length := lt_in (by omega)
  have c0 := rn_test hx hl (p := p) (by omega) (some (.int (nI i))) (some (.int (nI v))) (some (.int (nI fg))) u
  rw [decide_eq_true hp] at c0
  have c1 := rn_letter hx hL hl hp (some (.int (nI i))) (some (.int (nI v))) (some (.int (nI fg))) u
  have c2 := rn_dig (h := h) (x := lt l p) (fg := fg) (by omega) (by omega) (some (.ref 1)) (some (.int (nI i))) (some (.int (nI v))) (some (.int (nI p)))
  rw [hd, decide_eq_true hf] at c2
  have e1 : (10 : Int32) * nI v + nI (lt l p) - 48 = nI (10 * v + (lt l p - 48)) := by
    rw [show (10 : Int32) = nI 10 from rfl, show (48 : Int32) = nI 48 from rfl, nI_m, nI_add, pk_sub (by omega)]
    congr 1
    omega
  refine s_step_cont c0 (env1 := [some (.ref 1), some (.int (nI i)), some (.int (nI (10 * v + (lt l p - 48)))), some (.int (nI (fg + 1))), some (.int (nI p)), some (.int (nI (lt l p)))]) (h1 := h) ?_ ?_
  · unfold la_X8_readNumbers_1
    rw [s_seq_n c1]
    refine s_seq_r ((s_ite_t c2).trans ?_)
    simp only [x_out, s_seq, s_ite, s_ret, s_retZ, s_retV, s_iasg, s_aasg, s_lasg, s_inc, s_put, s_putop, s_ast, s_astop, s_exp, s_call, s_skip, s_brk, s_cont, s_oinit, e_lit, e_long, e_il, e_al, e_ll, e_bin, e_un, e_fld, e_ald, e_tern, e_call, e_alen, b_cmp, b_cmp0, b_lcmp, b_and, b_or, b_not, o_add, o_sub, o_mul, o_and, o_or, o_xor, o_shl, o_shr, o_neg, o_i2l, o_l2i, o_i2c, r_eq, r_ne, r_lt, r_ge, r_gt, r_le, r_eq0, r_ne0, r_lt0, r_ge0, r_gt0, r_le0, x_fld, x_int, x_ref, x_long, x_args, x_nar, xKd, xst1, xst2, xlg, Option.bind_some, Option.bind_none, Option.map_some, Option.map_none, List.getElem?_cons_zero, List.getElem?_cons_succ, List.set_cons_zero, List.set_cons_succ, List.length_cons, List.length_nil, List.length_map, List.length_range, List.length_set, decide_eq_true_eq, if_true, if_false, reduceIte, reduceCtorEq, Bool.not_true, Bool.not_false, Bool.false_eq_true, x_ix_nI, ax_get, ax_set, e_aald, s_aast, true_and, and_true, ite_true, ite_false, ↓bI_01, bI_eq0, bI_eq1, bool_or, tern_pure, and_pure, or_pure, bI_def, bne_t, ndf, decide_not, Bool.decide_eq_true, Bool.decide_and, Bool.decide_or, Nat.reduceEqDiff, Nat.reduceAdd, Nat.reduceMul, Nat.reduceSub, Nat.reduceLT, Nat.reduceLeDiff, or_false, false_or, or_true, true_or, and_false, false_and, Bool.or_eq_true, Bool.and_eq_true, Bool.or_false, Bool.or_true, Bool.true_or, Bool.false_or, Bool.and_true, Bool.and_false, Bool.true_and, Bool.false_and, decide_true, decide_false, not_true_eq_false, not_false_eq_true, e1, nI_1]
  · simp only [lu_X8_readNumbers_1, x_out, s_seq, s_ite, s_ret, s_retZ, s_retV, s_iasg, s_aasg, s_lasg, s_inc, s_put, s_putop, s_ast, s_astop, s_exp, s_call, s_skip, s_brk, s_cont, s_oinit, e_lit, e_long, e_il, e_al, e_ll, e_bin, e_un, e_fld, e_ald, e_tern, e_call, e_alen, b_cmp, b_cmp0, b_lcmp, b_and, b_or, b_not, o_add, o_sub, o_mul, o_and, o_or, o_xor, o_shl, o_shr, o_neg, o_i2l, o_l2i, o_i2c, r_eq, r_ne, r_lt, r_ge, r_gt, r_le, r_eq0, r_ne0, r_lt0, r_ge0, r_gt0, r_le0, x_fld, x_int, x_ref, x_long, x_args, x_nar, xKd, xst1, xst2, xlg, Option.bind_some, Option.bind_none, Option.map_some, Option.map_none, List.getElem?_cons_zero, List.getElem?_cons_succ, List.set_cons_zero, List.set_cons_succ, List.length_cons, List.length_nil, List.length_map, List.length_range, List.length_set, decide_eq_true_eq, if_true, if_false, reduceIte, reduceCtorEq, Bool.not_true, Bool.not_false, Bool.false_eq_true, x_ix_nI, ax_get, ax_set, e_aald, s_aast, true_and, and_true, ite_true, ite_false, ↓bI_01, bI_eq0, bI_eq1, bool_or, tern_pure, and_pure, or_pure, bI_def, bne_t, ndf, decide_not, Bool.decide_eq_true, Bool.decide_and, Bool.decide_or, Nat.reduceEqDiff, Nat.reduceAdd, Nat.reduceMul, Nat.reduceSub, Nat.reduceLT, Nat.reduceLeDiff, or_false, false_or, or_true, true_or, and_false, false_and, Bool.or_eq_true, Bool.and_eq_true, Bool.or_false, Bool.or_true, Bool.true_or, Bool.false_or, Bool.and_true, Bool.and_false, Bool.true_and, Bool.false_and, decide_true, decide_false, not_true_eq_false, not_false_eq_true, nI_1]
/-- behind the text's end -/
theorem rn_s0 {nc : Int32} (hx : XTx h l.length nc ff) (hl : l.length ≤ 200) {p : Nat} (hp : l.length ≤ p) (hp2 : p ≤ 300) (s v f u : Option Value) : s_step lc_X8_readNumbers_1 la_X8_readNumbers_1 lu_X8_readNumbers_1 [some (.ref 1), s, v, f, some (.int (nI p)), u] h = some (.inl (none, [some (.ref 1), s, v, f, some (.int (nI p)), u], h)) := by
  have c0 := rn_test hx hl hp2 s v f u
  rw [decide_eq_false (by omega)] at c0
  exact s_step_end c0
theorem rn_bad {x fg nc : Nat} (hx : XTx h l.length (nI nc) ff) (hx2 : x ≤ 126) (hf : fg ≤ 2) (hnc : nc ≤ 3) (s v p : Option Value) : (b_or (b_or (b_cmp0 r_eq0 (e_il 3)) (b_cmp r_ge (e_fld 8 4 (e_al 0)) (e_lit 3))) (b_and (b_cmp r_ne (e_il 5) (e_lit 44)) (b_cmp r_ne (e_il 5) (e_lit 59)))) [some (.ref 1), s, v, some (.int (nI fg)), p, some (.int (nI x))] h = some ((decide (fg = 0) || decide (3 ≤ nc)) || (decide (¬ x = 44) && decide (¬ x = 59)), h) := by
  have hx : h[1]? = some (.inl (8, [.int (nI l.length), .ref 2, .ref 9, .ref 10, .int (nI nc), .int ff])) := hx
  have e1 : (44 : Int32) = nI 44 := rfl
  have e2 : (59 : Int32) = nI 59 := rfl
  exact b_or_p (b_or_p (by simp (disch := omega) only [x_out, s_seq, s_ite, s_ret, s_retZ, s_retV, s_iasg, s_aasg, s_lasg, s_inc, s_put, s_putop, s_ast, s_astop, s_exp, s_call, s_skip, s_brk, s_cont, s_oinit, e_lit, e_long, e_il, e_al, e_ll, e_bin, e_un, e_fld, e_ald, e_tern, e_call, e_alen, b_cmp, b_cmp0, b_lcmp, b_and, b_or, b_not, o_add, o_sub, o_mul, o_and, o_or, o_xor, o_shl, o_shr, o_neg, o_i2l, o_l2i, o_i2c, r_eq, r_ne, r_lt, r_ge, r_gt, r_le, r_eq0, r_ne0, r_lt0, r_ge0, r_gt0, r_le0, x_fld, x_int, x_ref, x_long, x_args, x_nar, xKd, xst1, xst2, xlg, Option.bind_some, Option.bind_none, Option.map_some, Option.map_none, List.getElem?_cons_zero, List.getElem?_cons_succ, List.set_cons_zero, List.set_cons_succ, List.length_cons, List.length_nil, List.length_map, List.length_range, List.length_set, decide_eq_true_eq, if_true, if_false, reduceIte, reduceCtorEq, Bool.not_true, Bool.not_false, Bool.false_eq_true, x_ix_nI, ax_get, ax_set, e_aald, s_aast, true_and, and_true, ite_true, ite_false, ↓bI_01, bI_eq0, bI_eq1, bool_or, tern_pure, and_pure, or_pure, bI_def, bne_t, ndf, decide_not, Bool.decide_eq_true, Bool.decide_and, Bool.decide_or, Nat.reduceEqDiff, Nat.reduceAdd, Nat.reduceMul, Nat.reduceSub, Nat.reduceLT, Nat.reduceLeDiff, or_false, false_or, or_true, true_or, and_false, false_and, Bool.or_eq_true, Bool.and_eq_true, Bool.or_false, Bool.or_true, Bool.true_or, Bool.false_or, Bool.and_true, Bool.and_false, Bool.true_and, Bool.false_and, decide_true, decide_false, not_true_eq_false, not_false_eq_true, nI_small]) (fun _ => by simp (disch := omega) only [x_out, s_seq, s_ite, s_ret, s_retZ, s_retV, s_iasg, s_aasg, s_lasg, s_inc, s_put, s_putop, s_ast, s_astop, s_exp, s_call, s_skip, s_brk, s_cont, s_oinit, e_lit, e_long, e_il, e_al, e_ll, e_bin, e_un, e_fld, e_ald, e_tern, e_call, e_alen, b_cmp, b_cmp0, b_lcmp, b_and, b_or, b_not, o_add, o_sub, o_mul, o_and, o_or, o_xor, o_shl, o_shr, o_neg, o_i2l, o_l2i, o_i2c, r_eq, r_ne, r_lt, r_ge, r_gt, r_le, r_eq0, r_ne0, r_lt0, r_ge0, r_gt0, r_le0, x_fld, x_int, x_ref, x_long, x_args, x_nar, xKd, xst1, xst2, xlg, Option.bind_some, Option.bind_none, Option.map_some, Option.map_none, List.getElem?_cons_zero, List.getElem?_cons_succ, List.set_cons_zero, List.set_cons_succ, List.length_cons, List.length_nil, List.length_map, List.length_range, List.length_set, decide_eq_true_eq, if_true, if_false, reduceIte, reduceCtorEq, Bool.not_true, Bool.not_false, Bool.false_eq_true, x_ix_nI, ax_get, ax_set, e_aald, s_aast, true_and, and_true, ite_true, ite_false, ↓bI_01, bI_eq0, bI_eq1, bool_or, tern_pure, and_pure, or_pure, bI_def, bne_t, ndf, decide_not, Bool.decide_eq_true, Bool.decide_and, Bool.decide_or, Nat.reduceEqDiff, Nat.reduceAdd, Nat.reduceMul, Nat.reduceSub, Nat.reduceLT, Nat.reduceLeDiff, or_false, false_or, or_true, true_or, and_false, false_and, Bool.or_eq_true, Bool.and_eq_true, Bool.or_false, Bool.or_true, Bool.true_or, Bool.false_or, Bool.and_true, Bool.and_false, Bool.true_and, Bool.false_and, decide_true, decide_false, not_true_eq_false, not_false_eq_true, hx, l3, nI_leI])) (fun _ => b_and_p (by simp (disch := omega) only [x_out, s_seq, s_ite, s_ret, s_retZ, s_retV, s_iasg, s_aasg, s_lasg, s_inc, s_put, s_putop, s_ast, s_astop, s_exp, s_call, s_skip, s_brk, s_cont, s_oinit, e_lit, e_long, e_il, e_al, e_ll, e_bin, e_un, e_fld, e_ald, e_tern, e_call, e_alen, b_cmp, b_cmp0, b_lcmp, b_and, b_or, b_not, o_add, o_sub, o_mul, o_and, o_or, o_xor, o_shl, o_shr, o_neg, o_i2l, o_l2i, o_i2c, r_eq, r_ne, r_lt, r_ge, r_gt, r_le, r_eq0, r_ne0, r_lt0, r_ge0, r_gt0, r_le0, x_fld, x_int, x_ref, x_long, x_args, x_nar, xKd, xst1, xst2, xlg, Option.bind_some, Option.bind_none, Option.map_some, Option.map_none, List.getElem?_cons_zero, List.getElem?_cons_succ, List.set_cons_zero, List.set_cons_succ, List.length_cons, List.length_nil, List.length_map, List.length_range, List.length_set, decide_eq_true_eq, if_true, if_false, reduceIte, reduceCtorEq, Bool.not_true, Bool.not_false, Bool.false_eq_true, x_ix_nI, ax_get, ax_set, e_aald, s_aast, true_and, and_true, ite_true, ite_false, ↓bI_01, bI_eq0, bI_eq1, bool_or, tern_pure, and_pure, or_pure, bI_def, bne_t, ndf, decide_not, Bool.decide_eq_true, Bool.decide_and, Bool.decide_or, Nat.reduceEqDiff, Nat.reduceAdd, Nat.reduceMul, Nat.reduceSub, Nat.reduceLT, Nat.reduceLeDiff, or_false, false_or, or_true, true_or, and_false, false_and, Bool.or_eq_true, Bool.and_eq_true, Bool.or_false, Bool.or_true, Bool.true_or, Bool.false_or, Bool.and_true, Bool.and_false, Bool.true_and, Bool.false_and, decide_true, decide_false, not_true_eq_false, not_false_eq_true, e1, nI_eq]) (fun _ => by simp (disch := omega) only [x_out, s_seq, s_ite, s_ret, s_retZ, s_retV, s_iasg, s_aasg, s_lasg, s_inc, s_put, s_putop, s_ast, s_astop, s_exp, s_call, s_skip, s_brk, s_cont, s_oinit, e_lit, e_long, e_il, e_al, e_ll, e_bin, e_un, e_fld, e_ald, e_tern, e_call, e_alen, b_cmp, b_cmp0, b_lcmp, b_and, b_or, b_not, o_add, o_sub, o_mul, o_and, o_or, o_xor, o_shl, o_shr, o_neg, o_i2l, o_l2i, o_i2c, r_eq, r_ne, r_lt, r_ge, r_gt, r_le, r_eq0, r_ne0, r_lt0, r_ge0, r_gt0, r_le0, x_fld, x_int, x_ref, x_long, x_args, x_nar, xKd, xst1, xst2, xlg, Option.bind_some, Option.bind_none, Option.map_some, Option.map_none, List.getElem?_cons_zero, List.getElem?_cons_succ, List.set_cons_zero, List.set_cons_succ, List.length_cons, List.length_nil, List.length_map, List.length_range, List.length_set, decide_eq_true_eq, if_true, if_false, reduceIte, reduceCtorEq, Bool.not_true, Bool.not_false, Bool.false_eq_true, x_ix_nI, ax_get, ax_set, e_aald, s_aast, true_and, and_true, ite_true, ite_false, ↓bI_01, bI_eq0, bI_eq1, bool_or, tern_pure, and_pure, or_pure, bI_def, bne_t, ndf, decide_not, Bool.decide_eq_true, Bool.decide_and, Bool.decide_or, Nat.reduceEqDiff, Nat.reduceAdd, Nat.reduceMul, Nat.reduceSub, Nat.reduceLT, Nat.reduceLeDiff, or_false, false_or, or_true, true_or, and_false, false_and, Bool.or_eq_true, Bool.and_eq_true, Bool.or_false, Bool.or_true, Bool.true_or, Bool.false_or, Bool.and_true, Bool.and_false, Bool.true_and, Bool.false_and, decide_true, decide_false, not_true_eq_false, not_false_eq_true, e2, nI_eq]))
/-- no number, too many, no sign -/
theorem rn_s2 {nc : Nat} (hx : XTx h l.length (nI nc) ff) (hL : XLt h l) (hl : l.length ≤ 200) (ha : ∀ x, x ∈ l → 32 ≤ x ∧ x ≤ 126) (hnc : nc ≤ 3) {p fg v i : Nat} (hp : p < l.length) (hf : fg ≤ 2) (hd : (dg (lt l p) && decide (fg < 2)) = false) (hb : ((decide (fg = 0) || decide (3 ≤ nc)) || (decide (¬ lt l p = 44) && decide (¬ lt l p = 59))) = true) (u : Option Value) : s_step lc_X8_readNumbers_1 la_X8_readNumbers_1 lu_X8_readNumbers_1 [some (.ref 1), some (.int (nI i)), some (.int (nI v)), some (.int (nI fg)), some (.int (nI p)), u] h = some (.inl (some (.inr (some (.int (nI i)))), [some (.ref 1), some (.int (nI i)), some (.int (nI v)), some (.int (nI fg)), some (.int (nI p)), some (.int (nI (lt l p)))], h)) := by
  have hle := lt_le ha p
  have c0 := rn_test hx hl (p := p) (by omega) (some (.int (nI i))) (some (.int (nI v))) (some (.int (nI fg))) u
  rw [decide_eq_true hp] at c0
  have c1 := rn_letter hx hL hl hp (some (.int (nI i))) (some (.int (nI v))) (some (.int (nI fg))) u
  have c2 := rn_dig (h := h) (x := lt l p) (fg := fg) hle hf (some (.ref 1)) (some (.int (nI i))) (some (.int (nI v))) (some (.int (nI p)))
  rw [hd] at c2
  have c3 := rn_bad hx hle hf hnc (some (.int (nI i))) (some (.int (nI v))) (some (.int (nI p)))
  rw [hb] at c3
  refine s_step_ret c0 ?_
  unfold la_X8_readNumbers_1
  rw [s_seq_n c1, s_seq_n ((s_ite_f c2).trans (show s_skip _ h = some (none, _, h) from rfl))]
  exact s_seq_r ((s_ite_t c3).trans (by simp only [x_out, s_seq, s_ite, s_ret, s_retZ, s_retV, s_iasg, s_aasg, s_lasg, s_inc, s_put, s_putop, s_ast, s_astop, s_exp, s_call, s_skip, s_brk, s_cont, s_oinit, e_lit, e_long, e_il, e_al, e_ll, e_bin, e_un, e_fld, e_ald, e_tern, e_call, e_alen, b_cmp, b_cmp0, b_lcmp, b_and, b_or, b_not, o_add, o_sub, o_mul, o_and, o_or, o_xor, o_shl, o_shr, o_neg, o_i2l, o_l2i, o_i2c, r_eq, r_ne, r_lt, r_ge, r_gt, r_le, r_eq0, r_ne0, r_lt0, r_ge0, r_gt0, r_le0, x_fld, x_int, x_ref, x_long, x_args, x_nar, xKd, xst1, xst2, xlg, Option.bind_some, Option.bind_none, Option.map_some, Option.map_none, List.getElem?_cons_zero, List.getElem?_cons_succ, List.set_cons_zero, List.set_cons_succ, List.length_cons, List.length_nil, List.length_map, List.length_range, List.length_set, decide_eq_true_eq, if_true, if_false, reduceIte, reduceCtorEq, Bool.not_true, Bool.not_false, Bool.false_eq_true, x_ix_nI, ax_get, ax_set, e_aald, s_aast, true_and, and_true, ite_true, ite_false, ↓bI_01, bI_eq0, bI_eq1, bool_or, tern_pure, and_pure, or_pure, bI_def, bne_t, ndf, decide_not, Bool.decide_eq_true, Bool.decide_and, Bool.decide_or, Nat.reduceEqDiff, Nat.reduceAdd, Nat.reduceMul, Nat.reduceSub, Nat.reduceLT, Nat.reduceLeDiff, or_false, false_or, or_true, true_or, and_false, false_and, Bool.or_eq_true, Bool.and_eq_true, Bool.or_false, Bool.or_true, Bool.true_or, Bool.false_or, Bool.and_true, Bool.and_false, Bool.true_and, Bool.false_and, decide_true, decide_false, not_true_eq_false, not_false_eq_true]))
/-- the numbers' cells, with one more -/
theorem rn_put {nc : Nat} (hx : XTx h l.length (nI nc) ff) (hg : h[10]? = some (arr 3 g)) (hnc : nc < 3) (v : Nat) (s f p : Option Value) (x : Nat) : ∃ h1 h2, (s_ast 0 (e_fld 8 3 (e_al 0)) (e_fld 8 4 (e_al 0)) (e_il 2)) [some (.ref 1), s, some (.int (nI v)), f, p, some (.int (nI x))] h = some (none, [some (.ref 1), s, some (.int (nI v)), f, p, some (.int (nI x))], h1) ∧ (s_putop 8 4 o_add (e_al 0) (e_lit 1)) [some (.ref 1), s, some (.int (nI v)), f, p, some (.int (nI x))] h1 = some (none, [some (.ref 1), s, some (.int (nI v)), f, p, some (.int (nI x))], h2) ∧ XTx h2 l.length (nI (nc + 1)) ff ∧ h2[10]? = some (arr 3 (upd g nc (nI v))) ∧ xFr (fun b => b = 1 ∨ b = 10) h h2 := by
  have hx : h[1]? = some (.inl (8, [.int (nI l.length), .ref 2, .ref 9, .ref 10, .int (nI nc), .int ff])) := hx
  have r1 := ax_row hg
  have F1 := xFr.set hg (c' := arr 3 (upd g nc (nI v))) (by simp [arr, xSz])
  have k1 := set_at hg (c' := arr 3 (upd g nc (nI v)))
  have s1 : (s_ast 0 (e_fld 8 3 (e_al 0)) (e_fld 8 4 (e_al 0)) (e_il 2)) [some (.ref 1), s, some (.int (nI v)), f, p, some (.int (nI x))] h = some (none, [some (.ref 1), s, some (.int (nI v)), f, p, some (.int (nI x))], h.set 10 (arr 3 (upd g nc (nI v)))) := by
    simp (disch := omega) only [x_out, s_seq, s_ite, s_ret, s_retZ, s_retV, s_iasg, s_aasg, s_lasg, s_inc, s_put, s_putop, s_ast, s_astop, s_exp, s_call, s_skip, s_brk, s_cont, s_oinit, e_lit, e_long, e_il, e_al, e_ll, e_bin, e_un, e_fld, e_ald, e_tern, e_call, e_alen, b_cmp, b_cmp0, b_lcmp, b_and, b_or, b_not, o_add, o_sub, o_mul, o_and, o_or, o_xor, o_shl, o_shr, o_neg, o_i2l, o_l2i, o_i2c, r_eq, r_ne, r_lt, r_ge, r_gt, r_le, r_eq0, r_ne0, r_lt0, r_ge0, r_gt0, r_le0, x_fld, x_int, x_ref, x_long, x_args, x_nar, xKd, xst1, xst2, xlg, Option.bind_some, Option.bind_none, Option.map_some, Option.map_none, List.getElem?_cons_zero, List.getElem?_cons_succ, List.set_cons_zero, List.set_cons_succ, List.length_cons, List.length_nil, List.length_map, List.length_range, List.length_set, decide_eq_true_eq, if_true, if_false, reduceIte, reduceCtorEq, Bool.not_true, Bool.not_false, Bool.false_eq_true, x_ix_nI, ax_get, ax_set, e_aald, s_aast, true_and, and_true, ite_true, ite_false, ↓bI_01, bI_eq0, bI_eq1, bool_or, tern_pure, and_pure, or_pure, bI_def, bne_t, ndf, decide_not, Bool.decide_eq_true, Bool.decide_and, Bool.decide_or, Nat.reduceEqDiff, Nat.reduceAdd, Nat.reduceMul, Nat.reduceSub, Nat.reduceLT, Nat.reduceLeDiff, or_false, false_or, or_true, true_or, and_false, false_and, Bool.or_eq_true, Bool.and_eq_true, Bool.or_false, Bool.or_true, Bool.true_or, Bool.false_or, Bool.and_true, Bool.and_false, Bool.true_and, Bool.false_and, decide_true, decide_false, not_true_eq_false, not_false_eq_true, hx, r1, hnc, ax_def]
  generalize h.set 10 (arr 3 (upd g nc (nI v))) = h1 at F1 k1 s1
  have hx1 := (F1.2.2 1 (by omega)).trans hx
  have F2 := xFr.set hx1 (c' := .inl (8, [.int (nI l.length), .ref 2, .ref 9, .ref 10, .int (nI (nc + 1)), .int ff])) (by rfl)
  have k2 := set_at hx1 (c' := .inl (8, [.int (nI l.length), .ref 2, .ref 9, .ref 10, .int (nI (nc + 1)), .int ff]))
  have s2 : (s_putop 8 4 o_add (e_al 0) (e_lit 1)) [some (.ref 1), s, some (.int (nI v)), f, p, some (.int (nI x))] h1 = some (none, [some (.ref 1), s, some (.int (nI v)), f, p, some (.int (nI x))], h1.set 1 (.inl (8, [.int (nI l.length), .ref 2, .ref 9, .ref 10, .int (nI (nc + 1)), .int ff]))) := by
    simp (disch := omega) only [x_out, s_seq, s_ite, s_ret, s_retZ, s_retV, s_iasg, s_aasg, s_lasg, s_inc, s_put, s_putop, s_ast, s_astop, s_exp, s_call, s_skip, s_brk, s_cont, s_oinit, e_lit, e_long, e_il, e_al, e_ll, e_bin, e_un, e_fld, e_ald, e_tern, e_call, e_alen, b_cmp, b_cmp0, b_lcmp, b_and, b_or, b_not, o_add, o_sub, o_mul, o_and, o_or, o_xor, o_shl, o_shr, o_neg, o_i2l, o_l2i, o_i2c, r_eq, r_ne, r_lt, r_ge, r_gt, r_le, r_eq0, r_ne0, r_lt0, r_ge0, r_gt0, r_le0, x_fld, x_int, x_ref, x_long, x_args, x_nar, xKd, xst1, xst2, xlg, Option.bind_some, Option.bind_none, Option.map_some, Option.map_none, List.getElem?_cons_zero, List.getElem?_cons_succ, List.set_cons_zero, List.set_cons_succ, List.length_cons, List.length_nil, List.length_map, List.length_range, List.length_set, decide_eq_true_eq, if_true, if_false, reduceIte, reduceCtorEq, Bool.not_true, Bool.not_false, Bool.false_eq_true, x_ix_nI, ax_get, ax_set, e_aald, s_aast, true_and, and_true, ite_true, ite_false, ↓bI_01, bI_eq0, bI_eq1, bool_or, tern_pure, and_pure, or_pure, bI_def, bne_t, ndf, decide_not, Bool.decide_eq_true, Bool.decide_and, Bool.decide_or, Nat.reduceEqDiff, Nat.reduceAdd, Nat.reduceMul, Nat.reduceSub, Nat.reduceLT, Nat.reduceLeDiff, or_false, false_or, or_true, true_or, and_false, false_and, Bool.or_eq_true, Bool.and_eq_true, Bool.or_false, Bool.or_true, Bool.true_or, Bool.false_or, Bool.and_true, Bool.and_false, Bool.true_and, Bool.false_and, decide_true, decide_false, not_true_eq_false, not_false_eq_true, hx1, nI_1]
  exact ⟨_, _, s1, s2, k2, (F2.2.2 10 (by omega)).trans k1, (F1.trans F2).mono fun b hb => hb.elim Or.inr Or.inl⟩
theorem rn_s3 {nc : Nat} (hx : XTx h l.length (nI nc) ff) (hg : h[10]? = some (arr 3 g)) (hL : XLt h l) (hl : l.length ≤ 200) (hnc : nc < 3) {p fg v i : Nat} (hf0 : 0 < fg) (hf : fg ≤ 2) (hs : lt l p = 59 ∨ lt l p = 44) (u : Option Value) : ∃ h', XTx h' l.length (nI (nc + 1)) ff ∧ h'[10]? = some (arr 3 (upd g nc (nI v))) ∧ xFr (fun b => b = 1 ∨ b = 10) h h' ∧ (lt l p = 59 → s_step lc_X8_readNumbers_1 la_X8_readNumbers_1 lu_X8_readNumbers_1 [some (.ref 1), some (.int (nI i)), some (.int (nI v)), some (.int (nI fg)), some (.int (nI p)), u] h = some (.inl (some (.inr (some (.int (nI (p + 1))))), [some (.ref 1), some (.int (nI i)), some (.int (nI v)), some (.int (nI fg)), some (.int (nI p)), some (.int (nI (lt l p)))], h'))) ∧ (lt l p = 44 → s_step lc_X8_readNumbers_1 la_X8_readNumbers_1 lu_X8_readNumbers_1 [some (.ref 1), some (.int (nI i)), some (.int (nI v)), some (.int (nI fg)), some (.int (nI p)), u] h = some (.inr ([some (.ref 1), some (.int (nI i)), some (.int (nI 0)), some (.int (nI 0)), some (.int (nI (p + 1))), some (.int (nI (lt l p)))], h'))) := by
  have hp : p < l.length := lt_in (by omega)
  obtain ⟨h1, h2, s1, s2, k1, k2, Fr⟩ := rn_put hx hg hnc v (some (.int (nI i))) (some (.int (nI fg))) (some (.int (nI p))) (lt l p)
  have c0 := rn_test hx hl (p := p) (by omega) (some (.int (nI i))) (some (.int (nI v))) (some (.int (nI fg))) u
  rw [decide_eq_true hp] at c0
  have c1 := rn_letter hx hL hl hp (some (.int (nI i))) (some (.int (nI v))) (some (.int (nI fg))) u
  have c2 := rn_dig (h := h) (x := lt l p) (fg := fg) (by omega) hf (some (.ref 1)) (some (.int (nI i))) (some (.int (nI v))) (some (.int (nI p)))
  have nd : dg (lt l p) = false := by
    rcases hs with e | e <;> rw [e] <;> rfl
  rw [nd, Bool.false_and] at c2
  have c3 := rn_bad hx (x := lt l p) (by omega) hf (by omega) (some (.int (nI i))) (some (.int (nI v))) (some (.int (nI p)))
  have nb : ((decide (fg = 0) || decide (3 ≤ nc)) || (decide (¬ lt l p = 44) && decide (¬ lt l p = 59))) = false := by
    rw [decide_eq_false (show ¬ fg = 0 by omega), decide_eq_false (show ¬ 3 ≤ nc by omega)]
    rcases hs with e | e <;> rw [e] <;> rfl
  rw [nb] at c3
  refine ⟨h2, k1, k2, Fr, fun e => ?_, fun e => ?_⟩
  · have e59 : ((nI (lt l p) : Int32) = 59) = True := by rw [e]; exact eq_true rfl
    refine s_step_ret c0 ?_
    unfold la_X8_readNumbers_1
    rw [s_seq_n c1, s_seq_n ((s_ite_f c2).trans (show s_skip _ h = some (none, _, h) from rfl)), s_seq_n ((s_ite_f c3).trans (show s_skip _ h = some (none, _, h) from rfl)), s_seq_n s1, s_seq_n s2]
    refine s_seq_r ((s_ite_t (h' := h2) ?_).trans ?_)
    · simp only [x_out, s_seq, s_ite, s_ret, s_retZ, s_retV, s_iasg, s_aasg, s_lasg, s_inc, s_put, s_putop, s_ast, s_astop, s_exp, s_call, s_skip, s_brk, s_cont, s_oinit, e_lit, e_long, e_il, e_al, e_ll, e_bin, e_un, e_fld, e_ald, e_tern, e_call, e_alen, b_cmp, b_cmp0, b_lcmp, b_and, b_or, b_not, o_add, o_sub, o_mul, o_and, o_or, o_xor, o_shl, o_shr, o_neg, o_i2l, o_l2i, o_i2c, r_eq, r_ne, r_lt, r_ge, r_gt, r_le, r_eq0, r_ne0, r_lt0, r_ge0, r_gt0, r_le0, x_fld, x_int, x_ref, x_long, x_args, x_nar, xKd, xst1, xst2, xlg, Option.bind_some, Option.bind_none, Option.map_some, Option.map_none, List.getElem?_cons_zero, List.getElem?_cons_succ, List.set_cons_zero, List.set_cons_succ, List.length_cons, List.length_nil, List.length_map, List.length_range, List.length_set, decide_eq_true_eq, if_true, if_false, reduceIte, reduceCtorEq, Bool.not_true, Bool.not_false, Bool.false_eq_true, x_ix_nI, ax_get, ax_set, e_aald, s_aast, true_and, and_true, ite_true, ite_false, ↓bI_01, bI_eq0, bI_eq1, bool_or, tern_pure, and_pure, or_pure, bI_def, bne_t, ndf, decide_not, Bool.decide_eq_true, Bool.decide_and, Bool.decide_or, Nat.reduceEqDiff, Nat.reduceAdd, Nat.reduceMul, Nat.reduceSub, Nat.reduceLT, Nat.reduceLeDiff, or_false, false_or, or_true, true_or, and_false, false_and, Bool.or_eq_true, Bool.and_eq_true, Bool.or_false, Bool.or_true, Bool.true_or, Bool.false_or, Bool.and_true, Bool.and_false, Bool.true_and, Bool.false_and, decide_true, decide_false, not_true_eq_false, not_false_eq_true, e59]
    · simp only [x_out, s_seq, s_ite, s_ret, s_retZ, s_retV, s_iasg, s_aasg, s_lasg, s_inc, s_put, s_putop, s_ast, s_astop, s_exp, s_call, s_skip, s_brk, s_cont, s_oinit, e_lit, e_long, e_il, e_al, e_ll, e_bin, e_un, e_fld, e_ald, e_tern, e_call, e_alen, b_cmp, b_cmp0, b_lcmp, b_and, b_or, b_not, o_add, o_sub, o_mul, o_and, o_or, o_xor, o_shl, o_shr, o_neg, o_i2l, o_l2i, o_i2c, r_eq, r_ne, r_lt, r_ge, r_gt, r_le, r_eq0, r_ne0, r_lt0, r_ge0, r_gt0, r_le0, x_fld, x_int, x_ref, x_long, x_args, x_nar, xKd, xst1, xst2, xlg, Option.bind_some, Option.bind_none, Option.map_some, Option.map_none, List.getElem?_cons_zero, List.getElem?_cons_succ, List.set_cons_zero, List.set_cons_succ, List.length_cons, List.length_nil, List.length_map, List.length_range, List.length_set, decide_eq_true_eq, if_true, if_false, reduceIte, reduceCtorEq, Bool.not_true, Bool.not_false, Bool.false_eq_true, x_ix_nI, ax_get, ax_set, e_aald, s_aast, true_and, and_true, ite_true, ite_false, ↓bI_01, bI_eq0, bI_eq1, bool_or, tern_pure, and_pure, or_pure, bI_def, bne_t, ndf, decide_not, Bool.decide_eq_true, Bool.decide_and, Bool.decide_or, Nat.reduceEqDiff, Nat.reduceAdd, Nat.reduceMul, Nat.reduceSub, Nat.reduceLT, Nat.reduceLeDiff, or_false, false_or, or_true, true_or, and_false, false_and, Bool.or_eq_true, Bool.and_eq_true, Bool.or_false, Bool.or_true, Bool.true_or, Bool.false_or, Bool.and_true, Bool.and_false, Bool.true_and, Bool.false_and, decide_true, decide_false, not_true_eq_false, not_false_eq_true, nI_1]
  · have e59 : ((nI (lt l p) : Int32) = 59) = False := by rw [e]; decide
    refine s_step_on c0 (env1 := [some (.ref 1), some (.int (nI i)), some (.int (nI 0)), some (.int (nI 0)), some (.int (nI p)), some (.int (nI (lt l p)))]) (h1 := h2) ?_ ?_
    · unfold la_X8_readNumbers_1
      rw [s_seq_n c1, s_seq_n ((s_ite_f c2).trans (show s_skip _ h = some (none, _, h) from rfl)), s_seq_n ((s_ite_f c3).trans (show s_skip _ h = some (none, _, h) from rfl)), s_seq_n s1, s_seq_n s2]
      rw [s_seq_n ((s_ite_f (h' := h2) (by simp only [x_out, s_seq, s_ite, s_ret, s_retZ, s_retV, s_iasg, s_aasg, s_lasg, s_inc, s_put, s_putop, s_ast, s_astop, s_exp, s_call, s_skip, s_brk, s_cont, s_oinit, e_lit, e_long, e_il, e_al, e_ll, e_bin, e_un, e_fld, e_ald, e_tern, e_call, e_alen, b_cmp, b_cmp0, b_lcmp, b_and, b_or, b_not, o_add, o_sub, o_mul, o_and, o_or, o_xor, o_shl, o_shr, o_neg, o_i2l, o_l2i, o_i2c, r_eq, r_ne, r_lt, r_ge, r_gt, r_le, r_eq0, r_ne0, r_lt0, r_ge0, r_gt0, r_le0, x_fld, x_int, x_ref, x_long, x_args, x_nar, xKd, xst1, xst2, xlg, Option.bind_some, Option.bind_none, Option.map_some, Option.map_none, List.getElem?_cons_zero, List.getElem?_cons_succ, List.set_cons_zero, List.set_cons_succ, List.length_cons, List.length_nil, List.length_map, List.length_range, List.length_set, decide_eq_true_eq, if_true, if_false, reduceIte, reduceCtorEq, Bool.not_true, Bool.not_false, Bool.false_eq_true, x_ix_nI, ax_get, ax_set, e_aald, s_aast, true_and, and_true, ite_true, ite_false, ↓bI_01, bI_eq0, bI_eq1, bool_or, tern_pure, and_pure, or_pure, bI_def, bne_t, ndf, decide_not, Bool.decide_eq_true, Bool.decide_and, Bool.decide_or, Nat.reduceEqDiff, Nat.reduceAdd, Nat.reduceMul, Nat.reduceSub, Nat.reduceLT, Nat.reduceLeDiff, or_false, false_or, or_true, true_or, and_false, false_and, Bool.or_eq_true, Bool.and_eq_true, Bool.or_false, Bool.or_true, Bool.true_or, Bool.false_or, Bool.and_true, Bool.and_false, Bool.true_and, Bool.false_and, decide_true, decide_false, not_true_eq_false, not_false_eq_true, e59])).trans (show s_skip _ h2 = some (none, _, h2) from rfl))]
      simp only [x_out, s_seq, s_ite, s_ret, s_retZ, s_retV, s_iasg, s_aasg, s_lasg, s_inc, s_put, s_putop, s_ast, s_astop, s_exp, s_call, s_skip, s_brk, s_cont, s_oinit, e_lit, e_long, e_il, e_al, e_ll, e_bin, e_un, e_fld, e_ald, e_tern, e_call, e_alen, b_cmp, b_cmp0, b_lcmp, b_and, b_or, b_not, o_add, o_sub, o_mul, o_and, o_or, o_xor, o_shl, o_shr, o_neg, o_i2l, o_l2i, o_i2c, r_eq, r_ne, r_lt, r_ge, r_gt, r_le, r_eq0, r_ne0, r_lt0, r_ge0, r_gt0, r_le0, x_fld, x_int, x_ref, x_long, x_args, x_nar, xKd, xst1, xst2, xlg, Option.bind_some, Option.bind_none, Option.map_some, Option.map_none, List.getElem?_cons_zero, List.getElem?_cons_succ, List.set_cons_zero, List.set_cons_succ, List.length_cons, List.length_nil, List.length_map, List.length_range, List.length_set, decide_eq_true_eq, if_true, if_false, reduceIte, reduceCtorEq, Bool.not_true, Bool.not_false, Bool.false_eq_true, x_ix_nI, ax_get, ax_set, e_aald, s_aast, true_and, and_true, ite_true, ite_false, ↓bI_01, bI_eq0, bI_eq1, bool_or, tern_pure, and_pure, or_pure, bI_def, bne_t, ndf, decide_not, Bool.decide_eq_true, Bool.decide_and, Bool.decide_or, Nat.reduceEqDiff, Nat.reduceAdd, Nat.reduceMul, Nat.reduceSub, Nat.reduceLT, Nat.reduceLeDiff, or_false, false_or, or_true, true_or, and_false, false_and, Bool.or_eq_true, Bool.and_eq_true, Bool.or_false, Bool.or_true, Bool.true_or, Bool.false_or, Bool.and_true, Bool.and_false, Bool.true_and, Bool.false_and, decide_true, decide_false, not_true_eq_false, not_false_eq_true, nI_0]
    · simp only [lu_X8_readNumbers_1, x_out, s_seq, s_ite, s_ret, s_retZ, s_retV, s_iasg, s_aasg, s_lasg, s_inc, s_put, s_putop, s_ast, s_astop, s_exp, s_call, s_skip, s_brk, s_cont, s_oinit, e_lit, e_long, e_il, e_al, e_ll, e_bin, e_un, e_fld, e_ald, e_tern, e_call, e_alen, b_cmp, b_cmp0, b_lcmp, b_and, b_or, b_not, o_add, o_sub, o_mul, o_and, o_or, o_xor, o_shl, o_shr, o_neg, o_i2l, o_l2i, o_i2c, r_eq, r_ne, r_lt, r_ge, r_gt, r_le, r_eq0, r_ne0, r_lt0, r_ge0, r_gt0, r_le0, x_fld, x_int, x_ref, x_long, x_args, x_nar, xKd, xst1, xst2, xlg, Option.bind_some, Option.bind_none, Option.map_some, Option.map_none, List.getElem?_cons_zero, List.getElem?_cons_succ, List.set_cons_zero, List.set_cons_succ, List.length_cons, List.length_nil, List.length_map, List.length_range, List.length_set, decide_eq_true_eq, if_true, if_false, reduceIte, reduceCtorEq, Bool.not_true, Bool.not_false, Bool.false_eq_true, x_ix_nI, ax_get, ax_set, e_aald, s_aast, true_and, and_true, ite_true, ite_false, ↓bI_01, bI_eq0, bI_eq1, bool_or, tern_pure, and_pure, or_pure, bI_def, bne_t, ndf, decide_not, Bool.decide_eq_true, Bool.decide_and, Bool.decide_or, Nat.reduceEqDiff, Nat.reduceAdd, Nat.reduceMul, Nat.reduceSub, Nat.reduceLT, Nat.reduceLeDiff, or_false, false_or, or_true, true_or, and_false, false_and, Bool.or_eq_true, Bool.and_eq_true, Bool.or_false, Bool.or_true, Bool.true_or, Bool.false_or, Bool.and_true, Bool.and_false, Bool.true_and, Bool.false_and, decide_true, decide_false, not_true_eq_false, not_false_eq_true, nI_1]
/-- no number is well told: the start -/
def rnF (i : Nat) (o : XO) (env : XE) : Prop := o = some (.inr (some (.int (nI i)))) ∨ (o = none ∧ env[1]? = some (some (.int (nI i))) ∧ env.length = 6)
theorem rn_num {nc : Nat} (hx : XTx h l.length (nI nc) ff) (hL : XLt h l) (hl : l.length ≤ 200) (ha : ∀ x, x ∈ l → 32 ≤ x ∧ x ≤ 126) {p i : Nat} {N : Nat} (u : Option Value) (r : XO × XE × XH) (hr : ∀ u', lpR N lc_X8_readNumbers_1 la_X8_readNumbers_1 lu_X8_readNumbers_1 [some (.ref 1), some (.int (nI i)), some (.int (nI (nV l p))), some (.int (nI (nD l p))), some (.int (nI (p + nD l p))), u'] h r) : nD l p ≠ 0 → lpR (N + 2) lc_X8_readNumbers_1 la_X8_readNumbers_1 lu_X8_readNumbers_1 [some (.ref 1), some (.int (nI i)), some (.int (nI 0)), some (.int (nI 0)), some (.int (nI p)), u] h r := by
  intro h0
  have d1 : dg (lt l p) = true := by
    unfold nD at h0
    split at h0
    · assumption
    · exact absurd rfl h0
  have s1 := rn_s1 hx hL hl ha (i := i) (v := 0) d1 (show 0 < 2 by omega) u
  by_cases d2 : dg (lt l (p + 1)) = true
  · have s2 := rn_s1 hx hL hl ha (i := i) (v := 10 * 0 + (lt l p - 48)) d2 (show 0 + 1 < 2 by omega) (some (.int (nI (lt l p))))
    have e1 : nD l p = 2 := by simp only [nD, d1, d2, if_true]
    have e2 : nV l p = 10 * (lt l p - 48) + (lt l (p + 1) - 48) := by simp only [nV, d1, d2, if_true]
    have := hr (some (.int (nI (lt l (p + 1)))))
    rw [e1, e2] at this
    refine lpR_step s1 (lpR_step s2 ?_)
    rw [show 10 * (10 * 0 + (lt l p - 48)) + (lt l (p + 1) - 48) = 10 * (lt l p - 48) + (lt l (p + 1) - 48) by omega]
    exact this
  · have e1 : nD l p = 1 := by unfold nD; rw [if_pos d1, if_neg d2]
    have e2 : nV l p = lt l p - 48 := by unfold nV; rw [if_pos d1, if_neg d2]
    have := hr (some (.int (nI (lt l p))))
    rw [e1, e2] at this
    refine lpR_step s1 (lpR_mono ?_ (show N ≤ N + 1 by omega))
    rw [show 10 * 0 + (lt l p - 48) = lt l p - 48 by omega]
    exact this
theorem nD_stop (l : List Nat) (p : Nat) (h0 : nD l p ≠ 0) : (dg (lt l (p + nD l p)) && decide (nD l p < 2)) = false := by
  unfold nD at h0 ⊢
  split at h0
  · rename_i d1
    rw [if_pos d1]
    split
    · simp
    · rename_i d2
      simp [d2]
  · exact absurd rfl h0
theorem rn_seg (hl : l.length ≤ 200) (ha : ∀ x, x ∈ l → 32 ≤ x ∧ x ≤ 126) {i : Nat} : ∀ (k c p : Nat) (h : XH) (g : Nat → Int32) (u : Option Value), c + k = 3 → p ≤ 201 → XTx h l.length (nI c) ff → h[10]? = some (arr 3 g) → XLt h l → ∃ o env' h', lpR (3 * k + 3) lc_X8_readNumbers_1 la_X8_readNumbers_1 lu_X8_readNumbers_1 [some (.ref 1), some (.int (nI i)), some (.int (nI 0)), some (.int (nI 0)), some (.int (nI p)), u] h (o, env', h') ∧ xFr (fun b => b = 1 ∨ b = 10) h h' ∧ (∃ c' g', XTx h' l.length (nI c') ff ∧ h'[10]? = some (arr 3 g') ∧ match rnN l k p with
    | some (vs, j) => o = some (.inr (some (.int (nI j)))) ∧ c' = c + vs.length ∧ (∀ t, t < c → g' t = g t) ∧ ∀ t, t < vs.length → g' (c + t) = nI (vs.getD t 0)
    | none => rnF i o env') := by
  intro k
  induction k with
  | zero =>
    intro c p h g u hc hp hx hg hL
    have hc3 : c = 3 := by omega
    subst hc3
    show ∃ o env' h', lpR 3 _ _ _ _ h (o, env', h') ∧ _ ∧ (∃ c' g', _ ∧ _ ∧ rnF i o env')
    by_cases h0 : nD l p = 0
    · by_cases q : p < l.length
      · have nd : (dg (lt l p) && decide (0 < 2)) = false := by
          unfold nD at h0
          split at h0
          · split at h0 <;> omega
          · rename_i d; simp [d]
        exact ⟨_, _, h, lpR_mono (lpR_out (rn_s2 hx hL hl ha (by omega) q (by omega) nd (by simp) u)) (by omega), xFr.rf _ _, 3, g, hx, hg, Or.inl rfl⟩
      · exact ⟨_, _, h, lpR_mono (lpR_out (rn_s0 hx hl (by omega) (by omega) _ _ _ _)) (by omega), xFr.rf _ _, 3, g, hx, hg, Or.inr ⟨rfl, rfl, rfl⟩⟩
    · have hn := nD_le l p
      by_cases q : p + nD l p < l.length
      · exact ⟨some (.inr (some (.int (nI i)))), [some (.ref 1), some (.int (nI i)), some (.int (nI (nV l p))), some (.int (nI (nD l p))), some (.int (nI (p + nD l p))), some (.int (nI (lt l (p + nD l p))))], h, lpR_mono (rn_num hx hL hl ha u _ (fun u' => lpR_out (rn_s2 hx hL hl ha (by omega) q hn (nD_stop l p h0) (by simp) u')) h0) (by omega), xFr.rf _ _, 3, g, hx, hg, Or.inl rfl⟩
      · by_cases d2 : nD l p = 2
        · have d1 : dg (lt l p) = true ∧ dg (lt l (p + 1)) = true := by
            unfold nD at d2
            split at d2
            · split at d2
              · exact ⟨by assumption, by assumption⟩
              · omega
            · omega
          have s1 := rn_s1 hx hL hl ha (i := i) (v := 0) d1.1 (show 0 < 2 by omega) u
          have s2 := rn_s1 hx hL hl ha (i := i) (v := 10 * 0 + (lt l p - 48)) d1.2 (show 0 + 1 < 2 by omega) (some (.int (nI (lt l p))))
          exact ⟨_, _, h, lpR_mono (lpR_step s1 (lpR_step s2 (lpR_out (rn_s0 hx hl (by omega) (by omega) _ _ _ _)))) (by omega), xFr.rf _ _, 3, g, hx, hg, Or.inr ⟨rfl, rfl, rfl⟩⟩
        · have d1 : dg (lt l p) = true := by
            unfold nD at h0
            split at h0
            · assumption
            · exact absurd rfl h0
          have s1 := rn_s1 hx hL hl ha (i := i) (v := 0) d1 (show 0 < 2 by omega) u
          exact ⟨_, _, h, lpR_mono (lpR_step s1 (lpR_out (rn_s0 hx hl (by omega) (by omega) _ _ _ _))) (by omega), xFr.rf _ _, 3, g, hx, hg, Or.inr ⟨rfl, rfl, rfl⟩⟩
  | succ k ih =>
    intro c p h g u hc hp hx hg hL
    simp only [rnN]
    by_cases h0 : nD l p = 0
    · have t1 : tk l p 59 = none := by unfold tk; rw [if_pos h0]
      have t2 : tk l p 44 = none := by unfold tk; rw [if_pos h0]
      rw [t1, t2]
      show ∃ o env' h', lpR _ _ _ _ _ h (o, env', h') ∧ _ ∧ (∃ c' g', _ ∧ _ ∧ rnF i o env')
      by_cases q : p < l.length
      · have nd : (dg (lt l p) && decide (0 < 2)) = false := by
          unfold nD at h0
          split at h0
          · split at h0 <;> omega
          · rename_i d; simp [d]
        exact ⟨_, _, h, lpR_mono (lpR_out (rn_s2 hx hL hl ha (by omega) q (by omega) nd (by simp) u)) (by omega), xFr.rf _ _, c, g, hx, hg, Or.inl rfl⟩
      · exact ⟨_, _, h, lpR_mono (lpR_out (rn_s0 hx hl (by omega) (by omega) _ _ _ _)) (by omega), xFr.rf _ _, c, g, hx, hg, Or.inr ⟨rfl, rfl, rfl⟩⟩
    · have hn := nD_le l p
      by_cases e59 : lt l (p + nD l p) = 59
      · have t1 : tk l p 59 = some (nV l p, p + nD l p + 1) := by unfold tk; rw [if_neg h0, if_pos e59]
        rw [t1]
        obtain ⟨h', k1, k2, Fr, y1, -⟩ := rn_s3 (i := i) hx hg hL hl (by omega) (show 0 < nD l p by omega) hn (Or.inl e59) (v := nV l p) none
        refine ⟨_, _, h', lpR_mono (rn_num (N := 0) hx hL hl ha u (some (.inr (some (.int (nI (p + nD l p + 1))))), [some (.ref 1), some (.int (nI i)), some (.int (nI (nV l p))), some (.int (nI (nD l p))), some (.int (nI (p + nD l p))), some (.int (nI (lt l (p + nD l p))))], h') (fun u' => ?_) h0) (by omega), Fr, c + 1, _, k1, k2, rfl, rfl, fun t ht => ?_, fun t ht => ?_⟩
        · obtain ⟨h'', k1', k2', Fr', y1', -⟩ := rn_s3 (i := i) hx hg hL hl (by omega) (show 0 < nD l p by omega) hn (Or.inl e59) (v := nV l p) u'
          have := lpR_out (y1' e59)
          have heq : h'' = h' := by
            apply List.ext_getElem?
            intro b
            by_cases b1 : b = 1
            · subst b1; exact (show h''[1]? = _ from k1').trans (show h'[1]? = _ from k1).symm
            · by_cases b2 : b = 10
              · subst b2; exact k2'.trans k2.symm
              · rw [Fr'.2.2 b (by omega), Fr.2.2 b (by omega)]
          rw [heq] at this
          exact this
        · unfold upd; rw [if_neg (by omega)]
        · have ht : t = 0 := by simp at ht; omega
          subst ht
          unfold upd
          simp
      · have t1 : tk l p 59 = none := by unfold tk; rw [if_neg h0, if_neg e59]
        rw [t1]
        by_cases e44 : lt l (p + nD l p) = 44
        · have t2 : tk l p 44 = some (nV l p, p + nD l p + 1) := by unfold tk; rw [if_neg h0, if_pos e44]
          rw [t2]
          have hpl := lt_in (l := l) (i := p + nD l p) (by omega)
          obtain ⟨h1, k1, k2, Fr, -, y1⟩ := rn_s3 (i := i) hx hg hL hl (by omega) (show 0 < nD l p by omega) hn (Or.inr e44) (v := nV l p) none
          have hL1 : XLt h1 l := by
            obtain ⟨f, f1, f2⟩ := hL
            exact ⟨f, (Fr.2.2 9 (by omega)).trans f1, f2⟩
          obtain ⟨o, env', h', z1, z2, c', g', z3, z4, z5⟩ := ih (c + 1) (p + nD l p + 1) h1 _ (some (.int (nI (lt l (p + nD l p))))) (by omega) (by omega) k1 k2 hL1
          refine ⟨o, env', h', lpR_mono (rn_num hx hL hl ha u (N := 3 * k + 3 + 1) (o, env', h') (fun u' => ?_) h0) (by omega), (Fr.trans z2).mono fun b hb => hb.elim id id, c', g', z3, z4, ?_⟩
          · obtain ⟨h'', k1', k2', Fr', -, y1'⟩ := rn_s3 (i := i) hx hg hL hl (by omega) (show 0 < nD l p by omega) hn (Or.inr e44) (v := nV l p) u'
            have heq : h'' = h1 := by
              apply List.ext_getElem?
              intro b
              by_cases b1 : b = 1
              · subst b1; exact (show h''[1]? = _ from k1').trans (show h1[1]? = _ from k1).symm
              · by_cases b2 : b = 10
                · subst b2; exact k2'.trans k2.symm
                · rw [Fr'.2.2 b (by omega), Fr.2.2 b (by omega)]
            have y2 := y1' e44
            rw [heq] at y2
            exact lpR_step y2 z1
          · show (match (rnN l k (p + nD l p + 1)).map (fun r => (nV l p :: r.1, r.2)) with
              | some (vs, j) => o = some (.inr (some (.int (nI j)))) ∧ c' = c + vs.length ∧ (∀ t, t < c → g' t = g t) ∧ ∀ t, t < vs.length → g' (c + t) = nI (vs.getD t 0)
              | none => rnF i o env')
            cases hr : rnN l k (p + nD l p + 1) with
            | none =>
              rw [hr] at z5
              exact z5
            | some r =>
              obtain ⟨vs, j⟩ := r
              rw [hr] at z5
              obtain ⟨w1, w2, w3, w4⟩ := z5
              refine ⟨w1, by simp; omega, fun t ht => ?_, fun t ht => ?_⟩
              · rw [w3 t (by omega)]
                unfold upd
                rw [if_neg (by omega)]
              · cases t with
                | zero =>
                  have := w3 c (by omega)
                  rw [Nat.add_zero, this]
                  unfold upd
                  simp
                | succ t =>
                  have := w4 t (by simpa using ht)
                  rw [show c + (t + 1) = c + 1 + t by omega, this]
                  simp
        · have t2 : tk l p 44 = none := by unfold tk; rw [if_neg h0, if_neg e44]
          rw [t2]
          show ∃ o env' h', lpR _ _ _ _ _ h (o, env', h') ∧ _ ∧ (∃ c' g', _ ∧ _ ∧ rnF i o env')
          by_cases q : p + nD l p < l.length
          · exact ⟨some (.inr (some (.int (nI i)))), [some (.ref 1), some (.int (nI i)), some (.int (nI (nV l p))), some (.int (nI (nD l p))), some (.int (nI (p + nD l p))), some (.int (nI (lt l (p + nD l p))))], h, lpR_mono (rn_num hx hL hl ha u _ (fun u' => lpR_out (rn_s2 hx hL hl ha (by omega) q hn (nD_stop l p h0) (by simp [e59, e44]) u')) h0) (by omega), xFr.rf _ _, c, g, hx, hg, Or.inl rfl⟩
          · by_cases d2 : nD l p = 2
            · have d1 : dg (lt l p) = true ∧ dg (lt l (p + 1)) = true := by
                unfold nD at d2
                split at d2
                · split at d2
                  · exact ⟨by assumption, by assumption⟩
                  · omega
                · omega
              have s1 := rn_s1 hx hL hl ha (i := i) (v := 0) d1.1 (show 0 < 2 by omega) u
              have s2 := rn_s1 hx hL hl ha (i := i) (v := 10 * 0 + (lt l p - 48)) d1.2 (show 0 + 1 < 2 by omega) (some (.int (nI (lt l p))))
              exact ⟨_, _, h, lpR_mono (lpR_step s1 (lpR_step s2 (lpR_out (rn_s0 hx hl (by omega) (by omega) _ _ _ _)))) (by omega), xFr.rf _ _, c, g, hx, hg, Or.inr ⟨rfl, rfl, rfl⟩⟩
            · have d1 : dg (lt l p) = true := by
                unfold nD at h0
                split at h0
                · assumption
                · exact absurd rfl h0
              have s1 := rn_s1 hx hL hl ha (i := i) (v := 0) d1 (show 0 < 2 by omega) u
              exact ⟨_, _, h, lpR_mono (lpR_step s1 (lpR_out (rn_s0 hx hl (by omega) (by omega) _ _ _ _))) (by omega), xFr.rf _ _, c, g, hx, hg, Or.inr ⟨rfl, rfl, rfl⟩⟩
end RN
