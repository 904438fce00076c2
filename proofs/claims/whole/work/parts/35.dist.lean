/-! tables of distances -/
theorem s_loop_J {c : XB} {a u : XS} (J : Nat → XE → XH → Prop) (N n : Nat) {env : XE} {h : XH} (hN : N < n) (h0 : J 0 env h) (hs : ∀ i env k, i < N → J i env k → ∃ env' k', s_step c a u env k = some (.inr (env', k')) ∧ J (i + 1) env' k') (he : ∀ env k, J N env k → s_step c a u env k = some (.inl (none, env, k))) : ∃ env' h', s_loop n c a u env h = some (none, env', h') ∧ J N env' h' := by
  obtain ⟨r, h1, e1, e2⟩ := s_loop_inv J (fun r => r.1 = none ∧ J N r.2.1 r.2.2) N n env h hN h0 hs (fun env k hJ => ⟨_, he env k hJ, rfl, hJ⟩)
  obtain ⟨o, env', h'⟩ := r
  dsimp only at e1 e2
  subst e1
  exact ⟨env', h', h1, e2⟩
def itr {α : Type} (f : Nat → α → α) : Nat → α → α
  | 0, x => x
  | n + 1, x => f n (itr f n x)
abbrev XMx : Type := Nat → Nat → Nat
def updM (M : XMx) (a b v : Nat) : XMx := fun x y => if x = a ∧ y = b then v else M x y
def stM (o a b : Nat) (M : XMx) : XMx := updM M a b (min (M a b) (M a o + M o b))
def rowM (F o a : Nat) (M : XMx) : XMx := itr (fun b M => stM o a b M) F M
def shM (F o : Nat) (M : XMx) : XMx := itr (fun a M => rowM F o a M) F M
def clM (F : Nat) (M : XMx) : XMx := itr (fun o M => shM F o M) F M
def MB (M : XMx) : Prop := ∀ a b, M a b ≤ 20
theorem itr_keep {α : Type} {f : Nat → α → α} {p : α → Prop} (hf : ∀ i x, p x → p (f i x)) : ∀ (n : Nat) (x : α), p x → p (itr f n x) := by
  intro n
  induction n with
  | zero => intro x hx; exact hx
  | succ n ih => intro x hx; exact hf n _ (ih x hx)
theorem stM_B {o a b : Nat} {M : XMx} (H : MB M) : MB (stM o a b M) := by
  intro x y
  unfold stM updM
  have := H x y
  have := H a b
  split <;> omega
theorem rowM_B {F o a : Nat} {M : XMx} (H : MB M) : MB (rowM F o a M) := itr_keep (fun _ _ h => stM_B h) F M H
theorem shM_B {F o : Nat} {M : XMx} (H : MB M) : MB (shM F o M) := itr_keep (fun _ _ h => rowM_B h) F M H
theorem clM_B {F : Nat} {M : XMx} (H : MB M) : MB (clM F M) := itr_keep (fun _ _ h => shM_B h) F M H
def TAt (h : XH) (y F : Nat) (M : XMx) : Prop := ∃ f, h[y]? = some (arr 64 f) ∧ ∀ a b, a < F → b < F → f (a * 8 + b) = nI (M a b)
def MAt (h : XH) (z F : Nat) (M : XMx) : Prop := h[z]? = some (.inl (0, [.int (nI F), .ref (z + 1)])) ∧ TAt h (z + 1) F M
theorem TAt.put {h : XH} {y F : Nat} {M : XMx} (hF : F ≤ 8) {f : Nat → Int32} (h1 : h[y]? = some (arr 64 f)) (h2 : ∀ a b, a < F → b < F → f (a * 8 + b) = nI (M a b)) {a b : Nat} (ha : a < F) (hb : b < F) (v : Nat) : TAt (h.set y (arr 64 (upd f (a * 8 + b) (nI v)))) y F (updM M a b v) ∧ xFr (fun b => b = y) h (h.set y (arr 64 (upd f (a * 8 + b) (nI v)))) := by
  refine ⟨⟨_, set_at h1, fun x z hx hz => ?_⟩, xFr.set h1 (by simp [arr, xSz])⟩
  unfold upd updM
  by_cases q : x = a ∧ z = b
  · obtain ⟨rfl, rfl⟩ := q
    simp
  · rw [if_neg q, if_neg (by omega), h2 x z hx hz]
section DM
variable {h : XH} {z F : Nat} {M : XMx}
theorem between_x (H : MAt h z F M) (hF : F ≤ 8) {a b : Nat} (ha : a < F) (hb : b < F) : m_X0_between [.ref z, .int (nI a), .int (nI b)] h = some (some (.int (nI (M a b))), h) := by
  obtain ⟨h0, f, h1, h2⟩ := H
  have r1 := ax_row h1
  have e1 := h2 a b ha hb
  have hlt : a * 8 + b < 64 := by omega
  refine xM_run (env := [some (.ref z), some (.int (nI a)), some (.int (nI b))]) h0 rfl rfl (Nat.le_of_ble_eq_true rfl) rfl ?_ rfl
  simp (disch := omega) only [bd_X0_between, x_out, s_seq, s_ite, s_ret, s_retZ, s_retV, s_iasg, s_aasg, s_lasg, s_inc, s_put, s_putop, s_ast, s_astop, s_exp, s_call, s_skip, s_brk, s_cont, s_oinit, e_lit, e_long, e_il, e_al, e_ll, e_bin, e_un, e_fld, e_ald, e_tern, e_call, e_alen, b_cmp, b_cmp0, b_lcmp, b_and, b_or, b_not, o_add, o_sub, o_mul, o_and, o_or, o_xor, o_shl, o_shr, o_neg, o_i2l, o_l2i, o_i2c, r_eq, r_ne, r_lt, r_ge, r_gt, r_le, r_eq0, r_ne0, r_lt0, r_ge0, r_gt0, r_le0, x_fld, x_int, x_ref, x_long, x_args, x_nar, xKd, xst1, xst2, xlg, Option.bind_some, Option.bind_none, Option.map_some, Option.map_none, List.getElem?_cons_zero, List.getElem?_cons_succ, List.set_cons_zero, List.set_cons_succ, List.length_cons, List.length_nil, List.length_map, List.length_range, List.length_set, decide_eq_true_eq, if_true, if_false, reduceIte, reduceCtorEq, Bool.not_true, Bool.not_false, Bool.false_eq_true, x_ix_nI, ax_get, ax_set, e_aald, s_aast, true_and, and_true, ite_true, ite_false, ↓bI_01, bI_eq0, bI_eq1, bool_or, tern_pure, and_pure, or_pure, bI_def, bne_t, ndf, decide_not, Bool.decide_eq_true, Bool.decide_and, Bool.decide_or, Nat.reduceEqDiff, Nat.reduceAdd, Nat.reduceMul, Nat.reduceSub, Nat.reduceLT, Nat.reduceLeDiff, or_false, false_or, or_true, true_or, and_false, false_and, Bool.or_eq_true, Bool.and_eq_true, Bool.or_false, Bool.or_true, Bool.true_or, Bool.false_or, Bool.and_true, Bool.and_false, Bool.true_and, Bool.false_and, decide_true, decide_false, not_true_eq_false, not_false_eq_true, l8, nI_m, nI_add, h0, r1, e1, hlt]
theorem join_x (H : MAt h z F M) (hF : F ≤ 8) {a b : Nat} (ha : a < F) (hb : b < F) : ∃ h', m_X0_join [.ref z, .int (nI a), .int (nI b)] h = some (none, h') ∧ MAt h' z F (updM (updM M a b 1) b a 1) ∧ xFr (fun b => b = z + 1) h h' := by
  obtain ⟨h0, f, h1, h2⟩ := H
  have r1 := ax_row h1
  have hlt : a * 8 + b < 64 := by omega
  have hlt2 : b * 8 + a < 64 := by omega
  obtain ⟨T1, F1⟩ := TAt.put hF h1 h2 ha hb 1
  generalize hk1 : h.set (z + 1) (arr 64 (upd f (a * 8 + b) (nI 1))) = k1 at T1 F1
  have h0' := (F1.2.2 z (by omega)).trans h0
  have h1' : k1[z + 1]? = some (arr 64 (upd f (a * 8 + b) (nI 1))) := by rw [← hk1]; exact set_at h1
  obtain ⟨f1, h3, h4⟩ := T1
  have r2 := ax_row h3
  obtain ⟨T2, F2⟩ := TAt.put hF h3 h4 hb ha 1
  generalize hk2 : k1.set (z + 1) (arr 64 (upd f1 (b * 8 + a) (nI 1))) = k2 at T2 F2
  have h0'' := (F2.2.2 z (by omega)).trans h0'
  refine ⟨k2, ?_, ⟨h0'', T2⟩, (F1.trans F2).mono fun b hb => hb.elim id id⟩
  have s1 : (s_ast 0 (e_fld 0 1 (e_al 0)) (e_bin o_add (e_bin o_mul (e_il 1) (e_lit 8)) (e_il 2)) (e_lit 1)) [some (.ref z), some (.int (nI a)), some (.int (nI b))] h = some (none, [some (.ref z), some (.int (nI a)), some (.int (nI b))], k1) := by
    simp (disch := omega) only [x_out, s_seq, s_ite, s_ret, s_retZ, s_retV, s_iasg, s_aasg, s_lasg, s_inc, s_put, s_putop, s_ast, s_astop, s_exp, s_call, s_skip, s_brk, s_cont, s_oinit, e_lit, e_long, e_il, e_al, e_ll, e_bin, e_un, e_fld, e_ald, e_tern, e_call, e_alen, b_cmp, b_cmp0, b_lcmp, b_and, b_or, b_not, o_add, o_sub, o_mul, o_and, o_or, o_xor, o_shl, o_shr, o_neg, o_i2l, o_l2i, o_i2c, r_eq, r_ne, r_lt, r_ge, r_gt, r_le, r_eq0, r_ne0, r_lt0, r_ge0, r_gt0, r_le0, x_fld, x_int, x_ref, x_long, x_args, x_nar, xKd, xst1, xst2, xlg, Option.bind_some, Option.bind_none, Option.map_some, Option.map_none, List.getElem?_cons_zero, List.getElem?_cons_succ, List.set_cons_zero, List.set_cons_succ, List.length_cons, List.length_nil, List.length_map, List.length_range, List.length_set, decide_eq_true_eq, if_true, if_false, reduceIte, reduceCtorEq, Bool.not_true, Bool.not_false, Bool.false_eq_true, x_ix_nI, ax_get, ax_set, e_aald, s_aast, true_and, and_true, ite_true, ite_false, ↓bI_01, bI_eq0, bI_eq1, bool_or, tern_pure, and_pure, or_pure, bI_def, bne_t, ndf, decide_not, Bool.decide_eq_true, Bool.decide_and, Bool.decide_or, Nat.reduceEqDiff, Nat.reduceAdd, Nat.reduceMul, Nat.reduceSub, Nat.reduceLT, Nat.reduceLeDiff, or_false, false_or, or_true, true_or, and_false, false_and, Bool.or_eq_true, Bool.and_eq_true, Bool.or_false, Bool.or_true, Bool.true_or, Bool.false_or, Bool.and_true, Bool.and_false, Bool.true_and, Bool.false_and, decide_true, decide_false, not_true_eq_false, not_false_eq_true, l8, l1, nI_m, nI_add, h0, r1, hlt, ax_def, hk1]
  have s2 : (s_ast 0 (e_fld 0 1 (e_al 0)) (e_bin o_add (e_bin o_mul (e_il 2) (e_lit 8)) (e_il 1)) (e_lit 1)) [some (.ref z), some (.int (nI a)), some (.int (nI b))] k1 = some (none, [some (.ref z), some (.int (nI a)), some (.int (nI b))], k2) := by
    simp (disch := omega) only [x_out, s_seq, s_ite, s_ret, s_retZ, s_retV, s_iasg, s_aasg, s_lasg, s_inc, s_put, s_putop, s_ast, s_astop, s_exp, s_call, s_skip, s_brk, s_cont, s_oinit, e_lit, e_long, e_il, e_al, e_ll, e_bin, e_un, e_fld, e_ald, e_tern, e_call, e_alen, b_cmp, b_cmp0, b_lcmp, b_and, b_or, b_not, o_add, o_sub, o_mul, o_and, o_or, o_xor, o_shl, o_shr, o_neg, o_i2l, o_l2i, o_i2c, r_eq, r_ne, r_lt, r_ge, r_gt, r_le, r_eq0, r_ne0, r_lt0, r_ge0, r_gt0, r_le0, x_fld, x_int, x_ref, x_long, x_args, x_nar, xKd, xst1, xst2, xlg, Option.bind_some, Option.bind_none, Option.map_some, Option.map_none, List.getElem?_cons_zero, List.getElem?_cons_succ, List.set_cons_zero, List.set_cons_succ, List.length_cons, List.length_nil, List.length_map, List.length_range, List.length_set, decide_eq_true_eq, if_true, if_false, reduceIte, reduceCtorEq, Bool.not_true, Bool.not_false, Bool.false_eq_true, x_ix_nI, ax_get, ax_set, e_aald, s_aast, true_and, and_true, ite_true, ite_false, ↓bI_01, bI_eq0, bI_eq1, bool_or, tern_pure, and_pure, or_pure, bI_def, bne_t, ndf, decide_not, Bool.decide_eq_true, Bool.decide_and, Bool.decide_or, Nat.reduceEqDiff, Nat.reduceAdd, Nat.reduceMul, Nat.reduceSub, Nat.reduceLT, Nat.reduceLeDiff, or_false, false_or, or_true, true_or, and_false, false_and, Bool.or_eq_true, Bool.and_eq_true, Bool.or_false, Bool.or_true, Bool.true_or, Bool.false_or, Bool.and_true, Bool.and_false, Bool.true_and, Bool.false_and, decide_true, decide_false, not_true_eq_false, not_false_eq_true, l8, l1, nI_m, nI_add, h0', r2, hlt2, ax_def, hk2]
  refine xM_run (env := [some (.ref z), some (.int (nI a)), some (.int (nI b))]) h0 rfl rfl (Nat.le_of_ble_eq_true rfl) rfl ?_ rfl
  simp only [bd_X0_join, s_seq, s1, s2, s_retV, Option.bind_some, x_out, Option.map_some]
theorem shorten1_x (H : MAt h z F M) (B : MB M) (hF : F ≤ 8) {o a : Nat} (ho : o < F) (ha : a < F) (x : Option Value) : ∃ y h', s_loop 1000 lc_X0_shortenBy_1 la_X0_shortenBy_1 lu_X0_shortenBy_1 [some (.ref z), some (.int (nI o)), some (.int (nI a)), some (.int (nI 0)), x] h = some (none, [some (.ref z), some (.int (nI o)), some (.int (nI a)), some (.int (nI F)), y], h') ∧ MAt h' z F (rowM F o a M) ∧ xFr (fun b => b = z + 1) h h' := by
  obtain ⟨env', h', e1, ⟨y, rfl⟩, e3, e4⟩ := s_loop_J (c := lc_X0_shortenBy_1) (a := la_X0_shortenBy_1) (u := lu_X0_shortenBy_1) (fun i env k => (∃ y, env = [some (.ref z), some (.int (nI o)), some (.int (nI a)), some (.int (nI i)), y]) ∧ MAt k z F (itr (fun b M => stM o a b M) i M) ∧ xFr (fun b => b = z + 1) h k) F 1000 (by omega) ⟨⟨x, rfl⟩, H, xFr.rf _ _⟩
    (fun i env k hi hJ => by
      obtain ⟨⟨y, rfl⟩, K, Fr⟩ := hJ
      have B' : MB (itr (fun b M => stM o a b M) i M) := itr_keep (fun _ _ h => stM_B h) i M B
      show ∃ env' k', s_step lc_X0_shortenBy_1 la_X0_shortenBy_1 lu_X0_shortenBy_1 [some (.ref z), some (.int (nI o)), some (.int (nI a)), some (.int (nI i)), y] k = some (.inr (env', k')) ∧ (∃ y, env' = [some (.ref z), some (.int (nI o)), some (.int (nI a)), some (.int (nI (i + 1))), y]) ∧ MAt k' z F (stM o a i (itr (fun b M => stM o a b M) i M)) ∧ xFr (fun b => b = z + 1) h k'
      generalize itr (fun b M => stM o a b M) i M = N at K B' ⊢
      have b1 := between_x K hF ha ho
      have b2 := between_x K hF ho hi
      have b3 := between_x K hF ha hi
      have B1 := B' a o
      have B2 := B' o i
      have B3 := B' a i
      obtain ⟨k0, f, k1, k2⟩ := K
      have r1 := ax_row k1
      have hlt : a * 8 + i < 64 := by omega
      obtain ⟨T1, F1⟩ := TAt.put hF k1 k2 ha hi (min (N a i) (N a o + N o i))
      generalize hk1 : k.set (z + 1) (arr 64 (upd f (a * 8 + i) (nI (min (N a i) (N a o + N o i))))) = k' at T1 F1
      refine ⟨[some (.ref z), some (.int (nI o)), some (.int (nI a)), some (.int (nI (i + 1))), some (.int (nI (N a o + N o i)))], k', ?_, ⟨_, rfl⟩, ⟨(F1.2.2 z (by omega)).trans k0, T1⟩, (Fr.trans F1).mono fun b hb => hb.elim id id⟩
      simp (disch := omega) only [lc_X0_shortenBy_1, la_X0_shortenBy_1, lu_X0_shortenBy_1, s_step, x_out, s_seq, s_ite, s_ret, s_retZ, s_retV, s_iasg, s_aasg, s_lasg, s_inc, s_put, s_putop, s_ast, s_astop, s_exp, s_call, s_skip, s_brk, s_cont, s_oinit, e_lit, e_long, e_il, e_al, e_ll, e_bin, e_un, e_fld, e_ald, e_tern, e_call, e_alen, b_cmp, b_cmp0, b_lcmp, b_and, b_or, b_not, o_add, o_sub, o_mul, o_and, o_or, o_xor, o_shl, o_shr, o_neg, o_i2l, o_l2i, o_i2c, r_eq, r_ne, r_lt, r_ge, r_gt, r_le, r_eq0, r_ne0, r_lt0, r_ge0, r_gt0, r_le0, x_fld, x_int, x_ref, x_long, x_args, x_nar, xKd, xst1, xst2, xlg, Option.bind_some, Option.bind_none, Option.map_some, Option.map_none, List.getElem?_cons_zero, List.getElem?_cons_succ, List.set_cons_zero, List.set_cons_succ, List.length_cons, List.length_nil, List.length_map, List.length_range, List.length_set, decide_eq_true_eq, if_true, if_false, reduceIte, reduceCtorEq, Bool.not_true, Bool.not_false, Bool.false_eq_true, x_ix_nI, ax_get, ax_set, e_aald, s_aast, true_and, and_true, ite_true, ite_false, ↓bI_01, bI_eq0, bI_eq1, bool_or, tern_pure, and_pure, or_pure, bI_def, bne_t, ndf, decide_not, Bool.decide_eq_true, Bool.decide_and, Bool.decide_or, Nat.reduceEqDiff, Nat.reduceAdd, Nat.reduceMul, Nat.reduceSub, Nat.reduceLT, Nat.reduceLeDiff, or_false, false_or, or_true, true_or, and_false, false_and, Bool.or_eq_true, Bool.and_eq_true, Bool.or_false, Bool.or_true, Bool.true_or, Bool.false_or, Bool.and_true, Bool.and_false, Bool.true_and, Bool.false_and, decide_true, decide_false, not_true_eq_false, not_false_eq_true, nI_ltI, l8, nI_m, nI_add, nI_1, hi, k0, r1, b1, b2, b3, m_min_nI, hlt, ax_def, hk1])
    (fun env k hJ => by
      obtain ⟨⟨y, rfl⟩, K, Fr⟩ := hJ
      have k0 := K.1
      simp (disch := omega) only [lc_X0_shortenBy_1, la_X0_shortenBy_1, lu_X0_shortenBy_1, s_step, x_out, s_seq, s_ite, s_ret, s_retZ, s_retV, s_iasg, s_aasg, s_lasg, s_inc, s_put, s_putop, s_ast, s_astop, s_exp, s_call, s_skip, s_brk, s_cont, s_oinit, e_lit, e_long, e_il, e_al, e_ll, e_bin, e_un, e_fld, e_ald, e_tern, e_call, e_alen, b_cmp, b_cmp0, b_lcmp, b_and, b_or, b_not, o_add, o_sub, o_mul, o_and, o_or, o_xor, o_shl, o_shr, o_neg, o_i2l, o_l2i, o_i2c, r_eq, r_ne, r_lt, r_ge, r_gt, r_le, r_eq0, r_ne0, r_lt0, r_ge0, r_gt0, r_le0, x_fld, x_int, x_ref, x_long, x_args, x_nar, xKd, xst1, xst2, xlg, Option.bind_some, Option.bind_none, Option.map_some, Option.map_none, List.getElem?_cons_zero, List.getElem?_cons_succ, List.set_cons_zero, List.set_cons_succ, List.length_cons, List.length_nil, List.length_map, List.length_range, List.length_set, decide_eq_true_eq, if_true, if_false, reduceIte, reduceCtorEq, Bool.not_true, Bool.not_false, Bool.false_eq_true, x_ix_nI, ax_get, ax_set, e_aald, s_aast, true_and, and_true, ite_true, ite_false, ↓bI_01, bI_eq0, bI_eq1, bool_or, tern_pure, and_pure, or_pure, bI_def, bne_t, ndf, decide_not, Bool.decide_eq_true, Bool.decide_and, Bool.decide_or, Nat.reduceEqDiff, Nat.reduceAdd, Nat.reduceMul, Nat.reduceSub, Nat.reduceLT, Nat.reduceLeDiff, or_false, false_or, or_true, true_or, and_false, false_and, Bool.or_eq_true, Bool.and_eq_true, Bool.or_false, Bool.or_true, Bool.true_or, Bool.false_or, Bool.and_true, Bool.and_false, Bool.true_and, Bool.false_and, decide_true, decide_false, not_true_eq_false, not_false_eq_true, nI_ltI, k0, Nat.lt_irrefl])
  exact ⟨y, h', e1, e3, e4⟩
end DM
