/-! the bits of a number below 512; measuring -/
def pop (n : Nat) : Nat := cnt (fun k => n.testBit k) 9
def us (x k : Int32) : Int32 := (x.toUInt32 >>> (k.toUInt32 &&& Int32.toUInt32 31)).toInt32
def bcA (x : Int32) : Int32 := x - (us x 1 &&& 1431655765)
def bcB (x : Int32) : Int32 := (x &&& 858993459) + (us x 2 &&& 858993459)
def bcC (x : Int32) : Int32 := (x + us x 4) &&& 252645135
def bcD (x : Int32) : Int32 := x + us x 8
def bcE (x : Int32) : Int32 := x + us x 16
def bcF (x : Int32) : Int32 := bcE (bcD (bcC (bcB (bcA x)))) &&& 63
theorem bc_all : ∀ n : Nat, n < 512 → bcF (nI n) = nI (pop n) := by decide +kernel
theorem bitCount_x (h : XH) {n : Nat} (hn : n < 512) : m_J6_bitCount_0f7a4 [.int (nI n)] h = some (some (.int (nI (pop n))), h) := by
  have e := bc_all n hn
  have q1 : ∀ x : Int32, (s_iasg 0 (e_bin o_sub (e_il 0) (e_bin o_and (e_bin o_ushr (e_il 0) (e_lit 1)) (e_lit 1431655765)))) [some (.int x)] h = some (none, [some (.int (bcA x))], h) := fun x => rfl
  have q2 : ∀ x : Int32, (s_iasg 0 (e_bin o_add (e_bin o_and (e_il 0) (e_lit 858993459)) (e_bin o_and (e_bin o_ushr (e_il 0) (e_lit 2)) (e_lit 858993459)))) [some (.int x)] h = some (none, [some (.int (bcB x))], h) := fun x => rfl
  have q3 : ∀ x : Int32, (s_iasg 0 (e_bin o_and (e_bin o_add (e_il 0) (e_bin o_ushr (e_il 0) (e_lit 4))) (e_lit 252645135))) [some (.int x)] h = some (none, [some (.int (bcC x))], h) := fun x => rfl
  have q4 : ∀ x : Int32, (s_iasg 0 (e_bin o_add (e_il 0) (e_bin o_ushr (e_il 0) (e_lit 8)))) [some (.int x)] h = some (none, [some (.int (bcD x))], h) := fun x => rfl
  have q5 : ∀ x : Int32, (s_iasg 0 (e_bin o_add (e_il 0) (e_bin o_ushr (e_il 0) (e_lit 16)))) [some (.int x)] h = some (none, [some (.int (bcE x))], h) := fun x => rfl
  have q6 : ∀ x : Int32, (s_ret (e_bin o_and (e_il 0) (e_lit 63))) [some (.int x)] h = some (some (.inr (some (.int (x &&& 63)))), [some (.int x)], h) := fun x => rfl
  refine xMS_run (env := [some (.int (nI n))]) rfl (Nat.le_of_ble_eq_true rfl) rfl ?_ rfl
  simp only [bd_J6_bitCount_0f7a4, s_seq, q1, q2, q3, q4, q5, q6, Option.bind_some, x_out, Option.map_some]
  exact congrArg (fun z => some (some (Sum.inr (some (Value.int z))), h)) e
theorem mk_bit {p : Nat → Bool} : ∀ {n k : Nat}, k < n → (mk p n).testBit k = p k := by
  intro n
  induction n with
  | zero => intro k hk; exact absurd hk (by omega)
  | succ n ih =>
    intro k hk
    show (mk p n + (if p n = true then 2 ^ n else 0)).testBit k = p k
    have hlt := mk_lt p n
    by_cases q : p n = true
    · rw [if_pos q, Nat.add_comm]
      by_cases e : k = n
      · subst e
        rw [Nat.testBit_two_pow_add_eq, Nat.testBit_lt_two_pow hlt, q]
        rfl
      · rw [Nat.testBit_two_pow_add_gt (by omega)]
        exact ih (by omega)
    · rw [if_neg q, Nat.add_zero]
      by_cases e : k = n
      · subst e
        rw [Nat.testBit_lt_two_pow hlt]
        simpa using q
      · exact ih (by omega)
/-- a set tells of every uneven walker -/
def meT (P : XP) (S : XT) (set w : Nat) : Bool := decide (mk (sUn S w) (pN P) = 0) || !decide (mk (sUn S w) (pN P) &&& set = 0)
def meA (P : XP) (S : XT) (set : Nat) : Bool := ((List.range (pM P)).find? fun w => !meT P S set w).isNone
/-- the first of the sets from 0 on with the fewest members -/
def meB (P : XP) (S : XT) : Nat → Nat
  | 0 => 2 ^ pN P - 1
  | n + 1 => if pop n < pop (meB P S n) ∧ meA P S n = true then n else meB P S n
section ME
variable {h : XH} {z c : Nat} {P : XP} {S : XT}
theorem nI_and : ∀ x : Nat, x < 512 → ∀ y : Nat, y < 512 → (nI x &&& nI y) = nI (x &&& y) := fun x _ y _ => by
  apply Int32.toBitVec_inj.mp
  show BitVec.ofNat 32 x &&& BitVec.ofNat 32 y = BitVec.ofNat 32 (x &&& y)
  apply BitVec.eq_of_toNat_eq
  simp only [BitVec.toNat_and, BitVec.toNat_ofNat]
  exact Nat.and_mod_two_pow.symm
theorem tellsAll_x {f : Nat → Int32} (h0 : h[z]? = some (.inl (3, [.ref (z + 1)]))) (h1 : h[z + 1]? = some (arr 4 f)) (O : POK P) (hf : ∀ w, w < pM P → f w = nI (mk (sUn S w) (pN P))) {set : Nat} (hs : set < 512) : m_X3_tellsAll [.ref z, .int (nI set), .int (nI (pM P))] h = some (some (.int (bI (meA P S set))), h) := by
  have o5 := O.2.2.2.2.1
  have o6 := O.2.2.2.2.2.1
  have r1 := ax_row h1
  have hl := s_loop_find (c := lc_X3_tellsAll_1) (a := la_X3_tellsAll_1) (u := lu_X3_tellsAll_1) (fun i => ([some (.ref z), some (.int (nI set)), some (.int (nI (pM P))), some (.int (nI i))], h)) (fun w => !meT P S set w) (fun i => (some (.inr (some (.int 0))), [some (.ref z), some (.int (nI set)), some (.int (nI (pM P))), some (.int (nI i))], h)) (none, [some (.ref z), some (.int (nI set)), some (.int (nI (pM P))), some (.int (nI (pM P)))], h) (pM P) 1000 (by omega)
    (fun i hi hq => by
      have e1 := hf i hi
      have hm : mk (sUn S i) (pN P) < 512 := mk9 o5
      have e2 := nI_and _ hm _ hs
      have ha : mk (sUn S i) (pN P) &&& set < 2 ^ 31 := Nat.lt_of_le_of_lt Nat.and_le_left (by omega)
      have hi4 : i < 4 := by omega
      unfold meT at hq
      by_cases q1 : mk (sUn S i) (pN P) = 0
      · simp (disch := omega) only [lc_X3_tellsAll_1, la_X3_tellsAll_1, lu_X3_tellsAll_1, s_step, x_out, s_seq, s_ite, s_ret, s_retZ, s_retV, s_iasg, s_aasg, s_lasg, s_inc, s_put, s_putop, s_ast, s_astop, s_exp, s_call, s_skip, s_brk, s_cont, s_oinit, e_lit, e_long, e_il, e_al, e_ll, e_bin, e_un, e_fld, e_ald, e_tern, e_call, e_alen, b_cmp, b_cmp0, b_lcmp, b_and, b_or, b_not, o_add, o_sub, o_mul, o_and, o_or, o_xor, o_shl, o_shr, o_neg, o_i2l, o_l2i, o_i2c, r_eq, r_ne, r_lt, r_ge, r_gt, r_le, r_eq0, r_ne0, r_lt0, r_ge0, r_gt0, r_le0, x_fld, x_int, x_ref, x_long, x_args, x_nar, xKd, xst1, xst2, xlg, Option.bind_some, Option.bind_none, Option.map_some, Option.map_none, List.getElem?_cons_zero, List.getElem?_cons_succ, List.set_cons_zero, List.set_cons_succ, List.length_cons, List.length_nil, List.length_map, List.length_range, List.length_set, decide_eq_true_eq, if_true, if_false, reduceIte, reduceCtorEq, Bool.not_true, Bool.not_false, Bool.false_eq_true, x_ix_nI, ax_get, ax_set, e_aald, s_aast, true_and, and_true, ite_true, ite_false, ↓bI_01, bI_eq0, bI_eq1, bool_or, tern_pure, and_pure, or_pure, bI_def, bne_t, ndf, decide_not, Bool.decide_eq_true, Bool.decide_and, Bool.decide_or, Nat.reduceEqDiff, Nat.reduceAdd, Nat.reduceMul, Nat.reduceSub, Nat.reduceLT, Nat.reduceLeDiff, or_false, false_or, or_true, true_or, and_false, false_and, Bool.or_eq_true, Bool.and_eq_true, Bool.or_false, Bool.or_true, Bool.true_or, Bool.false_or, Bool.and_true, Bool.and_false, Bool.true_and, Bool.false_and, decide_true, decide_false, not_true_eq_false, not_false_eq_true, nI_ltI, nI_small, nI_1, h0, r1, hi, hi4, e1, e2, q1]
      · have q2 : ¬ (mk (sUn S i) (pN P) &&& set = 0) := by simpa [q1] using hq
        have q3 : (nI (mk (sUn S i) (pN P) &&& set) = 0) = False := by rw [nI_small ha]; exact eq_false q2
        simp (disch := omega) only [lc_X3_tellsAll_1, la_X3_tellsAll_1, lu_X3_tellsAll_1, s_step, x_out, s_seq, s_ite, s_ret, s_retZ, s_retV, s_iasg, s_aasg, s_lasg, s_inc, s_put, s_putop, s_ast, s_astop, s_exp, s_call, s_skip, s_brk, s_cont, s_oinit, e_lit, e_long, e_il, e_al, e_ll, e_bin, e_un, e_fld, e_ald, e_tern, e_call, e_alen, b_cmp, b_cmp0, b_lcmp, b_and, b_or, b_not, o_add, o_sub, o_mul, o_and, o_or, o_xor, o_shl, o_shr, o_neg, o_i2l, o_l2i, o_i2c, r_eq, r_ne, r_lt, r_ge, r_gt, r_le, r_eq0, r_ne0, r_lt0, r_ge0, r_gt0, r_le0, x_fld, x_int, x_ref, x_long, x_args, x_nar, xKd, xst1, xst2, xlg, Option.bind_some, Option.bind_none, Option.map_some, Option.map_none, List.getElem?_cons_zero, List.getElem?_cons_succ, List.set_cons_zero, List.set_cons_succ, List.length_cons, List.length_nil, List.length_map, List.length_range, List.length_set, decide_eq_true_eq, if_true, if_false, reduceIte, reduceCtorEq, Bool.not_true, Bool.not_false, Bool.false_eq_true, x_ix_nI, ax_get, ax_set, e_aald, s_aast, true_and, and_true, ite_true, ite_false, ↓bI_01, bI_eq0, bI_eq1, bool_or, tern_pure, and_pure, or_pure, bI_def, bne_t, ndf, decide_not, Bool.decide_eq_true, Bool.decide_and, Bool.decide_or, Nat.reduceEqDiff, Nat.reduceAdd, Nat.reduceMul, Nat.reduceSub, Nat.reduceLT, Nat.reduceLeDiff, or_false, false_or, or_true, true_or, and_false, false_and, Bool.or_eq_true, Bool.and_eq_true, Bool.or_false, Bool.or_true, Bool.true_or, Bool.false_or, Bool.and_true, Bool.and_false, Bool.true_and, Bool.false_and, decide_true, decide_false, not_true_eq_false, not_false_eq_true, nI_ltI, nI_small, nI_1, h0, r1, hi, hi4, e1, e2, q1, q3])
    (fun i hi hq => by
      have e1 := hf i hi
      have hm : mk (sUn S i) (pN P) < 512 := mk9 o5
      have e2 := nI_and _ hm _ hs
      have ha : mk (sUn S i) (pN P) &&& set < 2 ^ 31 := Nat.lt_of_le_of_lt Nat.and_le_left (by omega)
      have hi4 : i < 4 := by omega
      unfold meT at hq
      simp at hq
      obtain ⟨q1, q2⟩ := hq
      have q3 : (nI (mk (sUn S i) (pN P) &&& set) = 0) = True := by rw [nI_small ha]; exact eq_true q2
      simp (disch := omega) only [lc_X3_tellsAll_1, la_X3_tellsAll_1, lu_X3_tellsAll_1, s_step, x_out, s_seq, s_ite, s_ret, s_retZ, s_retV, s_iasg, s_aasg, s_lasg, s_inc, s_put, s_putop, s_ast, s_astop, s_exp, s_call, s_skip, s_brk, s_cont, s_oinit, e_lit, e_long, e_il, e_al, e_ll, e_bin, e_un, e_fld, e_ald, e_tern, e_call, e_alen, b_cmp, b_cmp0, b_lcmp, b_and, b_or, b_not, o_add, o_sub, o_mul, o_and, o_or, o_xor, o_shl, o_shr, o_neg, o_i2l, o_l2i, o_i2c, r_eq, r_ne, r_lt, r_ge, r_gt, r_le, r_eq0, r_ne0, r_lt0, r_ge0, r_gt0, r_le0, x_fld, x_int, x_ref, x_long, x_args, x_nar, xKd, xst1, xst2, xlg, Option.bind_some, Option.bind_none, Option.map_some, Option.map_none, List.getElem?_cons_zero, List.getElem?_cons_succ, List.set_cons_zero, List.set_cons_succ, List.length_cons, List.length_nil, List.length_map, List.length_range, List.length_set, decide_eq_true_eq, if_true, if_false, reduceIte, reduceCtorEq, Bool.not_true, Bool.not_false, Bool.false_eq_true, x_ix_nI, ax_get, ax_set, e_aald, s_aast, true_and, and_true, ite_true, ite_false, ↓bI_01, bI_eq0, bI_eq1, bool_or, tern_pure, and_pure, or_pure, bI_def, bne_t, ndf, decide_not, Bool.decide_eq_true, Bool.decide_and, Bool.decide_or, Nat.reduceEqDiff, Nat.reduceAdd, Nat.reduceMul, Nat.reduceSub, Nat.reduceLT, Nat.reduceLeDiff, or_false, false_or, or_true, true_or, and_false, false_and, Bool.or_eq_true, Bool.and_eq_true, Bool.or_false, Bool.or_true, Bool.true_or, Bool.false_or, Bool.and_true, Bool.and_false, Bool.true_and, Bool.false_and, decide_true, decide_false, not_true_eq_false, not_false_eq_true, nI_ltI, nI_small, nI_1, h0, r1, hi, hi4, e1, e2, q1, q3])
    (by simp (disch := omega) only [lc_X3_tellsAll_1, la_X3_tellsAll_1, lu_X3_tellsAll_1, s_step, x_out, s_seq, s_ite, s_ret, s_retZ, s_retV, s_iasg, s_aasg, s_lasg, s_inc, s_put, s_putop, s_ast, s_astop, s_exp, s_call, s_skip, s_brk, s_cont, s_oinit, e_lit, e_long, e_il, e_al, e_ll, e_bin, e_un, e_fld, e_ald, e_tern, e_call, e_alen, b_cmp, b_cmp0, b_lcmp, b_and, b_or, b_not, o_add, o_sub, o_mul, o_and, o_or, o_xor, o_shl, o_shr, o_neg, o_i2l, o_l2i, o_i2c, r_eq, r_ne, r_lt, r_ge, r_gt, r_le, r_eq0, r_ne0, r_lt0, r_ge0, r_gt0, r_le0, x_fld, x_int, x_ref, x_long, x_args, x_nar, xKd, xst1, xst2, xlg, Option.bind_some, Option.bind_none, Option.map_some, Option.map_none, List.getElem?_cons_zero, List.getElem?_cons_succ, List.set_cons_zero, List.set_cons_succ, List.length_cons, List.length_nil, List.length_map, List.length_range, List.length_set, decide_eq_true_eq, if_true, if_false, reduceIte, reduceCtorEq, Bool.not_true, Bool.not_false, Bool.false_eq_true, x_ix_nI, ax_get, ax_set, e_aald, s_aast, true_and, and_true, ite_true, ite_false, ↓bI_01, bI_eq0, bI_eq1, bool_or, tern_pure, and_pure, or_pure, bI_def, bne_t, ndf, decide_not, Bool.decide_eq_true, Bool.decide_and, Bool.decide_or, Nat.reduceEqDiff, Nat.reduceAdd, Nat.reduceMul, Nat.reduceSub, Nat.reduceLT, Nat.reduceLeDiff, or_false, false_or, or_true, true_or, and_false, false_and, Bool.or_eq_true, Bool.and_eq_true, Bool.or_false, Bool.or_true, Bool.true_or, Bool.false_or, Bool.and_true, Bool.and_false, Bool.true_and, Bool.false_and, decide_true, decide_false, not_true_eq_false, not_false_eq_true, nI_ltI, nI_1, h0, Nat.lt_irrefl])
  simp only [nI_0] at hl
  refine xM_run (env := [some (.ref z), some (.int (nI set)), some (.int (nI (pM P))), none]) h0 rfl rfl (Nat.le_of_ble_eq_true rfl) rfl ?_ rfl
  unfold meA
  cases hf2 : (List.range (pM P)).find? (fun w => !meT P S set w) with
  | none =>
    rw [hf2] at hl
    simp (disch := omega) only [bd_X3_tellsAll, x_out, s_seq, s_ite, s_ret, s_retZ, s_retV, s_iasg, s_aasg, s_lasg, s_inc, s_put, s_putop, s_ast, s_astop, s_exp, s_call, s_skip, s_brk, s_cont, s_oinit, e_lit, e_long, e_il, e_al, e_ll, e_bin, e_un, e_fld, e_ald, e_tern, e_call, e_alen, b_cmp, b_cmp0, b_lcmp, b_and, b_or, b_not, o_add, o_sub, o_mul, o_and, o_or, o_xor, o_shl, o_shr, o_neg, o_i2l, o_l2i, o_i2c, r_eq, r_ne, r_lt, r_ge, r_gt, r_le, r_eq0, r_ne0, r_lt0, r_ge0, r_gt0, r_le0, x_fld, x_int, x_ref, x_long, x_args, x_nar, xKd, xst1, xst2, xlg, Option.bind_some, Option.bind_none, Option.map_some, Option.map_none, List.getElem?_cons_zero, List.getElem?_cons_succ, List.set_cons_zero, List.set_cons_succ, List.length_cons, List.length_nil, List.length_map, List.length_range, List.length_set, decide_eq_true_eq, if_true, if_false, reduceIte, reduceCtorEq, Bool.not_true, Bool.not_false, Bool.false_eq_true, x_ix_nI, ax_get, ax_set, e_aald, s_aast, true_and, and_true, ite_true, ite_false, ↓bI_01, bI_eq0, bI_eq1, bool_or, tern_pure, and_pure, or_pure, bI_def, bne_t, ndf, decide_not, Bool.decide_eq_true, Bool.decide_and, Bool.decide_or, Nat.reduceEqDiff, Nat.reduceAdd, Nat.reduceMul, Nat.reduceSub, Nat.reduceLT, Nat.reduceLeDiff, or_false, false_or, or_true, true_or, and_false, false_and, Bool.or_eq_true, Bool.and_eq_true, Bool.or_false, Bool.or_true, Bool.true_or, Bool.false_or, Bool.and_true, Bool.and_false, Bool.true_and, Bool.false_and, decide_true, decide_false, not_true_eq_false, not_false_eq_true, hl]
    rfl
  | some k =>
    rw [hf2] at hl
    simp (disch := omega) only [bd_X3_tellsAll, x_out, s_seq, s_ite, s_ret, s_retZ, s_retV, s_iasg, s_aasg, s_lasg, s_inc, s_put, s_putop, s_ast, s_astop, s_exp, s_call, s_skip, s_brk, s_cont, s_oinit, e_lit, e_long, e_il, e_al, e_ll, e_bin, e_un, e_fld, e_ald, e_tern, e_call, e_alen, b_cmp, b_cmp0, b_lcmp, b_and, b_or, b_not, o_add, o_sub, o_mul, o_and, o_or, o_xor, o_shl, o_shr, o_neg, o_i2l, o_l2i, o_i2c, r_eq, r_ne, r_lt, r_ge, r_gt, r_le, r_eq0, r_ne0, r_lt0, r_ge0, r_gt0, r_le0, x_fld, x_int, x_ref, x_long, x_args, x_nar, xKd, xst1, xst2, xlg, Option.bind_some, Option.bind_none, Option.map_some, Option.map_none, List.getElem?_cons_zero, List.getElem?_cons_succ, List.set_cons_zero, List.set_cons_succ, List.length_cons, List.length_nil, List.length_map, List.length_range, List.length_set, decide_eq_true_eq, if_true, if_false, reduceIte, reduceCtorEq, Bool.not_true, Bool.not_false, Bool.false_eq_true, x_ix_nI, ax_get, ax_set, e_aald, s_aast, true_and, and_true, ite_true, ite_false, ↓bI_01, bI_eq0, bI_eq1, bool_or, tern_pure, and_pure, or_pure, bI_def, bne_t, ndf, decide_not, Bool.decide_eq_true, Bool.decide_and, Bool.decide_or, Nat.reduceEqDiff, Nat.reduceAdd, Nat.reduceMul, Nat.reduceSub, Nat.reduceLT, Nat.reduceLeDiff, or_false, false_or, or_true, true_or, and_false, false_and, Bool.or_eq_true, Bool.and_eq_true, Bool.or_false, Bool.or_true, Bool.true_or, Bool.false_or, Bool.and_true, Bool.and_false, Bool.true_and, Bool.false_and, decide_true, decide_false, not_true_eq_false, not_false_eq_true, hl]
    rfl
end ME
