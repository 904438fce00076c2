/-! the reference: drunkards, by all ways; lowest terms -/
def pth (P : XP) (S : XT) (pl set : Nat) : Nat → Nat
  | 0 => pl
  | e + 1 => stp P S (set.testBit e) (pth P S pl set e)
def wgt (x set : Nat) : Nat → Nat
  | 0 => 1
  | e + 1 => wgt x set e * (if set.testBit e = true then x else 10 - x)
theorem pth_lt {P : XP} {S : XT} (O : POK P) {pl set : Nat} (hp : pl < pF P) : ∀ e, pth P S pl set e < pF P := by
  intro e
  induction e with
  | zero => exact hp
  | succ e ih => exact stp_lt O ih
theorem pth_same {P : XP} {S : XT} {pl s t : Nat} : ∀ {n : Nat}, (∀ e, e < n → s.testBit e = t.testBit e) → pth P S pl s n = pth P S pl t n := by
  intro n
  induction n with
  | zero => intro _; rfl
  | succ n ih =>
    intro h
    show stp P S (s.testBit n) (pth P S pl s n) = stp P S (t.testBit n) (pth P S pl t n)
    rw [ih fun e he => h e (by omega), h n (by omega)]
theorem wgt_same {x s t : Nat} : ∀ {n : Nat}, (∀ e, e < n → s.testBit e = t.testBit e) → wgt x s n = wgt x t n := by
  intro n
  induction n with
  | zero => intro _; rfl
  | succ n ih =>
    intro h
    show wgt x s n * (if s.testBit n = true then x else 10 - x) = wgt x t n * (if t.testBit n = true then x else 10 - x)
    rw [ih fun e he => h e (by omega), h n (by omega)]
theorem sN_app (f : Nat → Nat) (a : Nat) : ∀ b, sN f (a + b) = sN f a + sN (fun i => f (a + i)) b := by
  intro b
  induction b with
  | zero => rfl
  | succ b ih =>
    show sN f (a + b) + f (a + b) = sN f a + (sN (fun i => f (a + i)) b + f (a + b))
    rw [ih]
    omega
theorem sN_pick (c : Nat → Nat) (k : Nat) : ∀ n, sN (fun i => c i * (if i = k then 1 else 0)) n = if k < n then c k else 0 := by
  intro n
  induction n with
  | zero => simp [sN]
  | succ n ih =>
    simp only [sN, ih]
    by_cases q : n = k
    · subst q; simp
    · by_cases q2 : k < n
      · simp [q, q2, show k < n + 1 by omega]
      · simp [q, q2, show ¬ k < n + 1 by omega]
theorem dr_all {P : XP} {S : XT} (O : POK P) {x pl : Nat} (hx : x ≤ 10) (hp : pl < pF P) : ∀ n (hf : Nat → Nat), sN (fun set => wgt x set n * hf (pth P S pl set n)) (2 ^ n) = sN (fun g => drC P S x pl n g * hf g) (pF P) := by
  intro n
  induction n with
  | zero =>
    intro hf
    have e : sN (fun g => drC P S x pl 0 g * hf g) (pF P) = sN (fun g => hf g * (if g = pl then 1 else 0)) (pF P) := sN_congr fun g hg => Nat.mul_comm _ _
    rw [e, sN_pick, if_pos hp]
    show 0 + 1 * hf pl = hf pl
    omega
  | succ n ih =>
    intro hf
    have e1 : sN (fun set => wgt x set (n + 1) * hf (pth P S pl set (n + 1))) (2 ^ (n + 1)) = sN (fun set => wgt x set n * ((10 - x) * hf (stp P S false (pth P S pl set n)) + x * hf (stp P S true (pth P S pl set n)))) (2 ^ n) := by
      rw [Nat.pow_succ, Nat.mul_two, sN_app, ← sN_add]
      refine sN_congr fun set hs => ?_
      have b0 : set.testBit n = false := Nat.testBit_lt_two_pow hs
      have b1 : (2 ^ n + set).testBit n = true := by rw [Nat.testBit_two_pow_add_eq, b0]; rfl
      have bs : ∀ e, e < n → (2 ^ n + set).testBit e = set.testBit e := fun e he => Nat.testBit_two_pow_add_gt he set
      show wgt x set n * (if set.testBit n = true then x else 10 - x) * hf (stp P S (set.testBit n) (pth P S pl set n)) + wgt x (2 ^ n + set) n * (if (2 ^ n + set).testBit n = true then x else 10 - x) * hf (stp P S ((2 ^ n + set).testBit n) (pth P S pl (2 ^ n + set) n)) = _
      rw [b0, b1, wgt_same bs, pth_same bs, if_neg (by simp), if_pos rfl, Nat.mul_add, Nat.mul_assoc, Nat.mul_assoc]
    rw [e1, ih (fun g => (10 - x) * hf (stp P S false g) + x * hf (stp P S true g))]
    have e2 : sN (fun g => drC P S x pl (n + 1) g * hf g) (pF P) = sN (fun g => sN (fun f => drC P S x pl n f * (stW P S x f g * hf g)) (pF P)) (pF P) := sN_congr fun g hg => by
      show sN (fun f => drC P S x pl n f * stW P S x f g) (pF P) * hf g = _
      rw [Nat.mul_comm, ← sN_mul]
      exact sN_congr fun f hf' => by rw [Nat.mul_comm, Nat.mul_assoc]
    rw [e2, sN_swap]
    refine sN_congr fun f hf' => ?_
    have e3 : sN (fun g => drC P S x pl n f * (stW P S x f g * hf g)) (pF P) = drC P S x pl n f * sN (fun g => stW P S x f g * hf g) (pF P) := sN_mul _ _ _
    rw [e3]
    congr 1
    have e4 : sN (fun g => stW P S x f g * hf g) (pF P) = sN (fun g => (x * hf g) * (if g = stp P S true f then 1 else 0) + ((10 - x) * hf g) * (if g = stp P S false f then 1 else 0)) (pF P) := sN_congr fun g hg => by
      unfold stW
      rw [Nat.add_mul]
      congr 1
      · by_cases q : stp P S true f = g
        · rw [if_pos q, if_pos q.symm, Nat.mul_one]
        · rw [if_neg q, if_neg (fun z => q z.symm), Nat.mul_zero, Nat.zero_mul]
      · by_cases q : stp P S false f = g
        · rw [if_pos q, if_pos q.symm, Nat.mul_one]
        · rw [if_neg q, if_neg (fun z => q z.symm), Nat.mul_zero, Nat.zero_mul]
    rw [e4, sN_add, sN_pick (fun g => x * hf g), sN_pick (fun g => (10 - x) * hf g), if_pos (stp_lt O hf'), if_pos (stp_lt O hf'), Nat.add_comm]
def upS (P : XP) (S : XT) (x pl n f : Nat) : Nat → Nat := sN (fun set => if pth P S pl set n = f then wgt x set n else 0)
theorem upS_eq {P : XP} {S : XT} (O : POK P) {x pl n f : Nat} (hx : x ≤ 10) (hp : pl < pF P) (hf : f < pF P) : upS P S x pl n f (2 ^ n) = drC P S x pl n f := by
  have h := dr_all O hx hp (S := S) n (fun g => if g = f then 1 else 0)
  rw [sN_pick (fun g => drC P S x pl n g), if_pos hf] at h
  rw [← h]
  exact sN_congr fun set _ => by
    by_cases q : pth P S pl set n = f
    · rw [if_pos q, if_pos q, Nat.mul_one]
    · rw [if_neg q, if_neg q, Nat.mul_zero]
/-! lowest terms -/
theorem p5_odd (q : Nat) : 5 ^ q % 2 = 1 := by
  induction q with
  | zero => rfl
  | succ q ih => rw [Nat.pow_succ]; omega
theorem p2_five (p : Nat) : 2 ^ p % 5 ≠ 0 := by
  induction p with
  | zero => decide
  | succ p ih => rw [Nat.pow_succ]; omega
def rdI (A B n i : Nat) (r : Nat × Nat) : Prop := ∃ p q d, r.2 = 2 ^ p * 5 ^ q ∧ A = r.1 * d ∧ B = r.2 * d ∧ (p + i ≤ n ∨ r.1 % 2 = 1) ∧ (q + i ≤ n ∨ r.1 % 5 ≠ 0)
theorem rdI_step {A B n i : Nat} {r : Nat × Nat} (hi : i < n) (H : rdI A B n i r) : rdI A B n (i + 1) (r5P (r2P r)) := by
  obtain ⟨p, q, d, h1, h2, h3, h4, h5⟩ := H
  -- by 2
  have g2 : ∃ p q d, (r2P r).2 = 2 ^ p * 5 ^ q ∧ A = (r2P r).1 * d ∧ B = (r2P r).2 * d ∧ (p + (i + 1) ≤ n ∨ (r2P r).1 % 2 = 1) ∧ (q + i ≤ n ∨ (r2P r).1 % 5 ≠ 0) := by
    unfold r2P
    by_cases y : r.1 % 2 = 0 ∧ r.2 % 2 = 0
    · rw [if_pos y]
      cases p with
      | zero =>
        have := p5_odd q
        rw [Nat.pow_zero, Nat.one_mul] at h1
        rw [h1] at y
        omega
      | succ p =>
        have e : r.2 = 2 * (2 ^ p * 5 ^ q) := by rw [h1, Nat.pow_succ, Nat.mul_comm (2 ^ p) 2, Nat.mul_assoc]
        have e2 : r.2 / 2 = 2 ^ p * 5 ^ q := by rw [e]; omega
        have e1 : r.1 = 2 * (r.1 / 2) := by omega
        refine ⟨p, q, 2 * d, e2, ?_, ?_, ?_, ?_⟩
        · rw [h2]
          show r.1 * d = r.1 / 2 * (2 * d)
          rw [← Nat.mul_assoc, Nat.mul_comm (r.1 / 2) 2, ← e1]
        · rw [h3]
          show r.2 * d = r.2 / 2 * (2 * d)
          rw [← Nat.mul_assoc, Nat.mul_comm (r.2 / 2) 2, show 2 * (r.2 / 2) = r.2 by omega]
        · rcases h4 with z | z
          · left; omega
          · omega
        · rcases h5 with z | z
          · left; exact z
          · right
            show r.1 / 2 % 5 ≠ 0
            omega
    · rw [if_neg y]
      by_cases o : r.1 % 2 = 1
      · exact ⟨p, q, d, h1, h2, h3, Or.inr o, h5⟩
      · have b2 : r.2 % 2 ≠ 0 := fun z => y ⟨by omega, z⟩
        cases p with
        | zero => exact ⟨0, q, d, h1, h2, h3, Or.inl (by omega), h5⟩
        | succ p =>
          have e : r.2 = 2 * (2 ^ p * 5 ^ q) := by rw [h1, Nat.pow_succ, Nat.mul_comm (2 ^ p) 2, Nat.mul_assoc]
          omega
  clear h1 h2 h3 h4 h5
  generalize r2P r = r at g2 ⊢
  obtain ⟨p, q, d, h1, h2, h3, h4, h5⟩ := g2
  unfold r5P rdI
  by_cases y : r.1 % 5 = 0 ∧ r.2 % 5 = 0
  · rw [if_pos y]
    cases q with
    | zero =>
      have := p2_five p
      rw [Nat.pow_zero, Nat.mul_one] at h1
      rw [h1] at y
      omega
    | succ q =>
      have e : r.2 = 5 * (2 ^ p * 5 ^ q) := by rw [h1, Nat.pow_succ, Nat.mul_comm (5 ^ q) 5, ← Nat.mul_assoc, Nat.mul_comm (2 ^ p) 5, Nat.mul_assoc]
      have e2 : r.2 / 5 = 2 ^ p * 5 ^ q := by rw [e]; omega
      have e1 : r.1 = 5 * (r.1 / 5) := by omega
      refine ⟨p, q, 5 * d, e2, ?_, ?_, ?_, ?_⟩
      · rw [h2]
        show r.1 * d = r.1 / 5 * (5 * d)
        rw [← Nat.mul_assoc, Nat.mul_comm (r.1 / 5) 5, ← e1]
      · rw [h3]
        show r.2 * d = r.2 / 5 * (5 * d)
        rw [← Nat.mul_assoc, Nat.mul_comm (r.2 / 5) 5, show 5 * (r.2 / 5) = r.2 by omega]
      · rcases h4 with z | z
        · left; exact z
        · right
          show r.1 / 5 % 2 = 1
          omega
      · rcases h5 with z | z
        · left; omega
        · omega
  · rw [if_neg y]
    by_cases o : r.1 % 5 ≠ 0
    · exact ⟨p, q, d, h1, h2, h3, h4, Or.inr o⟩
    · have b2 : r.2 % 5 ≠ 0 := fun z => y ⟨by omega, z⟩
      cases q with
      | zero => exact ⟨p, 0, d, h1, h2, h3, h4, Or.inl (by omega)⟩
      | succ q =>
        have e : r.2 = 5 * (2 ^ p * 5 ^ q) := by rw [h1, Nat.pow_succ, Nat.mul_comm (5 ^ q) 5, ← Nat.mul_assoc, Nat.mul_comm (2 ^ p) 5, Nat.mul_assoc]
        omega
theorem gcd2 {a : Nat} (h : a % 2 = 1) : Nat.Coprime a 2 := by
  show Nat.gcd a 2 = 1
  rw [Nat.gcd_comm, Nat.gcd_rec, h]
  decide
theorem gcd5 {a : Nat} (h : a % 5 ≠ 0) : Nat.Coprime a 5 := by
  show Nat.gcd a 5 = 1
  rw [Nat.gcd_comm, Nat.gcd_rec]
  have : a % 5 = 1 ∨ a % 5 = 2 ∨ a % 5 = 3 ∨ a % 5 = 4 := by omega
  rcases this with e | e | e | e <;> rw [e] <;> decide
theorem rdP_gcd (A n : Nat) : (rdP n (A, 10 ^ n)).1 = A / Nat.gcd A (10 ^ n) ∧ (rdP n (A, 10 ^ n)).2 = 10 ^ n / Nat.gcd A (10 ^ n) := by
  have key : ∀ i, i ≤ n → rdI A (10 ^ n) n i (rdP i (A, 10 ^ n)) := by
    intro i
    induction i with
    | zero =>
      intro _
      refine ⟨n, n, 1, ?_, ?_, ?_, Or.inl (by omega), Or.inl (by omega)⟩
      · show 10 ^ n = 2 ^ n * 5 ^ n
        rw [← Nat.mul_pow]
      · exact (Nat.mul_one A).symm
      · exact (Nat.mul_one (10 ^ n)).symm
    | succ i ih => intro hi; exact rdI_step (by omega) (ih (by omega))
  obtain ⟨p, q, d, h1, h2, h3, h4, h5⟩ := key n (Nat.le_refl _)
  generalize rdP n (A, 10 ^ n) = r at h1 h2 h3 h4 h5 ⊢
  have hpos : 0 < 10 ^ n := Nat.pow_pos (by decide)
  have hd : 0 < d := by
    rcases Nat.eq_zero_or_pos d with z | z
    · rw [z, Nat.mul_zero] at h3; omega
    · exact z
  have c2 : Nat.Coprime r.1 (2 ^ p) := by
    rcases h4 with z | z
    · have : p = 0 := by omega
      rw [this, Nat.pow_zero]
      exact Nat.coprime_one_right r.1
    · exact Nat.Coprime.pow_right p (gcd2 z)
  have c5 : Nat.Coprime r.1 (5 ^ q) := by
    rcases h5 with z | z
    · have : q = 0 := by omega
      rw [this, Nat.pow_zero]
      exact Nat.coprime_one_right r.1
    · exact Nat.Coprime.pow_right q (gcd5 z)
  have cc : Nat.gcd r.1 r.2 = 1 := by rw [h1]; exact Nat.Coprime.mul_right c2 c5
  have g : Nat.gcd A (10 ^ n) = d := by
    rw [h2, h3, Nat.gcd_mul_right, cc, Nat.one_mul]
  rw [g]
  constructor
  · rw [h2, Nat.mul_div_cancel _ hd]
  · rw [h3, Nat.mul_div_cancel _ hd]
section DG
variable {h : XH} {Y : XSy} {c : Nat} {P : XP} {S : XT} {f : Nat → Int32}
/-- Euclid's loop -/
theorem gcd_r (v0 v1 v2 v3 v4 v5 v6 v11 v12 : Option Value) (x7 : Int32) : ∀ (k a b : Nat) (u : Option Value), b < 2 ^ k → a < 2 ^ 31 → b < 2 ^ 31 → k ≤ 31 → ∃ u' : Option Value, lpR (2 * k) lc_X10_drunk_4 la_X10_drunk_4 lu_X10_drunk_4 [v0, v1, v2, v3, v4, v5, v6, some (.int x7), some (.int (nI a)), some (.int (nI b)), u, v11, v12] h (none, [v0, v1, v2, v3, v4, v5, v6, some (.int x7), some (.int (nI (Nat.gcd a b))), some (.int (nI 0)), u', v11, v12], h) := by
  have out : ∀ (a : Nat) (u : Option Value), s_step lc_X10_drunk_4 la_X10_drunk_4 lu_X10_drunk_4 [v0, v1, v2, v3, v4, v5, v6, some (.int x7), some (.int (nI a)), some (.int (nI 0)), u, v11, v12] h = some (.inl (none, [v0, v1, v2, v3, v4, v5, v6, some (.int x7), some (.int (nI a)), some (.int (nI 0)), u, v11, v12], h)) := fun a u => by
    refine s_step_end ?_
    simp only [lc_X10_drunk_4, x_out, s_seq, s_ite, s_ret, s_retZ, s_retV, s_iasg, s_aasg, s_lasg, s_inc, s_put, s_putop, s_ast, s_astop, s_exp, s_call, s_skip, s_brk, s_cont, s_oinit, e_lit, e_long, e_il, e_al, e_ll, e_bin, e_un, e_fld, e_ald, e_tern, e_call, e_alen, b_cmp, b_cmp0, b_lcmp, b_and, b_or, b_not, o_add, o_sub, o_mul, o_and, o_or, o_xor, o_shl, o_shr, o_neg, o_i2l, o_l2i, o_i2c, r_eq, r_ne, r_lt, r_ge, r_gt, r_le, r_eq0, r_ne0, r_lt0, r_ge0, r_gt0, r_le0, x_fld, x_int, x_ref, x_long, x_args, x_nar, xKd, xst1, xst2, xlg, Option.bind_some, Option.bind_none, Option.map_some, Option.map_none, List.getElem?_cons_zero, List.getElem?_cons_succ, List.set_cons_zero, List.set_cons_succ, List.length_cons, List.length_nil, List.length_map, List.length_range, List.length_set, decide_eq_true_eq, if_true, if_false, reduceIte, reduceCtorEq, Bool.not_true, Bool.not_false, Bool.false_eq_true, x_ix_nI, ax_get, ax_set, e_aald, s_aast, true_and, and_true, ite_true, ite_false, ↓bI_01, bI_eq0, bI_eq1, bool_or, tern_pure, and_pure, or_pure, bI_def, bne_t, ndf, decide_not, Bool.decide_eq_true, Bool.decide_and, Bool.decide_or, Nat.reduceEqDiff, Nat.reduceAdd, Nat.reduceMul, Nat.reduceSub, Nat.reduceLT, Nat.reduceLeDiff, or_false, false_or, or_true, true_or, and_false, false_and, Bool.or_eq_true, Bool.and_eq_true, Bool.or_false, Bool.or_true, Bool.true_or, Bool.false_or, Bool.and_true, Bool.and_false, Bool.true_and, Bool.false_and, decide_true, decide_false, not_true_eq_false, not_false_eq_true, nI_0, eq_self]
  have on : ∀ (a b : Nat) (u : Option Value), 0 < b → a < 2 ^ 31 → b < 2 ^ 31 → s_step lc_X10_drunk_4 la_X10_drunk_4 lu_X10_drunk_4 [v0, v1, v2, v3, v4, v5, v6, some (.int x7), some (.int (nI a)), some (.int (nI b)), u, v11, v12] h = some (.inr ([v0, v1, v2, v3, v4, v5, v6, some (.int x7), some (.int (nI b)), some (.int (nI (a % b))), some (.int (nI (a % b))), v11, v12], h)) := fun a b u hb ha hb2 => by
    have er : nI a - nI a / nI b * nI b = nI (a % b) := nI_r ha hb hb2
    have z0 : (nI b = 0) = False := by rw [nI_small hb2]; exact eq_false (by omega)
    refine s_step_on (h0 := h) (h1 := h) (env1 := [v0, v1, v2, v3, v4, v5, v6, some (.int x7), some (.int (nI b)), some (.int (nI (a % b))), some (.int (nI (a % b))), v11, v12]) ?_ ?_ rfl
    · simp only [lc_X10_drunk_4, x_out, s_seq, s_ite, s_ret, s_retZ, s_retV, s_iasg, s_aasg, s_lasg, s_inc, s_put, s_putop, s_ast, s_astop, s_exp, s_call, s_skip, s_brk, s_cont, s_oinit, e_lit, e_long, e_il, e_al, e_ll, e_bin, e_un, e_fld, e_ald, e_tern, e_call, e_alen, b_cmp, b_cmp0, b_lcmp, b_and, b_or, b_not, o_add, o_sub, o_mul, o_and, o_or, o_xor, o_shl, o_shr, o_neg, o_i2l, o_l2i, o_i2c, r_eq, r_ne, r_lt, r_ge, r_gt, r_le, r_eq0, r_ne0, r_lt0, r_ge0, r_gt0, r_le0, x_fld, x_int, x_ref, x_long, x_args, x_nar, xKd, xst1, xst2, xlg, Option.bind_some, Option.bind_none, Option.map_some, Option.map_none, List.getElem?_cons_zero, List.getElem?_cons_succ, List.set_cons_zero, List.set_cons_succ, List.length_cons, List.length_nil, List.length_map, List.length_range, List.length_set, decide_eq_true_eq, if_true, if_false, reduceIte, reduceCtorEq, Bool.not_true, Bool.not_false, Bool.false_eq_true, x_ix_nI, ax_get, ax_set, e_aald, s_aast, true_and, and_true, ite_true, ite_false, ↓bI_01, bI_eq0, bI_eq1, bool_or, tern_pure, and_pure, or_pure, bI_def, bne_t, ndf, decide_not, Bool.decide_eq_true, Bool.decide_and, Bool.decide_or, Nat.reduceEqDiff, Nat.reduceAdd, Nat.reduceMul, Nat.reduceSub, Nat.reduceLT, Nat.reduceLeDiff, or_false, false_or, or_true, true_or, and_false, false_and, Bool.or_eq_true, Bool.and_eq_true, Bool.or_false, Bool.or_true, Bool.true_or, Bool.false_or, Bool.and_true, Bool.and_false, Bool.true_and, Bool.false_and, decide_true, decide_false, not_true_eq_false, not_false_eq_true, z0]
    · simp only [la_X10_drunk_4, x_out, s_seq, s_ite, s_ret, s_retZ, s_retV, s_iasg, s_aasg, s_lasg, s_inc, s_put, s_putop, s_ast, s_astop, s_exp, s_call, s_skip, s_brk, s_cont, s_oinit, e_lit, e_long, e_il, e_al, e_ll, e_bin, e_un, e_fld, e_ald, e_tern, e_call, e_alen, b_cmp, b_cmp0, b_lcmp, b_and, b_or, b_not, o_add, o_sub, o_mul, o_and, o_or, o_xor, o_shl, o_shr, o_neg, o_i2l, o_l2i, o_i2c, r_eq, r_ne, r_lt, r_ge, r_gt, r_le, r_eq0, r_ne0, r_lt0, r_ge0, r_gt0, r_le0, x_fld, x_int, x_ref, x_long, x_args, x_nar, xKd, xst1, xst2, xlg, Option.bind_some, Option.bind_none, Option.map_some, Option.map_none, List.getElem?_cons_zero, List.getElem?_cons_succ, List.set_cons_zero, List.set_cons_succ, List.length_cons, List.length_nil, List.length_map, List.length_range, List.length_set, decide_eq_true_eq, if_true, if_false, reduceIte, reduceCtorEq, Bool.not_true, Bool.not_false, Bool.false_eq_true, x_ix_nI, ax_get, ax_set, e_aald, s_aast, true_and, and_true, ite_true, ite_false, ↓bI_01, bI_eq0, bI_eq1, bool_or, tern_pure, and_pure, or_pure, bI_def, bne_t, ndf, decide_not, Bool.decide_eq_true, Bool.decide_and, Bool.decide_or, Nat.reduceEqDiff, Nat.reduceAdd, Nat.reduceMul, Nat.reduceSub, Nat.reduceLT, Nat.reduceLeDiff, or_false, false_or, or_true, true_or, and_false, false_and, Bool.or_eq_true, Bool.and_eq_true, Bool.or_false, Bool.or_true, Bool.true_or, Bool.false_or, Bool.and_true, Bool.and_false, Bool.true_and, Bool.false_and, decide_true, decide_false, not_true_eq_false, not_false_eq_true, o_rem, z0, er]
  intro k
  induction k with
  | zero =>
    intro a b u hb ha hb2 _
    have : b = 0 := by simpa using hb
    subst this
    rw [Nat.gcd_zero_right]
    exact ⟨u, lpR_out (out a u)⟩
  | succ k ih =>
    intro a b u hb ha hb2 hk
    by_cases q : b = 0
    · subst q
      rw [Nat.gcd_zero_right]
      exact ⟨u, lpR_mono (lpR_out (out a u)) (by omega)⟩
    · have hm := Nat.mod_lt a (show b > 0 by omega)
      have g1 : Nat.gcd a b = Nat.gcd b (a % b) := by rw [Nat.gcd_comm a b, Nat.gcd_rec b a, Nat.gcd_comm]
      by_cases q2 : a % b = 0
      · have s1 := on a b u (by omega) ha hb2
        rw [q2] at s1
        rw [g1, q2, Nat.gcd_zero_right]
        exact ⟨_, lpR_mono (lpR_step s1 (lpR_out (out b _))) (by omega)⟩
      · have s1 := on a b u (by omega) ha hb2
        have hm2 := Nat.mod_lt b (show a % b > 0 by omega)
        have s2 := on b (a % b) (some (.int (nI (a % b)))) (by omega) hb2 (by omega)
        have half : b % (a % b) < 2 ^ k := by
          have e := Nat.div_add_mod b (a % b)
          have d1 : 1 ≤ b / (a % b) := Nat.div_pos (by omega) (by omega)
          have d2 : a % b * 1 ≤ a % b * (b / (a % b)) := Nat.mul_le_mul_left _ d1
          rw [Nat.pow_succ] at hb
          omega
        have g2 : Nat.gcd b (a % b) = Nat.gcd (a % b) (b % (a % b)) := by rw [Nat.gcd_comm b (a % b), Nat.gcd_rec (a % b) b, Nat.gcd_comm]
        obtain ⟨u', r⟩ := ih (a % b) (b % (a % b)) (some (.int (nI (b % (a % b))))) half (by omega) (by omega) (by omega)
        rw [g1, g2]
        exact ⟨u', lpR_mono (lpR_step s1 (lpR_step s2 r)) (by omega)⟩
theorem walk_r (V : RV h P f) (O : POK P) (B : Bk f 0 P S) (T : TOK P c S) {pl set n x : Nat} (hp : pl < pF P) (hs : set < 512) (hn : n ≤ 8) (hx : x ≤ 10) (v1 v2 v5 v6 v7 : Option Value) (u12 : Option Value) : ∃ u12', s_loop 1000 lc_X10_drunk_2 la_X10_drunk_2 lu_X10_drunk_2 [some (.ref 106), v1, v2, some (.int (nI n)), some (.int (nI x)), v5, v6, v7, some (.int (nI set)), some (.int (nI 1)), some (.int (nI pl)), some (.int (nI 0)), u12] h = some (none, [some (.ref 106), v1, v2, some (.int (nI n)), some (.int (nI x)), v5, v6, v7, some (.int (nI set)), some (.int (nI (wgt x set n))), some (.int (nI (pth P S pl set n))), some (.int (nI n)), u12'], h) := by
  have o2 := O.2.1
  obtain ⟨env', h', e1, ⟨u', rfl⟩, rfl⟩ := s_loop_J (c := lc_X10_drunk_2) (a := la_X10_drunk_2) (u := lu_X10_drunk_2) (h := h) (env := [some (.ref 106), v1, v2, some (.int (nI n)), some (.int (nI x)), v5, v6, v7, some (.int (nI set)), some (.int (nI 1)), some (.int (nI pl)), some (.int (nI 0)), u12]) (fun e env k => (∃ u, env = [some (.ref 106), v1, v2, some (.int (nI n)), some (.int (nI x)), v5, v6, v7, some (.int (nI set)), some (.int (nI (wgt x set e))), some (.int (nI (pth P S pl set e))), some (.int (nI e)), u]) ∧ k = h) n 1000 (by omega) ⟨⟨u12, rfl⟩, rfl⟩
    (fun e env k he hJ => by
      obtain ⟨⟨u, rfl⟩, rfl⟩ := hJ
      have st1 : wgt x set (e + 1) = wgt x set e * (if set.testBit e = true then x else 10 - x) := rfl
      have st2 : pth P S pl set (e + 1) = stp P S (set.testBit e) (pth P S pl set e) := rfl
      have hat := pth_lt (S := S) O (set := set) hp e
      generalize wgt x set (e + 1) = w' at st1 ⊢
      generalize wgt x set e = w at st1 ⊢
      generalize pth P S pl set (e + 1) = p' at st2 ⊢
      generalize pth P S pl set e = at_ at st2 hat ⊢
      have hh := has_x k hs (k := e) (by omega)
      generalize set.testBit e = tb at st1 st2 hh
      have ma := manyAt_r (r := 0) V O (by omega) B T (g := at_) (by omega)
      rw [nI_0] at ma
      have cl := cnt_le (sOp P S at_) (pN P)
      have o5 := O.2.2.2.2.1
      have tx : (10 : Int32) - nI x = nI (10 - x) := pk_sub (a := 10) (by omega)
      have s1 : (s_iasg 9 (e_bin o_mul (e_il 9) (e_tern (b_cmp0 r_ne0 (e_call m_X10_has [(e_il 8), (e_il 11)])) (e_il 4) (e_bin o_sub (e_lit 10) (e_il 4))))) [some (.ref 106), v1, v2, some (.int (nI n)), some (.int (nI x)), v5, v6, v7, some (.int (nI set)), some (.int (nI w)), some (.int (nI at_)), some (.int (nI e)), u] k = some (none, [some (.ref 106), v1, v2, some (.int (nI n)), some (.int (nI x)), v5, v6, v7, some (.int (nI set)), some (.int (nI w')), some (.int (nI at_)), some (.int (nI e)), u], k) := by
        have cb : (b_cmp0 r_ne0 (e_call m_X10_has [(e_il 8), (e_il 11)])) [some (.ref 106), v1, v2, some (.int (nI n)), some (.int (nI x)), v5, v6, v7, some (.int (nI set)), some (.int (nI w)), some (.int (nI at_)), some (.int (nI e)), u] k = some (tb, k) := by
          simp only [x_out, s_seq, s_ite, s_ret, s_retZ, s_retV, s_iasg, s_aasg, s_lasg, s_inc, s_put, s_putop, s_ast, s_astop, s_exp, s_call, s_skip, s_brk, s_cont, s_oinit, e_lit, e_long, e_il, e_al, e_ll, e_bin, e_un, e_fld, e_ald, e_tern, e_call, e_alen, b_cmp, b_cmp0, b_lcmp, b_and, b_or, b_not, o_add, o_sub, o_mul, o_and, o_or, o_xor, o_shl, o_shr, o_neg, o_i2l, o_l2i, o_i2c, r_eq, r_ne, r_lt, r_ge, r_gt, r_le, r_eq0, r_ne0, r_lt0, r_ge0, r_gt0, r_le0, x_fld, x_int, x_ref, x_long, x_args, x_nar, xKd, xst1, xst2, xlg, Option.bind_some, Option.bind_none, Option.map_some, Option.map_none, List.getElem?_cons_zero, List.getElem?_cons_succ, List.set_cons_zero, List.set_cons_succ, List.length_cons, List.length_nil, List.length_map, List.length_range, List.length_set, decide_eq_true_eq, if_true, if_false, reduceIte, reduceCtorEq, Bool.not_true, Bool.not_false, Bool.false_eq_true, x_ix_nI, ax_get, ax_set, e_aald, s_aast, true_and, and_true, ite_true, ite_false, ↓bI_01, bI_eq0, bI_eq1, bool_or, tern_pure, and_pure, or_pure, bI_def, bne_t, ndf, decide_not, Bool.decide_eq_true, Bool.decide_and, Bool.decide_or, Nat.reduceEqDiff, Nat.reduceAdd, Nat.reduceMul, Nat.reduceSub, Nat.reduceLT, Nat.reduceLeDiff, or_false, false_or, or_true, true_or, and_false, false_and, Bool.or_eq_true, Bool.and_eq_true, Bool.or_false, Bool.or_true, Bool.true_or, Bool.false_or, Bool.and_true, Bool.and_false, Bool.true_and, Bool.false_and, decide_true, decide_false, not_true_eq_false, not_false_eq_true, hh]
        have ct : (e_tern (b_cmp0 r_ne0 (e_call m_X10_has [(e_il 8), (e_il 11)])) (e_il 4) (e_bin o_sub (e_lit 10) (e_il 4))) [some (.ref 106), v1, v2, some (.int (nI n)), some (.int (nI x)), v5, v6, v7, some (.int (nI set)), some (.int (nI w)), some (.int (nI at_)), some (.int (nI e)), u] k = some (.int (nI (if tb = true then x else 10 - x)), k) := by
          rw [e_tern_p cb]
          cases tb with
          | true => rw [if_pos rfl, if_pos rfl]; rfl
          | false =>
            rw [if_neg Bool.false_ne_true, if_neg Bool.false_ne_true]
            simp only [x_out, s_seq, s_ite, s_ret, s_retZ, s_retV, s_iasg, s_aasg, s_lasg, s_inc, s_put, s_putop, s_ast, s_astop, s_exp, s_call, s_skip, s_brk, s_cont, s_oinit, e_lit, e_long, e_il, e_al, e_ll, e_bin, e_un, e_fld, e_ald, e_tern, e_call, e_alen, b_cmp, b_cmp0, b_lcmp, b_and, b_or, b_not, o_add, o_sub, o_mul, o_and, o_or, o_xor, o_shl, o_shr, o_neg, o_i2l, o_l2i, o_i2c, r_eq, r_ne, r_lt, r_ge, r_gt, r_le, r_eq0, r_ne0, r_lt0, r_ge0, r_gt0, r_le0, x_fld, x_int, x_ref, x_long, x_args, x_nar, xKd, xst1, xst2, xlg, Option.bind_some, Option.bind_none, Option.map_some, Option.map_none, List.getElem?_cons_zero, List.getElem?_cons_succ, List.set_cons_zero, List.set_cons_succ, List.length_cons, List.length_nil, List.length_map, List.length_range, List.length_set, decide_eq_true_eq, if_true, if_false, reduceIte, reduceCtorEq, Bool.not_true, Bool.not_false, Bool.false_eq_true, x_ix_nI, ax_get, ax_set, e_aald, s_aast, true_and, and_true, ite_true, ite_false, ↓bI_01, bI_eq0, bI_eq1, bool_or, tern_pure, and_pure, or_pure, bI_def, bne_t, ndf, decide_not, Bool.decide_eq_true, Bool.decide_and, Bool.decide_or, Nat.reduceEqDiff, Nat.reduceAdd, Nat.reduceMul, Nat.reduceSub, Nat.reduceLT, Nat.reduceLeDiff, or_false, false_or, or_true, true_or, and_false, false_and, Bool.or_eq_true, Bool.and_eq_true, Bool.or_false, Bool.or_true, Bool.true_or, Bool.false_or, Bool.and_true, Bool.and_false, Bool.true_and, Bool.false_and, decide_true, decide_false, not_true_eq_false, not_false_eq_true, tx]
        have cm : (e_bin o_mul (e_il 9) (e_tern (b_cmp0 r_ne0 (e_call m_X10_has [(e_il 8), (e_il 11)])) (e_il 4) (e_bin o_sub (e_lit 10) (e_il 4)))) [some (.ref 106), v1, v2, some (.int (nI n)), some (.int (nI x)), v5, v6, v7, some (.int (nI set)), some (.int (nI w)), some (.int (nI at_)), some (.int (nI e)), u] k = some (.int (nI w'), k) := by
          rw [st1, ← nI_m]
          simp only [e_bin, e_il, List.getElem?_cons_succ, List.getElem?_cons_zero, Option.bind_some, ct, o_mul, Option.map_some]
        refine s_iasg_p cm ?_
        simp only [x_out, s_seq, s_ite, s_ret, s_retZ, s_retV, s_iasg, s_aasg, s_lasg, s_inc, s_put, s_putop, s_ast, s_astop, s_exp, s_call, s_skip, s_brk, s_cont, s_oinit, e_lit, e_long, e_il, e_al, e_ll, e_bin, e_un, e_fld, e_ald, e_tern, e_call, e_alen, b_cmp, b_cmp0, b_lcmp, b_and, b_or, b_not, o_add, o_sub, o_mul, o_and, o_or, o_xor, o_shl, o_shr, o_neg, o_i2l, o_l2i, o_i2c, r_eq, r_ne, r_lt, r_ge, r_gt, r_le, r_eq0, r_ne0, r_lt0, r_ge0, r_gt0, r_le0, x_fld, x_int, x_ref, x_long, x_args, x_nar, xKd, xst1, xst2, xlg, Option.bind_some, Option.bind_none, Option.map_some, Option.map_none, List.getElem?_cons_zero, List.getElem?_cons_succ, List.set_cons_zero, List.set_cons_succ, List.length_cons, List.length_nil, List.length_map, List.length_range, List.length_set, decide_eq_true_eq, if_true, if_false, reduceIte, reduceCtorEq, Bool.not_true, Bool.not_false, Bool.false_eq_true, x_ix_nI, ax_get, ax_set, e_aald, s_aast, true_and, and_true, ite_true, ite_false, ↓bI_01, bI_eq0, bI_eq1, bool_or, tern_pure, and_pure, or_pure, bI_def, bne_t, ndf, decide_not, Bool.decide_eq_true, Bool.decide_and, Bool.decide_or, Nat.reduceEqDiff, Nat.reduceAdd, Nat.reduceMul, Nat.reduceSub, Nat.reduceLT, Nat.reduceLeDiff, or_false, false_or, or_true, true_or, and_false, false_and, Bool.or_eq_true, Bool.and_eq_true, Bool.or_false, Bool.or_true, Bool.true_or, Bool.false_or, Bool.and_true, Bool.and_false, Bool.true_and, Bool.false_and, decide_true, decide_false, not_true_eq_false, not_false_eq_true]
      have s2 : (s_iasg 12 (e_call m_X10_manyAt [(e_al 0), (e_lit 0), (e_il 10)])) [some (.ref 106), v1, v2, some (.int (nI n)), some (.int (nI x)), v5, v6, v7, some (.int (nI set)), some (.int (nI w')), some (.int (nI at_)), some (.int (nI e)), u] k = some (none, [some (.ref 106), v1, v2, some (.int (nI n)), some (.int (nI x)), v5, v6, v7, some (.int (nI set)), some (.int (nI w')), some (.int (nI at_)), some (.int (nI e)), some (.int (nI (cnt (sOp P S at_) (pN P))))], k) := by
        simp only [x_out, s_seq, s_ite, s_ret, s_retZ, s_retV, s_iasg, s_aasg, s_lasg, s_inc, s_put, s_putop, s_ast, s_astop, s_exp, s_call, s_skip, s_brk, s_cont, s_oinit, e_lit, e_long, e_il, e_al, e_ll, e_bin, e_un, e_fld, e_ald, e_tern, e_call, e_alen, b_cmp, b_cmp0, b_lcmp, b_and, b_or, b_not, o_add, o_sub, o_mul, o_and, o_or, o_xor, o_shl, o_shr, o_neg, o_i2l, o_l2i, o_i2c, r_eq, r_ne, r_lt, r_ge, r_gt, r_le, r_eq0, r_ne0, r_lt0, r_ge0, r_gt0, r_le0, x_fld, x_int, x_ref, x_long, x_args, x_nar, xKd, xst1, xst2, xlg, Option.bind_some, Option.bind_none, Option.map_some, Option.map_none, List.getElem?_cons_zero, List.getElem?_cons_succ, List.set_cons_zero, List.set_cons_succ, List.length_cons, List.length_nil, List.length_map, List.length_range, List.length_set, decide_eq_true_eq, if_true, if_false, reduceIte, reduceCtorEq, Bool.not_true, Bool.not_false, Bool.false_eq_true, x_ix_nI, ax_get, ax_set, e_aald, s_aast, true_and, and_true, ite_true, ite_false, ↓bI_01, bI_eq0, bI_eq1, bool_or, tern_pure, and_pure, or_pure, bI_def, bne_t, ndf, decide_not, Bool.decide_eq_true, Bool.decide_and, Bool.decide_or, Nat.reduceEqDiff, Nat.reduceAdd, Nat.reduceMul, Nat.reduceSub, Nat.reduceLT, Nat.reduceLeDiff, or_false, false_or, or_true, true_or, and_false, false_and, Bool.or_eq_true, Bool.and_eq_true, Bool.or_false, Bool.or_true, Bool.true_or, Bool.false_or, Bool.and_true, Bool.and_false, Bool.true_and, Bool.false_and, decide_true, decide_false, not_true_eq_false, not_false_eq_true, ma]
      have s3 : (s_iasg 10 (e_tern (b_cmp0 r_eq0 (e_il 12)) (e_il 10) (e_call m_X10_otherEnd [(e_al 0), (e_call m_X10_nthAt [(e_al 0), (e_lit 0), (e_il 10), (e_tern (b_cmp0 r_ne0 (e_call m_X10_has [(e_il 8), (e_il 11)])) (e_lit 0) (e_bin o_sub (e_il 12) (e_lit 1)))]), (e_il 10)]))) [some (.ref 106), v1, v2, some (.int (nI n)), some (.int (nI x)), v5, v6, v7, some (.int (nI set)), some (.int (nI w')), some (.int (nI at_)), some (.int (nI e)), some (.int (nI (cnt (sOp P S at_) (pN P))))] k = some (none, [some (.ref 106), v1, v2, some (.int (nI n)), some (.int (nI x)), v5, v6, v7, some (.int (nI set)), some (.int (nI w')), some (.int (nI p')), some (.int (nI e)), some (.int (nI (cnt (sOp P S at_) (pN P))))], k) := by
        by_cases q : cnt (sOp P S at_) (pN P) = 0
        · have pe : p' = at_ := by rw [st2]; unfold stp; rw [if_pos q]
          have q0 : (nI (cnt (sOp P S at_) (pN P)) = 0) = True := by rw [q]; exact eq_true rfl
          have y1 : (b_cmp0 r_eq0 (e_il 12)) [some (.ref 106), v1, v2, some (.int (nI n)), some (.int (nI x)), v5, v6, v7, some (.int (nI set)), some (.int (nI w')), some (.int (nI at_)), some (.int (nI e)), some (.int (nI (cnt (sOp P S at_) (pN P))))] k = some (true, k) := by
            simp only [x_out, s_seq, s_ite, s_ret, s_retZ, s_retV, s_iasg, s_aasg, s_lasg, s_inc, s_put, s_putop, s_ast, s_astop, s_exp, s_call, s_skip, s_brk, s_cont, s_oinit, e_lit, e_long, e_il, e_al, e_ll, e_bin, e_un, e_fld, e_ald, e_tern, e_call, e_alen, b_cmp, b_cmp0, b_lcmp, b_and, b_or, b_not, o_add, o_sub, o_mul, o_and, o_or, o_xor, o_shl, o_shr, o_neg, o_i2l, o_l2i, o_i2c, r_eq, r_ne, r_lt, r_ge, r_gt, r_le, r_eq0, r_ne0, r_lt0, r_ge0, r_gt0, r_le0, x_fld, x_int, x_ref, x_long, x_args, x_nar, xKd, xst1, xst2, xlg, Option.bind_some, Option.bind_none, Option.map_some, Option.map_none, List.getElem?_cons_zero, List.getElem?_cons_succ, List.set_cons_zero, List.set_cons_succ, List.length_cons, List.length_nil, List.length_map, List.length_range, List.length_set, decide_eq_true_eq, if_true, if_false, reduceIte, reduceCtorEq, Bool.not_true, Bool.not_false, Bool.false_eq_true, x_ix_nI, ax_get, ax_set, e_aald, s_aast, true_and, and_true, ite_true, ite_false, ↓bI_01, bI_eq0, bI_eq1, bool_or, tern_pure, and_pure, or_pure, bI_def, bne_t, ndf, decide_not, Bool.decide_eq_true, Bool.decide_and, Bool.decide_or, Nat.reduceEqDiff, Nat.reduceAdd, Nat.reduceMul, Nat.reduceSub, Nat.reduceLT, Nat.reduceLeDiff, or_false, false_or, or_true, true_or, and_false, false_and, Bool.or_eq_true, Bool.and_eq_true, Bool.or_false, Bool.or_true, Bool.true_or, Bool.false_or, Bool.and_true, Bool.and_false, Bool.true_and, Bool.false_and, decide_true, decide_false, not_true_eq_false, not_false_eq_true, q0]
          refine s_iasg_p (x := nI at_) ?_ ?_
          · rw [e_tern_p y1, if_pos rfl]; rfl
          · rw [pe]
            simp only [x_out, s_seq, s_ite, s_ret, s_retZ, s_retV, s_iasg, s_aasg, s_lasg, s_inc, s_put, s_putop, s_ast, s_astop, s_exp, s_call, s_skip, s_brk, s_cont, s_oinit, e_lit, e_long, e_il, e_al, e_ll, e_bin, e_un, e_fld, e_ald, e_tern, e_call, e_alen, b_cmp, b_cmp0, b_lcmp, b_and, b_or, b_not, o_add, o_sub, o_mul, o_and, o_or, o_xor, o_shl, o_shr, o_neg, o_i2l, o_l2i, o_i2c, r_eq, r_ne, r_lt, r_ge, r_gt, r_le, r_eq0, r_ne0, r_lt0, r_ge0, r_gt0, r_le0, x_fld, x_int, x_ref, x_long, x_args, x_nar, xKd, xst1, xst2, xlg, Option.bind_some, Option.bind_none, Option.map_some, Option.map_none, List.getElem?_cons_zero, List.getElem?_cons_succ, List.set_cons_zero, List.set_cons_succ, List.length_cons, List.length_nil, List.length_map, List.length_range, List.length_set, decide_eq_true_eq, if_true, if_false, reduceIte, reduceCtorEq, Bool.not_true, Bool.not_false, Bool.false_eq_true, x_ix_nI, ax_get, ax_set, e_aald, s_aast, true_and, and_true, ite_true, ite_false, ↓bI_01, bI_eq0, bI_eq1, bool_or, tern_pure, and_pure, or_pure, bI_def, bne_t, ndf, decide_not, Bool.decide_eq_true, Bool.decide_and, Bool.decide_or, Nat.reduceEqDiff, Nat.reduceAdd, Nat.reduceMul, Nat.reduceSub, Nat.reduceLT, Nat.reduceLeDiff, or_false, false_or, or_true, true_or, and_false, false_and, Bool.or_eq_true, Bool.and_eq_true, Bool.or_false, Bool.or_true, Bool.true_or, Bool.false_or, Bool.and_true, Bool.and_false, Bool.true_and, Bool.false_and, decide_true, decide_false, not_true_eq_false, not_false_eq_true]
        · have pe : p' = pX P (nth (sOp P S at_) (pN P) (if tb = true then 0 else cnt (sOp P S at_) (pN P) - 1)) at_ := by rw [st2]; unfold stp; rw [if_neg q]
          have q0 : (nI (cnt (sOp P S at_) (pN P)) = 0) = False := by rw [nI_small (by omega)]; exact eq_false q
          have y1 : (b_cmp0 r_eq0 (e_il 12)) [some (.ref 106), v1, v2, some (.int (nI n)), some (.int (nI x)), v5, v6, v7, some (.int (nI set)), some (.int (nI w')), some (.int (nI at_)), some (.int (nI e)), some (.int (nI (cnt (sOp P S at_) (pN P))))] k = some (false, k) := by
            simp only [x_out, s_seq, s_ite, s_ret, s_retZ, s_retV, s_iasg, s_aasg, s_lasg, s_inc, s_put, s_putop, s_ast, s_astop, s_exp, s_call, s_skip, s_brk, s_cont, s_oinit, e_lit, e_long, e_il, e_al, e_ll, e_bin, e_un, e_fld, e_ald, e_tern, e_call, e_alen, b_cmp, b_cmp0, b_lcmp, b_and, b_or, b_not, o_add, o_sub, o_mul, o_and, o_or, o_xor, o_shl, o_shr, o_neg, o_i2l, o_l2i, o_i2c, r_eq, r_ne, r_lt, r_ge, r_gt, r_le, r_eq0, r_ne0, r_lt0, r_ge0, r_gt0, r_le0, x_fld, x_int, x_ref, x_long, x_args, x_nar, xKd, xst1, xst2, xlg, Option.bind_some, Option.bind_none, Option.map_some, Option.map_none, List.getElem?_cons_zero, List.getElem?_cons_succ, List.set_cons_zero, List.set_cons_succ, List.length_cons, List.length_nil, List.length_map, List.length_range, List.length_set, decide_eq_true_eq, if_true, if_false, reduceIte, reduceCtorEq, Bool.not_true, Bool.not_false, Bool.false_eq_true, x_ix_nI, ax_get, ax_set, e_aald, s_aast, true_and, and_true, ite_true, ite_false, ↓bI_01, bI_eq0, bI_eq1, bool_or, tern_pure, and_pure, or_pure, bI_def, bne_t, ndf, decide_not, Bool.decide_eq_true, Bool.decide_and, Bool.decide_or, Nat.reduceEqDiff, Nat.reduceAdd, Nat.reduceMul, Nat.reduceSub, Nat.reduceLT, Nat.reduceLeDiff, or_false, false_or, or_true, true_or, and_false, false_and, Bool.or_eq_true, Bool.and_eq_true, Bool.or_false, Bool.or_true, Bool.true_or, Bool.false_or, Bool.and_true, Bool.and_false, Bool.true_and, Bool.false_and, decide_true, decide_false, not_true_eq_false, not_false_eq_true, q0]
          have pr : nI (cnt (sOp P S at_) (pN P)) - 1 = nI (cnt (sOp P S at_) (pN P) - 1) := pk_sub (b := 1) (by omega)
          have hj : (if tb = true then 0 else cnt (sOp P S at_) (pN P) - 1) < cnt (sOp P S at_) (pN P) := by split <;> omega
          have nt := nthAt_r (r := 0) V O (by omega) B T (g := at_) (by omega) hj
          rw [nI_0] at nt
          obtain ⟨n1, -, -⟩ := nth_spec hj
          have oe := otherEnd_r V O n1 (g := at_) (by omega)
          rw [← pe] at oe
          have cb : (b_cmp0 r_ne0 (e_call m_X10_has [(e_il 8), (e_il 11)])) [some (.ref 106), v1, v2, some (.int (nI n)), some (.int (nI x)), v5, v6, v7, some (.int (nI set)), some (.int (nI w')), some (.int (nI at_)), some (.int (nI e)), some (.int (nI (cnt (sOp P S at_) (pN P))))] k = some (tb, k) := by
            simp only [x_out, s_seq, s_ite, s_ret, s_retZ, s_retV, s_iasg, s_aasg, s_lasg, s_inc, s_put, s_putop, s_ast, s_astop, s_exp, s_call, s_skip, s_brk, s_cont, s_oinit, e_lit, e_long, e_il, e_al, e_ll, e_bin, e_un, e_fld, e_ald, e_tern, e_call, e_alen, b_cmp, b_cmp0, b_lcmp, b_and, b_or, b_not, o_add, o_sub, o_mul, o_and, o_or, o_xor, o_shl, o_shr, o_neg, o_i2l, o_l2i, o_i2c, r_eq, r_ne, r_lt, r_ge, r_gt, r_le, r_eq0, r_ne0, r_lt0, r_ge0, r_gt0, r_le0, x_fld, x_int, x_ref, x_long, x_args, x_nar, xKd, xst1, xst2, xlg, Option.bind_some, Option.bind_none, Option.map_some, Option.map_none, List.getElem?_cons_zero, List.getElem?_cons_succ, List.set_cons_zero, List.set_cons_succ, List.length_cons, List.length_nil, List.length_map, List.length_range, List.length_set, decide_eq_true_eq, if_true, if_false, reduceIte, reduceCtorEq, Bool.not_true, Bool.not_false, Bool.false_eq_true, x_ix_nI, ax_get, ax_set, e_aald, s_aast, true_and, and_true, ite_true, ite_false, ↓bI_01, bI_eq0, bI_eq1, bool_or, tern_pure, and_pure, or_pure, bI_def, bne_t, ndf, decide_not, Bool.decide_eq_true, Bool.decide_and, Bool.decide_or, Nat.reduceEqDiff, Nat.reduceAdd, Nat.reduceMul, Nat.reduceSub, Nat.reduceLT, Nat.reduceLeDiff, or_false, false_or, or_true, true_or, and_false, false_and, Bool.or_eq_true, Bool.and_eq_true, Bool.or_false, Bool.or_true, Bool.true_or, Bool.false_or, Bool.and_true, Bool.and_false, Bool.true_and, Bool.false_and, decide_true, decide_false, not_true_eq_false, not_false_eq_true, hh]
          have ct : (e_tern (b_cmp0 r_ne0 (e_call m_X10_has [(e_il 8), (e_il 11)])) (e_lit 0) (e_bin o_sub (e_il 12) (e_lit 1))) [some (.ref 106), v1, v2, some (.int (nI n)), some (.int (nI x)), v5, v6, v7, some (.int (nI set)), some (.int (nI w')), some (.int (nI at_)), some (.int (nI e)), some (.int (nI (cnt (sOp P S at_) (pN P))))] k = some (.int (nI (if tb = true then 0 else cnt (sOp P S at_) (pN P) - 1)), k) := by
            rw [e_tern_p cb]
            cases tb with
            | true => rw [if_pos rfl, if_pos rfl]; rfl
            | false =>
              rw [if_neg Bool.false_ne_true, if_neg Bool.false_ne_true]
              simp only [x_out, s_seq, s_ite, s_ret, s_retZ, s_retV, s_iasg, s_aasg, s_lasg, s_inc, s_put, s_putop, s_ast, s_astop, s_exp, s_call, s_skip, s_brk, s_cont, s_oinit, e_lit, e_long, e_il, e_al, e_ll, e_bin, e_un, e_fld, e_ald, e_tern, e_call, e_alen, b_cmp, b_cmp0, b_lcmp, b_and, b_or, b_not, o_add, o_sub, o_mul, o_and, o_or, o_xor, o_shl, o_shr, o_neg, o_i2l, o_l2i, o_i2c, r_eq, r_ne, r_lt, r_ge, r_gt, r_le, r_eq0, r_ne0, r_lt0, r_ge0, r_gt0, r_le0, x_fld, x_int, x_ref, x_long, x_args, x_nar, xKd, xst1, xst2, xlg, Option.bind_some, Option.bind_none, Option.map_some, Option.map_none, List.getElem?_cons_zero, List.getElem?_cons_succ, List.set_cons_zero, List.set_cons_succ, List.length_cons, List.length_nil, List.length_map, List.length_range, List.length_set, decide_eq_true_eq, if_true, if_false, reduceIte, reduceCtorEq, Bool.not_true, Bool.not_false, Bool.false_eq_true, x_ix_nI, ax_get, ax_set, e_aald, s_aast, true_and, and_true, ite_true, ite_false, ↓bI_01, bI_eq0, bI_eq1, bool_or, tern_pure, and_pure, or_pure, bI_def, bne_t, ndf, decide_not, Bool.decide_eq_true, Bool.decide_and, Bool.decide_or, Nat.reduceEqDiff, Nat.reduceAdd, Nat.reduceMul, Nat.reduceSub, Nat.reduceLT, Nat.reduceLeDiff, or_false, false_or, or_true, true_or, and_false, false_and, Bool.or_eq_true, Bool.and_eq_true, Bool.or_false, Bool.or_true, Bool.true_or, Bool.false_or, Bool.and_true, Bool.and_false, Bool.true_and, Bool.false_and, decide_true, decide_false, not_true_eq_false, not_false_eq_true, pr]
          generalize hE : ([some (.ref 106), v1, v2, some (.int (nI n)), some (.int (nI x)), v5, v6, v7, some (.int (nI set)), some (.int (nI w')), some (.int (nI at_)), some (.int (nI e)), some (.int (nI (cnt (sOp P S at_) (pN P))))] : XE) = E at y1 ct ⊢
          have a0 : (e_al 0) E k = some (.ref 106, k) := by rw [← hE]; rfl
          have a10 : (e_il 10) E k = some (.int (nI at_), k) := by rw [← hE]; rfl
          have a00 : (e_lit 0) E k = some (.int 0, k) := rfl
          generalize hT : (e_tern (b_cmp0 r_ne0 (e_call m_X10_has [(e_il 8), (e_il 11)])) (e_lit 0) (e_bin o_sub (e_il 12) (e_lit 1))) = TT at ct ⊢
          have n2 : (e_call m_X10_nthAt [(e_al 0), (e_lit 0), (e_il 10), TT]) E k = some (.int (nI (nth (sOp P S at_) (pN P) (if tb = true then 0 else cnt (sOp P S at_) (pN P) - 1))), k) := by
            simp only [e_call, x_args, a0, a00, a10, ct, Option.bind_some, Option.map_some, nt]
          generalize (e_call m_X10_nthAt [(e_al 0), (e_lit 0), (e_il 10), TT]) = NN at n2 ⊢
          have n3 : (e_call m_X10_otherEnd [(e_al 0), NN, (e_il 10)]) E k = some (.int (nI p'), k) := by
            simp only [e_call, x_args, a0, a10, n2, Option.bind_some, Option.map_some, oe]
          refine s_iasg_p (x := nI p') ?_ ?_
          · rw [e_tern_p y1, if_neg Bool.false_ne_true]; exact n3
          · rw [← hE]
            simp only [x_out, s_seq, s_ite, s_ret, s_retZ, s_retV, s_iasg, s_aasg, s_lasg, s_inc, s_put, s_putop, s_ast, s_astop, s_exp, s_call, s_skip, s_brk, s_cont, s_oinit, e_lit, e_long, e_il, e_al, e_ll, e_bin, e_un, e_fld, e_ald, e_tern, e_call, e_alen, b_cmp, b_cmp0, b_lcmp, b_and, b_or, b_not, o_add, o_sub, o_mul, o_and, o_or, o_xor, o_shl, o_shr, o_neg, o_i2l, o_l2i, o_i2c, r_eq, r_ne, r_lt, r_ge, r_gt, r_le, r_eq0, r_ne0, r_lt0, r_ge0, r_gt0, r_le0, x_fld, x_int, x_ref, x_long, x_args, x_nar, xKd, xst1, xst2, xlg, Option.bind_some, Option.bind_none, Option.map_some, Option.map_none, List.getElem?_cons_zero, List.getElem?_cons_succ, List.set_cons_zero, List.set_cons_succ, List.length_cons, List.length_nil, List.length_map, List.length_range, List.length_set, decide_eq_true_eq, if_true, if_false, reduceIte, reduceCtorEq, Bool.not_true, Bool.not_false, Bool.false_eq_true, x_ix_nI, ax_get, ax_set, e_aald, s_aast, true_and, and_true, ite_true, ite_false, ↓bI_01, bI_eq0, bI_eq1, bool_or, tern_pure, and_pure, or_pure, bI_def, bne_t, ndf, decide_not, Bool.decide_eq_true, Bool.decide_and, Bool.decide_or, Nat.reduceEqDiff, Nat.reduceAdd, Nat.reduceMul, Nat.reduceSub, Nat.reduceLT, Nat.reduceLeDiff, or_false, false_or, or_true, true_or, and_false, false_and, Bool.or_eq_true, Bool.and_eq_true, Bool.or_false, Bool.or_true, Bool.true_or, Bool.false_or, Bool.and_true, Bool.and_false, Bool.true_and, Bool.false_and, decide_true, decide_false, not_true_eq_false, not_false_eq_true]
      refine ⟨[some (.ref 106), v1, v2, some (.int (nI n)), some (.int (nI x)), v5, v6, v7, some (.int (nI set)), some (.int (nI w')), some (.int (nI p')), some (.int (nI (e + 1))), some (.int (nI (cnt (sOp P S at_) (pN P))))], k, s_step_on (h0 := k) ?_ ((s_seq_n s1).trans ((s_seq_n s2).trans s3)) ?_, ⟨_, rfl⟩, rfl⟩
      · simp (disch := omega) only [lc_X10_drunk_2, x_out, s_seq, s_ite, s_ret, s_retZ, s_retV, s_iasg, s_aasg, s_lasg, s_inc, s_put, s_putop, s_ast, s_astop, s_exp, s_call, s_skip, s_brk, s_cont, s_oinit, e_lit, e_long, e_il, e_al, e_ll, e_bin, e_un, e_fld, e_ald, e_tern, e_call, e_alen, b_cmp, b_cmp0, b_lcmp, b_and, b_or, b_not, o_add, o_sub, o_mul, o_and, o_or, o_xor, o_shl, o_shr, o_neg, o_i2l, o_l2i, o_i2c, r_eq, r_ne, r_lt, r_ge, r_gt, r_le, r_eq0, r_ne0, r_lt0, r_ge0, r_gt0, r_le0, x_fld, x_int, x_ref, x_long, x_args, x_nar, xKd, xst1, xst2, xlg, Option.bind_some, Option.bind_none, Option.map_some, Option.map_none, List.getElem?_cons_zero, List.getElem?_cons_succ, List.set_cons_zero, List.set_cons_succ, List.length_cons, List.length_nil, List.length_map, List.length_range, List.length_set, decide_eq_true_eq, if_true, if_false, reduceIte, reduceCtorEq, Bool.not_true, Bool.not_false, Bool.false_eq_true, x_ix_nI, ax_get, ax_set, e_aald, s_aast, true_and, and_true, ite_true, ite_false, ↓bI_01, bI_eq0, bI_eq1, bool_or, tern_pure, and_pure, or_pure, bI_def, bne_t, ndf, decide_not, Bool.decide_eq_true, Bool.decide_and, Bool.decide_or, Nat.reduceEqDiff, Nat.reduceAdd, Nat.reduceMul, Nat.reduceSub, Nat.reduceLT, Nat.reduceLeDiff, or_false, false_or, or_true, true_or, and_false, false_and, Bool.or_eq_true, Bool.and_eq_true, Bool.or_false, Bool.or_true, Bool.true_or, Bool.false_or, Bool.and_true, Bool.and_false, Bool.true_and, Bool.false_and, decide_true, decide_false, not_true_eq_false, not_false_eq_true, nI_ltI, he]
      · simp only [lu_X10_drunk_2, x_out, s_seq, s_ite, s_ret, s_retZ, s_retV, s_iasg, s_aasg, s_lasg, s_inc, s_put, s_putop, s_ast, s_astop, s_exp, s_call, s_skip, s_brk, s_cont, s_oinit, e_lit, e_long, e_il, e_al, e_ll, e_bin, e_un, e_fld, e_ald, e_tern, e_call, e_alen, b_cmp, b_cmp0, b_lcmp, b_and, b_or, b_not, o_add, o_sub, o_mul, o_and, o_or, o_xor, o_shl, o_shr, o_neg, o_i2l, o_l2i, o_i2c, r_eq, r_ne, r_lt, r_ge, r_gt, r_le, r_eq0, r_ne0, r_lt0, r_ge0, r_gt0, r_le0, x_fld, x_int, x_ref, x_long, x_args, x_nar, xKd, xst1, xst2, xlg, Option.bind_some, Option.bind_none, Option.map_some, Option.map_none, List.getElem?_cons_zero, List.getElem?_cons_succ, List.set_cons_zero, List.set_cons_succ, List.length_cons, List.length_nil, List.length_map, List.length_range, List.length_set, decide_eq_true_eq, if_true, if_false, reduceIte, reduceCtorEq, Bool.not_true, Bool.not_false, Bool.false_eq_true, x_ix_nI, ax_get, ax_set, e_aald, s_aast, true_and, and_true, ite_true, ite_false, ↓bI_01, bI_eq0, bI_eq1, bool_or, tern_pure, and_pure, or_pure, bI_def, bne_t, ndf, decide_not, Bool.decide_eq_true, Bool.decide_and, Bool.decide_or, Nat.reduceEqDiff, Nat.reduceAdd, Nat.reduceMul, Nat.reduceSub, Nat.reduceLT, Nat.reduceLeDiff, or_false, false_or, or_true, true_or, and_false, false_and, Bool.or_eq_true, Bool.and_eq_true, Bool.or_false, Bool.or_true, Bool.true_or, Bool.false_or, Bool.and_true, Bool.and_false, Bool.true_and, Bool.false_and, decide_true, decide_false, not_true_eq_false, not_false_eq_true, nI_1])
    (fun env k hJ => by
      obtain ⟨⟨u, rfl⟩, rfl⟩ := hJ
      refine s_step_end ?_
      simp (disch := omega) only [lc_X10_drunk_2, x_out, s_seq, s_ite, s_ret, s_retZ, s_retV, s_iasg, s_aasg, s_lasg, s_inc, s_put, s_putop, s_ast, s_astop, s_exp, s_call, s_skip, s_brk, s_cont, s_oinit, e_lit, e_long, e_il, e_al, e_ll, e_bin, e_un, e_fld, e_ald, e_tern, e_call, e_alen, b_cmp, b_cmp0, b_lcmp, b_and, b_or, b_not, o_add, o_sub, o_mul, o_and, o_or, o_xor, o_shl, o_shr, o_neg, o_i2l, o_l2i, o_i2c, r_eq, r_ne, r_lt, r_ge, r_gt, r_le, r_eq0, r_ne0, r_lt0, r_ge0, r_gt0, r_le0, x_fld, x_int, x_ref, x_long, x_args, x_nar, xKd, xst1, xst2, xlg, Option.bind_some, Option.bind_none, Option.map_some, Option.map_none, List.getElem?_cons_zero, List.getElem?_cons_succ, List.set_cons_zero, List.set_cons_succ, List.length_cons, List.length_nil, List.length_map, List.length_range, List.length_set, decide_eq_true_eq, if_true, if_false, reduceIte, reduceCtorEq, Bool.not_true, Bool.not_false, Bool.false_eq_true, x_ix_nI, ax_get, ax_set, e_aald, s_aast, true_and, and_true, ite_true, ite_false, ↓bI_01, bI_eq0, bI_eq1, bool_or, tern_pure, and_pure, or_pure, bI_def, bne_t, ndf, decide_not, Bool.decide_eq_true, Bool.decide_and, Bool.decide_or, Nat.reduceEqDiff, Nat.reduceAdd, Nat.reduceMul, Nat.reduceSub, Nat.reduceLT, Nat.reduceLeDiff, or_false, false_or, or_true, true_or, and_false, false_and, Bool.or_eq_true, Bool.and_eq_true, Bool.or_false, Bool.or_true, Bool.true_or, Bool.false_or, Bool.and_true, Bool.and_false, Bool.true_and, Bool.false_and, decide_true, decide_false, not_true_eq_false, not_false_eq_true, nI_ltI, Nat.lt_irrefl])
  exact ⟨u', e1⟩
end DG
