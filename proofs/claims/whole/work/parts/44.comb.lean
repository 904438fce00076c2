/-! rules for conditions, choices and rounds; masks -/
theorem b_and_p {a b : XB} {env : XE} {h : XH} {x y : Bool} (ha : a env h = some (x, h)) (hb : x = true → b env h = some (y, h)) : b_and a b env h = some (x && y, h) := by
  cases x with
  | true => simp only [b_and, ha, Option.bind_some, if_true, hb rfl, Bool.true_and]
  | false => simp only [b_and, ha, Option.bind_some, Bool.false_eq_true, if_false, Bool.false_and]
theorem b_or_p {a b : XB} {env : XE} {h : XH} {x y : Bool} (ha : a env h = some (x, h)) (hb : x = false → b env h = some (y, h)) : b_or a b env h = some (x || y, h) := by
  cases x with
  | true => simp only [b_or, ha, Option.bind_some, if_true, Bool.true_or]
  | false => simp only [b_or, ha, Option.bind_some, Bool.false_eq_true, if_false, hb rfl, Bool.false_or]
theorem b_not_p {a : XB} {env : XE} {h h' : XH} {x : Bool} (ha : a env h = some (x, h')) : b_not a env h = some (!x, h') := by
  simp only [b_not, ha, Option.map_some]
theorem s_ite_t {c : XB} {a b : XS} {env : XE} {h h' : XH} (hc : c env h = some (true, h')) : s_ite c a b env h = a env h' := by
  simp only [s_ite, hc, Option.bind_some, if_true]
theorem s_ite_f {c : XB} {a b : XS} {env : XE} {h h' : XH} (hc : c env h = some (false, h')) : s_ite c a b env h = b env h' := by
  simp only [s_ite, hc, Option.bind_some, Bool.false_eq_true, if_false]
theorem e_tern_p {c : XB} {a b : XX} {env : XE} {h h' : XH} {x : Bool} (hc : c env h = some (x, h')) : e_tern c a b env h = if x = true then a env h' else b env h' := by
  simp only [e_tern, hc, Option.bind_some]
theorem s_seq_n {a b : XS} {env env' : XE} {h h' : XH} (ha : a env h = some (none, env', h')) : s_seq a b env h = b env' h' := by
  simp only [s_seq, ha, Option.bind_some]
theorem s_seq_r {a b : XS} {env env' : XE} {h h' : XH} {o : Bool ⊕ Option Value} (ha : a env h = some (some o, env', h')) : s_seq a b env h = some (some o, env', h') := by
  simp only [s_seq, ha, Option.bind_some]
theorem s_step_on {c : XB} {a u : XS} {env env1 env2 : XE} {h h0 h1 h2 : XH} (hc : c env h = some (true, h0)) (ha : a env h0 = some (none, env1, h1)) (hu : u env1 h1 = some (none, env2, h2)) : s_step c a u env h = some (.inr (env2, h2)) := by
  simp only [s_step, hc, ha, hu, Option.bind_some, if_true]
theorem s_step_ret {c : XB} {a u : XS} {env env1 : XE} {h h0 h1 : XH} {rv : Option Value} (hc : c env h = some (true, h0)) (ha : a env h0 = some (some (.inr rv), env1, h1)) : s_step c a u env h = some (.inl (some (.inr rv), env1, h1)) := by
  simp only [s_step, hc, ha, Option.bind_some, if_true]
theorem s_step_end {c : XB} {a u : XS} {env : XE} {h h0 : XH} (hc : c env h = some (false, h0)) : s_step c a u env h = some (.inl (none, env, h0)) := by
  simp only [s_step, hc, Option.bind_some, Bool.false_eq_true, if_false]
theorem x_out_n {o : XO} {env : XE} {h : XH} : x_out (some (o, env, h)) = some (o, h) := rfl
/-- masks -/
theorem mk_tb {p : Nat → Bool} (n k : Nat) : (mk p n).testBit k = (decide (k < n) && p k) := by
  by_cases q : k < n
  · rw [mk_bit q]; simp [q]
  · rw [Nat.testBit_lt_two_pow (Nat.lt_of_lt_of_le (mk_lt p n) (Nat.pow_le_pow_right (by decide) (by omega)))]; simp [q]
theorem nI_bit (a k : Nat) : (nI a).toBitVec.getLsbD k = (decide (k < 32) && a.testBit k) := BitVec.getLsbD_ofNat 32 a k
theorem nI_ext {x : Int32} {a : Nat} (h : ∀ k, k < 32 → x.toBitVec.getLsbD k = a.testBit k) : x = nI a := by
  apply Int32.toBitVec_inj.mp
  apply BitVec.eq_of_getLsbD_eq
  intro k hk
  rw [h k hk, nI_bit, decide_eq_true hk, Bool.true_and]
theorem mk_and (p q : Nat → Bool) (n : Nat) : nI (mk p n) &&& nI (mk q n) = nI (mk (fun i => p i && q i) n) := by
  apply nI_ext
  intro k hk
  show ((nI (mk p n)).toBitVec &&& (nI (mk q n)).toBitVec).getLsbD k = _
  rw [BitVec.getLsbD_and, nI_bit, nI_bit, mk_tb, mk_tb, mk_tb]
  by_cases e : k < n <;> simp [e, hk]
theorem mk_or (p q : Nat → Bool) (n : Nat) : nI (mk p n) ||| nI (mk q n) = nI (mk (fun i => p i || q i) n) := by
  apply nI_ext
  intro k hk
  show ((nI (mk p n)).toBitVec ||| (nI (mk q n)).toBitVec).getLsbD k = _
  rw [BitVec.getLsbD_or, nI_bit, nI_bit, mk_tb, mk_tb, mk_tb]
  by_cases e : k < n <;> simp [e, hk]
theorem mk_andn (p q : Nat → Bool) (n : Nat) : nI (mk p n) &&& (nI (mk q n) ^^^ (-1)) = nI (mk (fun i => p i && !q i) n) := by
  apply nI_ext
  intro k hk
  show ((nI (mk p n)).toBitVec &&& ((nI (mk q n)).toBitVec ^^^ BitVec.allOnes 32)).getLsbD k = _
  rw [BitVec.getLsbD_and, BitVec.getLsbD_xor, nI_bit, nI_bit, mk_tb, mk_tb, mk_tb, BitVec.getLsbD_allOnes]
  by_cases e : k < n <;> simp [e, hk]
theorem mk_congr {p q : Nat → Bool} : ∀ {n : Nat}, (∀ i, i < n → p i = q i) → mk p n = mk q n := by
  intro n
  induction n with
  | zero => intro _; rfl
  | succ n ih =>
    intro h
    simp only [mk]
    rw [ih (fun i hi => h i (by omega)), h n (by omega)]
theorem cnt_congr {p q : Nat → Bool} : ∀ {n : Nat}, (∀ i, i < n → p i = q i) → cnt p n = cnt q n := by
  intro n
  induction n with
  | zero => intro _; rfl
  | succ n ih =>
    intro h
    simp only [cnt]
    rw [ih (fun i hi => h i (by omega)), h n (by omega)]
theorem mk_one (s n : Nat) : mk (fun i => decide (i = s)) n = if s < n then 2 ^ s else 0 := by
  induction n with
  | zero => simp [mk]
  | succ n ih =>
    simp only [mk, ih]
    by_cases q : n = s
    · subst q; simp
    · have : ¬ n = s := q
      by_cases q2 : s < n
      · simp [q, q2, show s < n + 1 by omega]
      · simp [q, q2, show ¬ s < n + 1 by omega]
theorem shl_one : ∀ s : Nat, s < 31 → (1 : Int32) <<< (nI s &&& 31) = nI (2 ^ s) := by decide +kernel
theorem shl_mk {s n : Nat} (hs : s < n) (hn : n ≤ 31) : (1 : Int32) <<< (nI s &&& 31) = nI (mk (fun i => decide (i = s)) n) := by
  rw [shl_one s (by omega), mk_one, if_pos hs]
theorem mk_eq0 {p : Nat → Bool} {n : Nat} : mk p n = 0 ↔ ∀ i, i < n → p i = false := by
  constructor
  · intro h i hi
    have := mk_bit (p := p) hi
    rw [h, Nat.zero_testBit] at this
    exact this.symm
  · intro h
    rw [mk_congr (q := fun _ => false) h]
    clear h
    induction n with
    | zero => rfl
    | succ n ih => simp [mk, ih]
theorem mk_small {p : Nat → Bool} {n : Nat} (hn : n ≤ 30) : mk p n < 2 ^ 30 := Nat.lt_of_lt_of_le (mk_lt p n) (Nat.pow_le_pow_right (by decide) hn)
def mZ (p : Nat → Bool) (n : Nat) : Bool := decide (mk p n = 0)
theorem mZ_iff {p : Nat → Bool} {n : Nat} : mZ p n = true ↔ ∀ i, i < n → p i = false := by simp [mZ, mk_eq0]
theorem mk_nz {p : Nat → Bool} {n : Nat} (hn : n ≤ 30) : (nI (mk p n) = 0) = (mZ p n = true) := by
  have h := mk_small (p := p) hn
  rw [nI_small (by omega)]
  simp [mZ]
theorem mk_two (p : Nat → Bool) {a b n : Nat} (ha : a < n) (hb : b < n) : mZ (fun f => p f && (decide (f = a) || decide (f = b))) n = !(p a || p b) := by
  rw [Bool.eq_iff_iff, mZ_iff]
  constructor
  · intro h
    have h1 := h a ha
    have h2 := h b hb
    simp at h1 h2
    simp [h1, h2]
  · intro h i hi
    simp at h
    by_cases q : i = a
    · subst q; simp [h.1]
    · by_cases q2 : i = b
      · subst q2; simp [h.2]
      · simp [q, q2]
theorem mk_ones (p : Nat → Bool) {s n : Nat} (hs : s < n) : mZ (fun i => p i && decide (i = s)) n = !p s := by
  rw [Bool.eq_iff_iff, mZ_iff]
  constructor
  · intro h
    have h1 := h s hs
    simp at h1
    simp [h1]
  · intro h i hi
    simp at h
    by_cases q : i = s
    · subst q; simp [h]
    · simp [q]
/-- a number below 2^n by its bits -/
theorem mk_self {n i : Nat} (hi : i < 2 ^ n) : mk (fun k => i.testBit k) n = i := by
  apply Nat.eq_of_testBit_eq
  intro k
  rw [mk_tb]
  by_cases q : k < n
  · simp [q]
  · rw [Nat.testBit_lt_two_pow (Nat.lt_of_lt_of_le hi (Nat.pow_le_pow_right (by decide) (by omega)))]; simp [q]
theorem cnt_pad {p : Nat → Bool} : ∀ {n m : Nat}, n ≤ m → (∀ i, n ≤ i → i < m → p i = false) → cnt p m = cnt p n := by
  intro n m h
  induction h with
  | refl => intro _; rfl
  | step h ih =>
    rename_i m
    intro hp
    simp only [cnt]
    rw [ih (fun i h1 h2 => hp i h1 (by omega)), hp m h (by omega)]
    simp
theorem pop_mk {p : Nat → Bool} {n : Nat} (hn : n ≤ 9) : pop (mk p n) = cnt p n := by
  unfold pop
  rw [cnt_pad (n := n) hn (fun i h1 h2 => by rw [mk_tb]; simp; omega)]
  exact cnt_congr fun i hi => mk_bit hi
