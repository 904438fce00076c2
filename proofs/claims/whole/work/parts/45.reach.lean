/-! what hangs together: two fields, if every colouring that the stiles of a set keep gives them one colour -/
def cn (P : XP) (E : Nat → Bool) (a b : Nat) : Prop := ∀ p : Nat → Bool, (∀ s, s < pN P → E s = true → p (pA P s) = p (pZ P s)) → p a = p b
theorem cn_rf (P : XP) (E : Nat → Bool) (a : Nat) : cn P E a a := fun _ _ => rfl
theorem cn_tr {P : XP} {E : Nat → Bool} {a b c : Nat} (h : cn P E a b) (g : cn P E b c) : cn P E a c := fun p hp => (h p hp).trans (g p hp)
theorem cn_st {P : XP} {E : Nat → Bool} {s : Nat} (hs : s < pN P) (he : E s = true) : cn P E (pA P s) (pZ P s) := fun _ hp => hp s hs he
theorem cn_sy {P : XP} {E : Nat → Bool} {a b : Nat} (h : cn P E a b) : cn P E b a := fun p hp => (h p hp).symm
/-- one stile tried: the fields come to, the stiles left -/
abbrev XRq : Type := (Nat → Bool) × (Nat → Bool)
def cmS (P : XP) (s : Nat) (x : XRq) : XRq := if (x.2 s && (x.1 (pA P s) || x.1 (pZ P s))) = true then (fun f => x.1 f || (decide (f = pA P s) || decide (f = pZ P s)), fun i => x.2 i && !decide (i = s)) else x
def cmR (P : XP) (x : XRq) : XRq := itr (fun s x => cmS P s x) (pN P) x
def cm0 (E : Nat → Bool) (a : Nat) : XRq := (fun f => decide (f = a), E)
def cmK (P : XP) (E : Nat → Bool) (a k : Nat) : XRq := itr (fun _ x => cmR P x) k (cm0 E a)
def cmZ (P : XP) (E : Nat → Bool) (a k : Nat) : Bool := mZ (cmK P E a k).2 (pN P)
/-- all the set's stiles are come to -/
def cmA (P : XP) (E : Nat → Bool) (a : Nat) : Bool := (List.range 10).any (cmZ P E a)
def cmI (P : XP) (E : Nat → Bool) (a : Nat) (x : XRq) : Prop := (∀ f, x.1 f = true → cn P E a f) ∧ (∀ s, s < pN P → E s = true → x.2 s = false → x.1 (pA P s) = true ∧ x.1 (pZ P s) = true) ∧ (∀ s, s < pN P → x.2 s = true → E s = true) ∧ x.1 a = true
theorem cmS_I {P : XP} {E : Nat → Bool} {a s : Nat} {x : XRq} (hs : s < pN P) (H : cmI P E a x) : cmI P E a (cmS P s x) := by
  unfold cmS
  split
  · rename_i q
    obtain ⟨h1, h2, h3, h4⟩ := H
    simp only [Bool.and_eq_true, Bool.or_eq_true] at q
    have he := h3 s hs q.1
    have hA : cn P E a (pA P s) := by
      rcases q.2 with q2 | q2
      · exact h1 _ q2
      · exact cn_tr (h1 _ q2) (cn_sy (cn_st hs he))
    have hZ : cn P E a (pZ P s) := cn_tr hA (cn_st hs he)
    refine ⟨fun f hf => ?_, fun i hi e1 e2 => ?_, fun i hi e1 => ?_, ?_⟩
    · simp only [Bool.or_eq_true, decide_eq_true_eq] at hf
      rcases hf with hf | hf | hf
      · exact h1 f hf
      · rw [hf]; exact hA
      · rw [hf]; exact hZ
    · by_cases e : i = s
      · subst e; simp
      · simp [e] at e2
        have := h2 i hi e1 e2
        simp [this.1, this.2]
    · simp only [Bool.and_eq_true] at e1
      exact h3 i hi e1.1
    · simp [h4]
  · exact H
theorem cmR_I {P : XP} {E : Nat → Bool} {a : Nat} {x : XRq} (H : cmI P E a x) : cmI P E a (cmR P x) := by
  have key : ∀ n, n ≤ pN P → cmI P E a (itr (fun s x => cmS P s x) n x) := by
    intro n
    induction n with
    | zero => intro _; exact H
    | succ n ih => intro hn; exact cmS_I (by omega) (ih (by omega))
  exact key _ (Nat.le_refl _)
theorem cmK_I {P : XP} {E : Nat → Bool} {a : Nat} (k : Nat) : cmI P E a (cmK P E a k) := by
  induction k with
  | zero =>
    refine ⟨fun f hf => ?_, fun s hs h1 h2 => ?_, fun s hs h => h, by simp [cmK, cm0, itr]⟩
    · have : f = a := by simpa [cmK, cm0, itr] using hf
      rw [this]; exact cn_rf _ _ _
    · have h2 : E s = false := h2
      rw [h1] at h2; cases h2
  | succ k ih => exact cmR_I ih
theorem cnt_drop {p : Nat → Bool} {s : Nat} (hp : p s = true) : ∀ {n : Nat}, s < n → cnt (fun i => p i && !decide (i = s)) n + 1 = cnt p n := by
  intro n
  induction n with
  | zero => intro h; omega
  | succ n ih =>
    intro h
    simp only [cnt]
    by_cases e : n = s
    · subst e
      have : cnt (fun i => p i && !decide (i = n)) n = cnt p n := cnt_congr fun i hi => by simp [show ¬ i = n by omega]
      rw [this]
      simp [hp]
    · have := ih (by omega)
      simp [e]
      omega
theorem cmS_cnt {P : XP} {s : Nat} (hs : s < pN P) (x : XRq) : cmS P s x = x ∧ (x.2 s && (x.1 (pA P s) || x.1 (pZ P s))) = false ∨ cnt (cmS P s x).2 (pN P) + 1 = cnt x.2 (pN P) := by
  by_cases q : (x.2 s && (x.1 (pA P s) || x.1 (pZ P s))) = true
  · right
    unfold cmS
    rw [if_pos q]
    simp only [Bool.and_eq_true] at q
    exact cnt_drop q.1 hs
  · left
    unfold cmS
    rw [if_neg q]
    exact ⟨rfl, by simpa using q⟩
theorem cmR_cnt {P : XP} (x : XRq) : (cmR P x = x ∧ ∀ s, s < pN P → (x.2 s && (x.1 (pA P s) || x.1 (pZ P s))) = false) ∨ cnt (cmR P x).2 (pN P) < cnt x.2 (pN P) := by
  have key : ∀ n, n ≤ pN P → ((itr (fun s x => cmS P s x) n x = x ∧ ∀ s, s < n → (x.2 s && (x.1 (pA P s) || x.1 (pZ P s))) = false) ∨ cnt (itr (fun s x => cmS P s x) n x).2 (pN P) < cnt x.2 (pN P)) := by
    intro n
    induction n with
    | zero => intro _; exact Or.inl ⟨rfl, fun s hs => absurd hs (by omega)⟩
    | succ n ih =>
      intro hn
      show ((cmS P n (itr (fun s x => cmS P s x) n x) = x ∧ _) ∨ cnt (cmS P n (itr (fun s x => cmS P s x) n x)).2 (pN P) < _)
      rcases ih (by omega) with ⟨e1, e2⟩ | e
      · rw [e1]
        rcases cmS_cnt (show n < pN P by omega) x with ⟨f1, f2⟩ | f
        · left
          refine ⟨f1, fun s hs => ?_⟩
          by_cases q : s = n
          · subst q; exact f2
          · exact e2 s (by omega)
        · right; omega
      · right
        rcases cmS_cnt (show n < pN P by omega) (itr (fun s x => cmS P s x) n x) with ⟨f1, f2⟩ | f
        · rw [f1]; exact e
        · omega
  exact key _ (Nat.le_refl _)
theorem cnt_zero {p : Nat → Bool} {n : Nat} (h : cnt p n = 0) : ∀ i, i < n → p i = false := by
  induction n with
  | zero => intro i hi; omega
  | succ n ih =>
    simp only [cnt] at h
    intro i hi
    by_cases q : i = n
    · subst q
      cases e : p i with
      | false => rfl
      | true => rw [e] at h; simp at h
    · exact ih (by omega) i (by omega)
theorem cmA_iff {P : XP} (h9 : pN P ≤ 9) {E : Nat → Bool} {a : Nat} : cmA P E a = true ↔ ∀ s, s < pN P → E s = true → cn P E a (pA P s) := by
  unfold cmA
  rw [List.any_eq_true]
  constructor
  · rintro ⟨k, -, hk⟩ s hs he
    obtain ⟨h1, h2, h3, h4⟩ := cmK_I (P := P) (E := E) (a := a) k
    exact h1 _ (h2 s hs he ((mZ_iff.mp hk) s hs)).1
  · intro H
    refine Classical.byContradiction fun hno => ?_
    have nz : ∀ k, k < 10 → cmZ P E a k = false := fun k hk => by
      cases q : cmZ P E a k with
      | false => rfl
      | true => exact absurd ⟨k, List.mem_range.mpr hk, q⟩ hno
    -- a round that changes nothing
    have key : ∀ k, k ≤ 9 → (∃ j, j < k ∧ cmR P (cmK P E a j) = cmK P E a j ∧ ∀ s, s < pN P → ((cmK P E a j).2 s && ((cmK P E a j).1 (pA P s) || (cmK P E a j).1 (pZ P s))) = false) ∨ cnt (cmK P E a k).2 (pN P) + k ≤ pN P := by
      intro k
      induction k with
      | zero => intro _; right; exact cnt_le _ _
      | succ k ih =>
        intro hk
        rcases ih (by omega) with ⟨j, j1, j2, j3⟩ | e
        · exact Or.inl ⟨j, by omega, j2, j3⟩
        · rcases cmR_cnt (P := P) (cmK P E a k) with ⟨f1, f2⟩ | f
          · exact Or.inl ⟨k, by omega, f1, f2⟩
          · right
            show cnt (cmR P (cmK P E a k)).2 (pN P) + (k + 1) ≤ pN P
            omega
    have hj : ∃ j, j < 10 ∧ ∀ s, s < pN P → ((cmK P E a j).2 s && ((cmK P E a j).1 (pA P s) || (cmK P E a j).1 (pZ P s))) = false := by
      rcases key 9 (by omega) with ⟨j, j1, -, j3⟩ | e
      · exact ⟨j, by omega, j3⟩
      · refine ⟨9, by omega, fun s hs => ?_⟩
        have := cnt_zero (p := (cmK P E a 9).2) (n := pN P) (by omega) s hs
        simp [this]
    obtain ⟨j, j1, j2⟩ := hj
    obtain ⟨h1, h2, h3, h4⟩ := cmK_I (P := P) (E := E) (a := a) j
    have hz := nz j j1
    have : ¬ ∀ s, s < pN P → (cmK P E a j).2 s = false := fun z => by
      have := mZ_iff.mpr z
      unfold cmZ at hz
      rw [this] at hz
      cases hz
    obtain ⟨s, hs⟩ := Classical.not_forall.mp this
    obtain ⟨s1, s2⟩ := Classical.not_imp.mp hs
    have s2 : (cmK P E a j).2 s = true := by simpa using s2
    have hcn := H s s1 (h3 s s1 s2) (cmK P E a j).1 (fun i hi he => by
      cases q : (cmK P E a j).2 i with
      | false =>
        have := h2 i hi he q
        rw [this.1, this.2]
      | true =>
        have := j2 i hi
        rw [q] at this
        simp at this
        rw [this.1, this.2])
    have h5 := j2 s s1
    rw [s2] at h5
    simp at h5
    rw [h4, h5.1] at hcn
    cases hcn
/-- the least price of a number below n that is so -/
def mnF (p : Nat → Bool) (c : Nat → Nat) : Nat → Option Nat
  | 0 => none
  | n + 1 => if p n = true ∧ (∀ b, mnF p c n = some b → c n < b) then some (c n) else mnF p c n
theorem mnF_none {p : Nat → Bool} {c : Nat → Nat} : ∀ {n : Nat}, mnF p c n = none → ∀ i, i < n → p i = false := by
  intro n
  induction n with
  | zero => intro _ i hi; omega
  | succ n ih =>
    intro h i hi
    simp only [mnF] at h
    split at h
    · cases h
    · rename_i q
      by_cases e : i = n
      · subst e
        cases hp : p i with
        | false => rfl
        | true => exact absurd ⟨hp, fun b hb => by rw [h] at hb; cases hb⟩ q
      · exact ih h i (by omega)
theorem mnF_some {p : Nat → Bool} {c : Nat → Nat} : ∀ {n m : Nat}, mnF p c n = some m → (∃ i, i < n ∧ p i = true ∧ c i = m) ∧ ∀ i, i < n → p i = true → m ≤ c i := by
  intro n
  induction n with
  | zero => intro m h; cases h
  | succ n ih =>
    intro m h
    simp only [mnF] at h
    split at h
    · rename_i q
      cases h
      refine ⟨⟨n, by omega, q.1, rfl⟩, fun i hi hp => ?_⟩
      by_cases e : i = n
      · subst e; exact Nat.le_refl _
      · cases hb : mnF p c n with
        | none => rw [mnF_none hb i (by omega)] at hp; cases hp
        | some b =>
          have h1 := q.2 b hb
          have h2 := (ih hb).2 i (by omega) hp
          omega
    · rename_i q
      obtain ⟨⟨i, h1, h2, h3⟩, h4⟩ := ih h
      refine ⟨⟨i, by omega, h2, h3⟩, fun j hj hp => ?_⟩
      by_cases e : j = n
      · subst e
        by_cases hlt : c j < m
        · exact absurd ⟨hp, fun b hb => by rw [h] at hb; cases hb; exact hlt⟩ q
        · omega
      · exact h4 j (by omega) hp
theorem mnF_eq {p q : Nat → Bool} {c d : Nat → Nat} {n : Nat} (h1 : ∀ i, i < n → p i = true → ∃ j, j < n ∧ q j = true ∧ d j ≤ c i) (h2 : ∀ i, i < n → q i = true → ∃ j, j < n ∧ p j = true ∧ c j ≤ d i) : mnF p c n = mnF q d n := by
  cases e1 : mnF p c n with
  | none =>
    cases e2 : mnF q d n with
    | none => rfl
    | some m =>
      obtain ⟨⟨i, i1, i2, i3⟩, -⟩ := mnF_some e2
      obtain ⟨j, j1, j2, -⟩ := h2 i i1 i2
      rw [mnF_none e1 j j1] at j2
      cases j2
  | some m =>
    obtain ⟨⟨i, i1, i2, i3⟩, i4⟩ := mnF_some e1
    obtain ⟨j, j1, j2, j3⟩ := h1 i i1 i2
    cases e2 : mnF q d n with
    | none => rw [mnF_none e2 j j1] at j2; cases j2
    | some m' =>
      obtain ⟨⟨k, k1, k2, k3⟩, k4⟩ := mnF_some e2
      obtain ⟨l, l1', l2', l3'⟩ := h2 k k1 k2
      have := k4 j j1 j2
      have := i4 l l1' l2'
      rw [show m = m' by omega]
/-- the class's sets: those that hold all the uneven ones and are come to; their price: the others -/
def evP (P : XP) (U : Nat → Bool) (a i : Nat) : Bool := mZ (fun k => U k && !i.testBit k) (pN P) && cmA P (fun k => i.testBit k) a
def evC (P : XP) (U : Nat → Bool) (i : Nat) : Nat := cnt (fun k => i.testBit k && !U k) (pN P)
def evO (P : XP) (U : Nat → Bool) (a : Nat) : Option Nat := mnF (evP P U a) (evC P U) (2 ^ pN P)
/-- the reference's: those by which, with the uneven ones, all uneven ones hang on the place -/
def haP (P : XP) (U : Nat → Bool) (a i : Nat) : Prop := ∀ s, s < pN P → U s = true → cn P (fun k => i.testBit k || U k) a (pA P s)
theorem cnt_le_of {p q : Nat → Bool} : ∀ {n : Nat}, (∀ i, i < n → p i = true → q i = true) → cnt p n ≤ cnt q n := by
  intro n
  induction n with
  | zero => intro _; exact Nat.le_refl _
  | succ n ih =>
    intro h
    have h1 := ih fun i hi => h i (by omega)
    have h2 := h n (by omega)
    simp only [cnt]
    cases e : p n with
    | false => simp; omega
    | true => rw [h2 e]; simp; omega
theorem ev_eq {P : XP} (h9 : pN P ≤ 9) {U hb : Nat → Bool} {a : Nat} (hh : ∀ i, i < 2 ^ pN P → (hb i = true ↔ haP P U a i)) : mnF hb (fun i => cnt (fun k => i.testBit k) (pN P)) (2 ^ pN P) = evO P U a := by
  refine mnF_eq (fun i hi hp => ?_) (fun i hi hp => ?_)
  · -- out of a set that hangs: its stiles that hang on the place
    have H := (hh i hi).mp hp
    let T : Nat → Bool := fun k => (i.testBit k || U k) && @decide (cn P (fun k => i.testBit k || U k) a (pA P k)) (Classical.propDecidable _)
    have hT : ∀ k, T k = true ↔ ((i.testBit k || U k) = true ∧ cn P (fun k => i.testBit k || U k) a (pA P k)) := fun k => by simp [T]
    refine ⟨mk T (pN P), mk_lt T (pN P), ?_, ?_⟩
    · unfold evP
      rw [Bool.and_eq_true]
      constructor
      · rw [mZ_iff]
        intro k hk
        rw [mk_bit hk]
        cases e : U k with
        | false => rfl
        | true =>
          have : T k = true := (hT k).mpr ⟨by simp [e], H k hk e⟩
          simp [this]
      · rw [cmA_iff h9]
        intro s hs he
        have he : T s = true := by rw [mk_bit hs] at he; exact he
        obtain ⟨t1, t2⟩ := (hT s).mp he
        intro p hpp
        let D : Nat → Bool := fun f => @decide (cn P (fun k => i.testBit k || U k) a f) (Classical.propDecidable _)
        have hD : ∀ f, D f = true ↔ cn P (fun k => i.testBit k || U k) a f := fun f => by simp [D]
        have hq := t2 (fun f => if D f = true then p f else !p a) (fun e he1 he2 => by
          by_cases q : D (pA P e) = true
          · have q2 : D (pZ P e) = true := (hD _).mpr (cn_tr ((hD _).mp q) (cn_st he1 he2))
            simp only [q, q2, if_true]
            exact hpp e he1 (by show (mk T (pN P)).testBit e = true; rw [mk_bit he1]; exact (hT e).mpr ⟨he2, (hD _).mp q⟩)
          · have q2 : ¬ D (pZ P e) = true := fun z => q ((hD _).mpr (cn_tr ((hD _).mp z) (cn_sy (cn_st he1 he2))))
            show (if D (pA P e) = true then p (pA P e) else !p a) = if D (pZ P e) = true then p (pZ P e) else !p a
            rw [if_neg q, if_neg q2])
        have r1 : D a = true := (hD _).mpr (cn_rf _ _ _)
        have r2 : D (pA P s) = true := (hD _).mpr t2
        simp only [r1, r2, if_true] at hq
        exact hq
    · refine cnt_le_of fun k hk e => ?_
      rw [mk_bit hk] at e
      simp only [Bool.and_eq_true] at e
      have := ((hT k).mp e.1).1
      simp only [Bool.or_eq_true] at this
      rcases this with z | z
      · exact z
      · rw [z] at e; simp at e
  · -- out of a set that is come to: its others
    unfold evP at hp
    rw [Bool.and_eq_true, mZ_iff, cmA_iff h9] at hp
    obtain ⟨h1, h2⟩ := hp
    refine ⟨mk (fun k => i.testBit k && !U k) (pN P), mk_lt _ _, (hh _ (mk_lt _ _)).mpr fun s hs hu => ?_, ?_⟩
    · have hin : ∀ k, k < pN P → U k = true → i.testBit k = true := fun k hk e => by
        have := h1 k hk
        rw [e] at this
        simpa using this
      have := h2 s hs (hin s hs hu)
      intro p hpp
      refine this p fun e he1 he2 => hpp e he1 ?_
      show ((mk (fun k => i.testBit k && !U k) (pN P)).testBit e || U e) = true
      rw [mk_bit he1]
      have he2 : i.testBit e = true := he2
      cases q : U e <;> simp [he2]
    · exact Nat.le_of_eq (cnt_congr fun k hk => mk_bit hk)
