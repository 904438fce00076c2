/-! MATHEMATICS: rows as functions, loops by steps -/
def arr (n : Nat) (f : Nat → Int32) : XC := .inr (.inl (0, (List.range n).map f))
theorem ax_row {h : XH} {a n : Nat} {f : Nat → Int32} (hh : h[a]? = some (arr n f)) : x_row 0 (.ref a) h = some (a, (List.range n).map f) := by
  simp [x_row, hh, arr]
theorem x_ix_nI {i n : Nat} (h : i < n) (hn : n < 2 ^ 31) : x_ix (nI i) n = some i := by
  unfold x_ix
  rw [if_neg, nI_clamp (by omega)]
  rw [nI_clamp (by omega)]
  rintro (q | q)
  · exact nI_pos (by omega) q
  · omega
theorem ax_get {f : Nat → Int32} {i n : Nat} (h : i < n) : ((List.range n).map f).getD i 0 = f i := by
  simp [List.getD_eq_getElem?_getD, h]
theorem ax_set {f : Nat → Int32} {i n : Nat} {v : Int32} : ((List.range n).map f).set i v = (List.range n).map (upd f i v) := by
  apply List.ext_getElem?
  intro j
  by_cases hj : j < n
  · by_cases hij : i = j
    · subst hij
      simp [hj, upd]
    · have : ¬ j = i := fun q => hij q.symm
      simp [List.getElem?_set, hij, hj, upd, this]
  · simp [List.getElem?_set, hj]
theorem ax_def (n : Nat) (f : Nat → Int32) : (Sum.inr (Sum.inl (0, (List.range n).map f)) : XC) = arr n f := rfl
theorem ax_ext {n : Nat} {f g : Nat → Int32} (h : ∀ i, i < n → f i = g i) : arr n f = arr n g := by
  unfold arr
  congr 3
  apply List.map_congr_left
  intro i hi
  exact h i (List.mem_range.mp hi)
/-- one round of a loop: out with an outcome, or on -/
def s_step (c : XB) (a u : XS) (env : XE) (h : XH) : Option ((XO × XE × XH) ⊕ (XE × XH)) := (c env h).bind fun r => if r.1 = true then (a env r.2).bind fun q => (match q.1 with
    | none => (u q.2.1 q.2.2).bind fun w => if w.1 = none then some (.inr (w.2.1, w.2.2)) else none
    | some (.inl true) => some (.inl (none, q.2.1, q.2.2))
    | some (.inl false) => (u q.2.1 q.2.2).bind fun w => if w.1 = none then some (.inr (w.2.1, w.2.2)) else none
    | some (.inr rv) => some (.inl (some (.inr rv), q.2.1, q.2.2))) else some (.inl (none, env, r.2))
theorem s_loop_step (n : Nat) (c : XB) (a u : XS) (env : XE) (h : XH) : s_loop (n + 1) c a u env h = (s_step c a u env h).bind fun r => match r with
    | .inl o => some o
    | .inr q => s_loop n c a u q.1 q.2 := by
  rcases hc : c env h with _ | ⟨b, h1⟩
  · simp [s_loop, s_step, hc]
  · cases b with
    | false => simp [s_loop, s_step, hc]
    | true =>
      rcases ha : a env h1 with _ | ⟨o, e1, h2⟩
      · simp [s_loop, s_step, hc, ha]
      · rcases o with _ | (_ | _) | rv
        · rcases hu : u e1 h2 with _ | ⟨o3, e3, h3⟩
          · simp [s_loop, s_step, hc, ha, hu]
          · by_cases q : o3 = none
            · simp [s_loop, s_step, hc, ha, hu, q]
            · simp [s_loop, s_step, hc, ha, hu, q]
        · rcases hu : u e1 h2 with _ | ⟨o3, e3, h3⟩
          · simp [s_loop, s_step, hc, ha, hu]
          · by_cases q : o3 = none
            · simp [s_loop, s_step, hc, ha, hu, q]
            · simp [s_loop, s_step, hc, ha, hu, q]
        · simp [s_loop, s_step, hc, ha]
        · simp [s_loop, s_step, hc, ha]
/-- a loop whose states are told: N rounds on, then out -/
theorem s_loop_run {c : XB} {a u : XS} (σ : Nat → XE × XH) (r : XO × XE × XH) : ∀ (N n : Nat), N < n → (∀ i, i < N → s_step c a u (σ i).1 (σ i).2 = some (.inr (σ (i + 1)))) → s_step c a u (σ N).1 (σ N).2 = some (.inl r) → s_loop n c a u (σ 0).1 (σ 0).2 = some r := by
  intro N
  induction N generalizing σ with
  | zero =>
    intro n hn _ h2
    obtain ⟨m, rfl⟩ : ∃ m, n = m + 1 := ⟨n - 1, by omega⟩
    rw [s_loop_step, h2]
    rfl
  | succ N ih =>
    intro n hn h1 h2
    obtain ⟨m, rfl⟩ : ∃ m, n = m + 1 := ⟨n - 1, by omega⟩
    rw [s_loop_step, h1 0 (by omega)]
    exact ih (fun i => σ (i + 1)) m (by omega) (fun i hi => h1 (i + 1) (by omega)) h2
def x_out (r : Option (XO × XE × XH)) : Option (XO × XH) := r.map (fun q => (q.1, q.2.2))
theorem x_out_spec {r : Option (XO × XE × XH)} {o : XO} {h : XH} (hr : x_out r = some (o, h)) : ∃ env, r = some (o, env, h) := by
  unfold x_out at hr
  obtain ⟨q, h1, h2⟩ := Option.map_eq_some_iff.mp hr
  cases h2
  exact ⟨q.2.1, h1⟩
theorem xM_run {ci k n a c : Nat} {vd : Bool} {body : XS} {as : List Value} {h h' : XH} {fs : List Value} {rv : Option Value} {env : XE} (h1 : h[a]? = some (.inl (c, fs))) (hc : c = ci) (h2 : as.length = k) (h3 : (xSlots (.ref a :: as)).length ≤ n) (he : xEnv n (.ref a :: as) = env) (hb : x_out (body env h) = some (some (.inr rv), h')) (hv : rv.isNone = vd) : xM ci k n vd body (.ref a :: as) h = some (rv, h') := by
  subst hc
  subst he
  obtain ⟨env', hb⟩ := x_out_spec hb
  simp [xM, h1, h2, h3, xRun, hb, hv]
theorem xMS_run {k n : Nat} {vd : Bool} {body : XS} {as : List Value} {h h' : XH} {rv : Option Value} {env : XE} (h2 : as.length = k) (h3 : (xSlots as).length ≤ n) (he : xEnv n as = env) (hb : x_out (body env h) = some (some (.inr rv), h')) (hv : rv.isNone = vd) : xMS k n vd body as h = some (rv, h') := by
  subst he
  obtain ⟨env', hb⟩ := x_out_spec hb
  simp [xMS, h2, h3, xRun, hb, hv]
theorem set_at {h : XH} {a : Nat} {c c' : XC} (hh : h[a]? = some c) : (h.set a c')[a]? = some c' := List.getElem?_set_self (List.getElem?_eq_some_iff.mp hh).1
theorem set_ne {h : XH} {a b : Nat} {c' : XC} (hab : a ≠ b) : (h.set a c')[b]? = h[b]? := List.getElem?_set_ne hab
theorem nI_lit (k : Nat) : (OfNat.ofNat k : Int32) = nI k := rfl
