/-! MATHEMATICS: rows as functions, loops by steps -/
def arr (n : Nat) (f : Nat → Int32) : XC := .inr (.inl (0, (List.range n).map f))
theorem ax_row {h : XH} {a n : Nat} {f : Nat → Int32} (hh : h[a]? = some (arr n f)) : x_row 0 (.ref a) h = some (a, (List.range n).map f) := by
  simp [x_row, hh, arr]
theorem x_ix_nI {i n : Nat} (h : i < n) (hn : n < 2 ^ 31) : x_ix (nI i) n = some i := by
  unfold x_ix
  rw [if_neg, nI_clamp (by omega)]
  rw [nI_clamp (by omega)]
  rintro (q | q)
  · exact nI_pos (by omega) q
  · omega
theorem ax_get {f : Nat → Int32} {i n : Nat} {d : Int32} (h : i < n) : ((List.range n).map f).getD i d = f i := by
  simp [List.getD_eq_getElem?_getD, h]
theorem ax_set {f : Nat → Int32} {i n : Nat} {v : Int32} : ((List.range n).map f).set i v = (List.range n).map (upd f i v) := by
  apply List.ext_getElem?
  intro j
  by_cases hj : j < n
  · by_cases hij : i = j
    · subst hij
      simp [hj, upd]
    · have : ¬ j = i := fun q => hij q.symm
      simp [List.getElem?_set, hij, hj, upd, this]
  · simp [List.getElem?_set, hj]
theorem ax_def (n : Nat) (f : Nat → Int32) : (Sum.inr (Sum.inl (0, (List.range n).map f)) : XC) = arr n f := rfl
theorem ax_ext {n : Nat} {f g : Nat → Int32} (h : ∀ i, i < n → f i = g i) : arr n f = arr n g := by
  unfold arr
  congr 3
  apply List.map_congr_left
  intro i hi
  exact h i (List.mem_range.mp hi)
/-- one round of a loop: out with an outcome, or on -/
def s_step (c : XB) (a u : XS) (env : XE) (h : XH) : Option ((XO × XE × XH) ⊕ (XE × XH)) := (c env h).bind fun r => if r.1 = true then (a env r.2).bind fun q => (match q.1 with
    | none => (u q.2.1 q.2.2).bind fun w => if w.1 = none then some (.inr (w.2.1, w.2.2)) else none
    | some (.inl true) => some (.inl (none, q.2.1, q.2.2))
    | some (.inl false) => (u q.2.1 q.2.2).bind fun w => if w.1 = none then some (.inr (w.2.1, w.2.2)) else none
    | some (.inr rv) => some (.inl (some (.inr rv), q.2.1, q.2.2))) else some (.inl (none, env, r.2))
theorem s_loop_step (n : Nat) (c : XB) (a u : XS) (env : XE) (h : XH) : s_loop (n + 1) c a u env h = (s_step c a u env h).bind fun r => match r with
    | .inl o => some o
    | .inr q => s_loop n c a u q.1 q.2 := by
  rcases hc : c env h with _ | ⟨b, h1⟩
  · simp [s_loop, s_step, hc]
  · cases b with
    | false => simp [s_loop, s_step, hc]
    | true =>
      rcases ha : a env h1 with _ | ⟨o, e1, h2⟩
      · simp [s_loop, s_step, hc, ha]
      · rcases o with _ | (_ | _) | rv
        · rcases hu : u e1 h2 with _ | ⟨o3, e3, h3⟩
          · simp [s_loop, s_step, hc, ha, hu]
          · by_cases q : o3 = none
            · simp [s_loop, s_step, hc, ha, hu, q]
            · simp [s_loop, s_step, hc, ha, hu, q]
        · rcases hu : u e1 h2 with _ | ⟨o3, e3, h3⟩
          · simp [s_loop, s_step, hc, ha, hu]
          · by_cases q : o3 = none
            · simp [s_loop, s_step, hc, ha, hu, q]
            · simp [s_loop, s_step, hc, ha, hu, q]
        · simp [s_loop, s_step, hc, ha]
        · simp [s_loop, s_step, hc, ha]
/-- a loop whose states are told: N rounds on, then out -/
theorem s_loop_run {c : XB} {a u : XS} (σ : Nat → XE × XH) (r : XO × XE × XH) : ∀ (N n : Nat), N < n → (∀ i, i < N → s_step c a u (σ i).1 (σ i).2 = some (.inr (σ (i + 1)))) → s_step c a u (σ N).1 (σ N).2 = some (.inl r) → s_loop n c a u (σ 0).1 (σ 0).2 = some r := by
  intro N
  induction N generalizing σ with
  | zero =>
    intro n hn _ h2
    obtain ⟨m, rfl⟩ : ∃ m, n = m + 1 := ⟨n - 1, by omega⟩
    rw [s_loop_step, h2]
    rfl
  | succ N ih =>
    intro n hn h1 h2
    obtain ⟨m, rfl⟩ : ∃ m, n = m + 1 := ⟨n - 1, by omega⟩
    rw [s_loop_step, h1 0 (by omega)]
    exact ih (fun i => σ (i + 1)) m (by omega) (fun i hi => h1 (i + 1) (by omega)) h2
def x_out (r : Option (XO × XE × XH)) : Option (XO × XH) := r.map (fun q => (q.1, q.2.2))
theorem x_out_spec {r : Option (XO × XE × XH)} {o : XO} {h : XH} (hr : x_out r = some (o, h)) : ∃ env, r = some (o, env, h) := by
  unfold x_out at hr
  obtain ⟨q, h1, h2⟩ := Option.map_eq_some_iff.mp hr
  cases h2
  exact ⟨q.2.1, h1⟩
theorem xM_run {ci k n a c : Nat} {vd : Bool} {body : XS} {as : List Value} {h h' : XH} {fs : List Value} {rv : Option Value} {env : XE} (h1 : h[a]? = some (.inl (c, fs))) (hc : c = ci) (h2 : as.length = k) (h3 : (xSlots (.ref a :: as)).length ≤ n) (he : xEnv n (.ref a :: as) = env) (hb : x_out (body env h) = some (some (.inr rv), h')) (hv : rv.isNone = vd) : xM ci k n vd body (.ref a :: as) h = some (rv, h') := by
  subst hc
  subst he
  obtain ⟨env', hb⟩ := x_out_spec hb
  simp [xM, h1, h2, h3, xRun, hb, hv]
theorem xMS_run {k n : Nat} {vd : Bool} {body : XS} {as : List Value} {h h' : XH} {rv : Option Value} {env : XE} (h2 : as.length = k) (h3 : (xSlots as).length ≤ n) (he : xEnv n as = env) (hb : x_out (body env h) = some (some (.inr rv), h')) (hv : rv.isNone = vd) : xMS k n vd body as h = some (rv, h') := by
  subst he
  obtain ⟨env', hb⟩ := x_out_spec hb
  simp [xMS, h2, h3, xRun, hb, hv]
theorem set_at {h : XH} {a : Nat} {c c' : XC} (hh : h[a]? = some c) : (h.set a c')[a]? = some c' := List.getElem?_set_self (List.getElem?_eq_some_iff.mp hh).1
theorem set_ne {h : XH} {a b : Nat} {c' : XC} (hab : a ≠ b) : (h.set a c')[b]? = h[b]? := List.getElem?_set_ne hab
theorem nI_lit (k : Nat) : (OfNat.ofNat k : Int32) = nI k := rfl
def bI (c : Bool) : Int32 := if c = true then 1 else 0
theorem bI_def {p : Prop} [Decidable p] : (if p then (1 : Int32) else 0) = bI (decide p) := by unfold bI; split <;> simp_all
theorem bI_01 (c : Bool) : (bI c = 0 ∨ bI c = 1) = True := by cases c <;> simp [bI]
theorem bI_eq0 (c : Bool) : (bI c = 0) = (c = false) := by cases c <;> simp [bI]
theorem bI_eq1 (c : Bool) : (bI c = 1) = (c = true) := by cases c <;> simp [bI]
theorem bool_or (c : Bool) : (c = false ∨ c = true) = True := by cases c <;> simp
theorem bI_t : bI true = 1 := rfl
theorem bI_f : bI false = 0 := rfl
theorem tern_pure {p : Prop} [Decidable p] (x y : Int32) (h : XH) : (if p then some (Value.int x, h) else some (Value.int y, h)) = some (Value.int (if p then x else y), h) := by split <;> rfl
theorem and_pure {p : Prop} [Decidable p] (d : Bool) (h : XH) : (if p then some (d, h) else some (false, h)) = some (decide p && d, h) := by split <;> simp_all
theorem or_pure {p : Prop} [Decidable p] (d : Bool) (h : XH) : (if p then some (true, h) else some (d, h)) = some (decide p || d, h) := by split <;> simp_all
theorem ndf (c : Bool) : (!decide (c = false)) = c := by cases c <;> rfl
theorem bne_t (c : Bool) : decide (¬ c = false) = c := by cases c <;> rfl
theorem nI_small {a : Nat} (h : a < 2 ^ 31) : (nI a = 0 ↔ a = 0) := nI_eq (b := 0) h (by decide)
theorem nI_ge0 {a : Nat} (h : a < 2 ^ 31) : (0 ≤ nI a) = True := by simp [nI_pos' h]
theorem nI_lt0 {a : Nat} (h : a < 2 ^ 31) : (nI a < 0) = False := by simp [nI_pos h]
theorem nI_le0 {a : Nat} (h : a < 2 ^ 31) : (nI a ≤ 0 ↔ a = 0) := by
  have := nI_leI (a := a) (b := 0) h (by decide)
  rw [show (0 : Int32) = nI 0 from rfl, this]
  omega
theorem nI_gt0 {a : Nat} (h : a < 2 ^ 31) : (0 < nI a ↔ 0 < a) := nI_ltI (a := 0) (by decide) h
theorem nI_m (a b : Nat) : nI a * nI b = nI (a * b) := pk_mul a b
theorem nI_d {a d : Nat} (ha : a < 2 ^ 31) (h0 : 0 < d) (hd : d < 2 ^ 31) : nI a / nI d = nI (a / d) := pk_div ha h0 hd
theorem nI_r {a d : Nat} (ha : a < 2 ^ 31) (h0 : 0 < d) (hd : d < 2 ^ 31) : nI a - nI a / nI d * nI d = nI (a % d) := pk_rem ha h0 hd
theorem l1 : (1 : Int32) = nI 1 := rfl
theorem l0 : (0 : Int32) = nI 0 := rfl
theorem l2 : (2 : Int32) = nI 2 := rfl
theorem l3 : (3 : Int32) = nI 3 := rfl
theorem l4 : (4 : Int32) = nI 4 := rfl
theorem l5 : (5 : Int32) = nI 5 := rfl
theorem l6 : (6 : Int32) = nI 6 := rfl
theorem l8 : (8 : Int32) = nI 8 := rfl
theorem l9 : (9 : Int32) = nI 9 := rfl
theorem l10 : (10 : Int32) = nI 10 := rfl
theorem l14 : (14 : Int32) = nI 14 := rfl
theorem l18 : (18 : Int32) = nI 18 := rfl
theorem l20 : (20 : Int32) = nI 20 := rfl
theorem l22 : (22 : Int32) = nI 22 := rfl
theorem l58 : (58 : Int32) = nI 58 := rfl
theorem l999 : (999 : Int32) = nI 999 := rfl
/-- nothing but the cells told is changed -/
def xFr (I : Nat → Prop) (h h' : XH) : Prop := h'.length = h.length ∧ xsl h' = xsl h ∧ ∀ a : Nat, ¬ I a → h'[a]? = h[a]?
theorem xFr.rf (I : Nat → Prop) (h : XH) : xFr I h h := ⟨rfl, rfl, fun _ _ => rfl⟩
theorem xFr.trans {I J : Nat → Prop} {h1 h2 h3 : XH} (f : xFr I h1 h2) (g : xFr J h2 h3) : xFr (fun a => I a ∨ J a) h1 h3 :=
  ⟨g.1.trans f.1, g.2.1.trans f.2.1, fun a ha => (g.2.2 a (fun q => ha (Or.inr q))).trans (f.2.2 a (fun q => ha (Or.inl q)))⟩
theorem xFr.mono {I J : Nat → Prop} {h1 h2 : XH} (f : xFr I h1 h2) (hIJ : ∀ a, I a → J a) : xFr J h1 h2 := ⟨f.1, f.2.1, fun a ha => f.2.2 a (fun q => ha (hIJ a q))⟩
theorem xFr.set {h : XH} {a : Nat} {c c' : XC} (hh : h[a]? = some c) (hs : xSz c' = xSz c) : xFr (fun b => b = a) h (h.set a c') := ⟨List.length_set, xsl_set hh hs, fun b hb => List.getElem?_set_ne (fun q => hb q.symm)⟩
theorem x_row_ne {h : XH} {x y t : Nat} {c : XC} (hxy : y ≠ x) : x_row t (.ref x) (h.set y c) = x_row t (.ref x) h := by
  simp [x_row, List.getElem?_set_ne hxy]
theorem x_row_self {h : XH} {y : Nat} {l : List Int32} (hy : y < h.length) : x_row 0 (.ref y) (h.set y (.inr (.inl (0, l)))) = some (y, l) := by
  simp [x_row, List.getElem?_set_self hy]
def x_cp (v w u : Value) (h : XH) : Option XH := match v, w, u with
  | .ref x, .ref y, .int n => (x_row 0 (.ref x) h).bind fun r => (x_row 0 (.ref y) h).bind fun q => if n < 0 then none else if r.2.length = n.toNatClampNeg ∧ q.2.length = n.toNatClampNeg ∧ x ≠ y then some (h.set y (.inr (.inl (0, r.2)))) else none
  | _, _, _ => none
theorem s_copy_eq {a b e : XX} {env : XE} {h h1 h2 h3 : XH} {v w u : Value} (ha : a env h = some (v, h1)) (hb : b env h1 = some (w, h2)) (he : e env h2 = some (u, h3)) {h' : XH} (hc : x_cp v w u h3 = some h') : s_copy a b e env h = some (none, env, h') := by
  unfold x_cp at hc
  split at hc
  · rename_i x y n
    obtain ⟨⟨x1, xs⟩, e1, hc⟩ := Option.bind_eq_some_iff.mp hc
    obtain ⟨⟨y1, ys⟩, e2, hc⟩ := Option.bind_eq_some_iff.mp hc
    split at hc
    · cases hc
    · rename_i hn
      split at hc
      · rename_i hq
        cases hc
        obtain ⟨p1, p2⟩ := x_row_spec e1
        obtain ⟨p3, p4⟩ := x_row_spec e2
        cases p1
        cases p3
        dsimp only at hq
        have g0 : (0 : Int32) = 0 := rfl
        simp only [s_copy, x_args, ha, hb, he, e_lit, Option.bind_some, Option.map_some, p2, p4, hn, hq.1, hq.2.1, hq.2.2, and_self, not_false_eq_true, ne_eq, if_true]
      · cases hc
  · cases hc
theorem find_none {p : Nat → Bool} {n : Nat} (h : (List.range n).find? p = none) : ∀ i, i < n → p i = false := by
  intro i hi
  have := List.find?_eq_none.mp h i (List.mem_range.mpr hi)
  simpa using this
theorem find_some {p : Nat → Bool} {n k : Nat} (h : (List.range n).find? p = some k) : k < n ∧ p k = true ∧ ∀ i, i < k → p i = false := by
  obtain ⟨h1, j, hj, h2, h3⟩ := List.find?_eq_some_iff_getElem.mp h
  simp at h2
  subst h2
  refine ⟨by simpa using hj, h1, fun i hi => ?_⟩
  have := h3 i hi
  simpa using this
/-- a loop that goes out at the first of so many -/
theorem s_loop_find {c : XB} {a u : XS} (σ : Nat → XE × XH) (p : Nat → Bool) (r : Nat → XO × XE × XH) (e : XO × XE × XH) (N n : Nat) (hN : N < n) (h1 : ∀ i, i < N → p i = false → s_step c a u (σ i).1 (σ i).2 = some (.inr (σ (i + 1)))) (h2 : ∀ i, i < N → p i = true → s_step c a u (σ i).1 (σ i).2 = some (.inl (r i))) (h3 : s_step c a u (σ N).1 (σ N).2 = some (.inl e)) : s_loop n c a u (σ 0).1 (σ 0).2 = some (match (List.range N).find? p with
    | some k => r k
    | none => e) := by
  cases hf : (List.range N).find? p with
  | none => exact s_loop_run σ _ N n hN (fun i hi => h1 i hi (find_none hf i hi)) h3
  | some k =>
    obtain ⟨g1, g2, g3⟩ := find_some hf
    exact s_loop_run σ _ k n (by omega) (fun i hi => h1 i (by omega) (g3 i hi)) (h2 k g1 g2)
