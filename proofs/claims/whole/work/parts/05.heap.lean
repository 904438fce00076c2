/-! THE RULES of the cells: locals that are written, fields, arrays, new cells, switches -/
def xlg (env : XE) (i : Nat) : Bool := match i with
  | 0 => false
  | j + 1 => match env[j]? with
    | some (some (.long _)) => true
    | some (some (.double _)) => true
    | _ => false
def xst1 (env : XE) (i : Nat) (v : Value) : Option XE := if xlg env i = false ∧ i < env.length then some (env.set i (some v)) else none
def xst2 (env : XE) (i : Nat) (v : Value) : Option XE := if xlg env i = false ∧ i + 1 < env.length then some ((env.set i (some v)).set (i + 1) none) else none
def xLv (b : Nat) (env : XE) : List (Nat × Value) := (List.range env.length).filterMap (fun j => (env[j]?.join).map (fun v => (j, xv b v)))
theorem xLv_mem {b : Nat} {env : XE} {j : Nat} {w : Value} (h : env[j]? = some (some w)) : (j, xv b w) ∈ xLv b env := by
  have hj : j < env.length := (List.getElem?_eq_some_iff.mp h).1
  refine List.mem_filterMap.mpr ⟨j, List.mem_range.mpr hj, ?_⟩
  rw [h]
  rfl
theorem xLv_has {b n : Nat} {env : XE} {ls : Array Slot} (h : xRel b n env ls) : lv_has ls n (xLv b env) := by
  obtain ⟨h1, h2, h3, h4⟩ := h
  refine ⟨h2, h3, fun q hq => ?_⟩
  obtain ⟨j, -, hj⟩ := List.mem_filterMap.mp hq
  cases e : env[j]? with
  | none => rw [e] at hj; cases hj
  | some o =>
    cases o with
    | none => rw [e] at hj; cases hj
    | some w =>
      rw [e] at hj
      cases hj
      exact h4 j w e
theorem xlg_cat {env : XE} {j : Nat} {w : Value} (h : xlg env (j + 1) = false) (hw : env[j]? = some (some w)) : ¬ w.category = 2 := by
  unfold xlg at h
  simp only [hw] at h
  cases w <;> simp_all [Value.category]
theorem xst1_rel {b n i : Nat} {v : Value} {env env' : XE} {ls ls' : Array Slot} (h : xRel b n env ls) (he : xst1 env i v = some env') (h' : lv_has ls' n ((i, xv b v) :: (xLv b env).filter (fun q => !(q.1 == i) && !(q.1 + 1 == i && q.2.category == 2)))) : xRel b n env' ls' := by
  unfold xst1 at he
  split at he
  · rename_i hc
    cases he
    refine ⟨by rw [List.length_set]; exact h.1, h'.1, h'.2.1, fun j w hj => ?_⟩
    by_cases hji : j = i
    · subst hji
      rw [List.getElem?_set_self hc.2] at hj
      cases hj
      exact h'.2.2 _ (List.mem_cons_self)
    · rw [List.getElem?_set_ne (fun q => hji q.symm)] at hj
      refine h'.2.2 (j, xv b w) (List.mem_cons_of_mem _ (List.mem_filter.mpr ⟨xLv_mem hj, ?_⟩))
      have hz : ¬ (j + 1 = i ∧ (xv b w).category = 2) := by
        rintro ⟨q1, q2⟩
        subst q1
        rw [xv_cat] at q2
        exact xlg_cat hc.1 hj q2
      simp only [Bool.and_eq_true, Bool.not_eq_true', beq_eq_false_iff_ne, ne_eq, hji, not_false_eq_true, true_and]
      rw [← Bool.not_eq_true]
      simpa using hz
  · cases he
theorem xst2_rel {b n i : Nat} {v : Value} {env env' : XE} {ls ls' : Array Slot} (h : xRel b n env ls) (he : xst2 env i v = some env') (h' : lv_has ls' n ((i, xv b v) :: (xLv b env).filter (fun q => !(q.1 == i) && (!(q.1 == i + 1) && !(q.1 + 1 == i && q.2.category == 2))))) : xRel b n env' ls' := by
  unfold xst2 at he
  split at he
  · rename_i hc
    cases he
    refine ⟨by rw [List.length_set, List.length_set]; exact h.1, h'.1, h'.2.1, fun j w hj => ?_⟩
    by_cases hji : j = i
    · subst hji
      rw [List.getElem?_set_ne (by omega), List.getElem?_set_self (by omega)] at hj
      cases hj
      exact h'.2.2 _ (List.mem_cons_self)
    · by_cases hj1 : j = i + 1
      · subst hj1
        rw [List.getElem?_set_self (by rw [List.length_set]; exact hc.2)] at hj
        cases hj
      · rw [List.getElem?_set_ne (fun q => hj1 q.symm), List.getElem?_set_ne (fun q => hji q.symm)] at hj
        refine h'.2.2 (j, xv b w) (List.mem_cons_of_mem _ (List.mem_filter.mpr ⟨xLv_mem hj, ?_⟩))
        have hz : ¬ (j + 1 = i ∧ (xv b w).category = 2) := by
          rintro ⟨q1, q2⟩
          subst q1
          rw [xv_cat] at q2
          exact xlg_cat hc.1 hj q2
        simp only [Bool.and_eq_true, Bool.not_eq_true', beq_eq_false_iff_ne, ne_eq, hji, hj1, not_false_eq_true, true_and]
        rw [← Bool.not_eq_true]
        simpa using hz
  · cases he
theorem xst1_lt {env env' : XE} {i : Nat} {v : Value} (he : xst1 env i v = some env') : i < env.length := by
  unfold xst1 at he
  split at he
  · rename_i hc; exact hc.2
  · cases he
theorem xst2_lt {env env' : XE} {i : Nat} {v : Value} (he : xst2 env i v = some env') : i + 1 < env.length := by
  unfold xst2 at he
  split at he
  · rename_i hc; exact hc.2
  · cases he
def xFld (own : String) (idx ci k : Nat) : Prop := ∃ r : vw_C, xCl[ci]? = some r ∧ k < r.2.2 ∧ Cond.fieldLink own idx (r.2.1 k).1 (r.2.1 k).2.1 (r.2.1 k).2.2.1 ∈ xBW
/-- the kinds of field: 0 int, 1 boolean, 2 a reference -/
def xKd (kd : Nat) (v : Value) : Bool := match kd, v with
  | 0, .int _ => true
  | 1, .int x => x == 0 || x == 1
  | 2, .ref _ => true
  | _, _ => false
def xKt (kd : Nat) (ty : FieldType) : Bool := match kd, ty with
  | 0, .int => true
  | 1, .boolean => true
  | 2, .object _ => true
  | 2, .array _ => true
  | _, _ => false
theorem xKd_ok {kd b : Nat} {v : Value} {ty : FieldType} (h : xKd kd v = true) (ht : xKt kd ty = true) : narrow ty (xv b v) = xv b v ∧ fits ty (xv b v) = true := by
  unfold xKt at ht
  split at ht
  · cases v <;> simp_all [xKd, xv, narrow, fits]
  · cases v <;> simp [xKd] at h
    rename_i x
    rcases h with h | h <;> subst h
    · exact ⟨(by decide +kernel : narrow FieldType.boolean (.int 0) = .int 0), (by decide +kernel : fits FieldType.boolean (.int 0) = true)⟩
    · exact ⟨(by decide +kernel : narrow FieldType.boolean (.int 1) = .int 1), (by decide +kernel : fits FieldType.boolean (.int 1) = true)⟩
  · cases v <;> simp_all [xKd, xv, narrow, fits]
  · cases v <;> simp_all [xKd, xv, narrow, fits]
  · cases ht
def xPut (own : String) (idx ci k kd : Nat) (ini : Bool) : Prop := ∃ (r : vw_C) (ty : FieldType), xCl[ci]? = some r ∧ k < r.2.2 ∧ Cond.fieldLink own idx (r.2.1 k).1 (r.2.1 k).2.1 (r.2.1 k).2.2.1 ∈ xBW ∧ parseFieldDescriptor (r.2.1 k).2.2.1 = some ty ∧ xKt kd ty = true ∧ ((r.2.1 k).2.2.2 = true → ini = true ∧ (r.2.1 k).1 = own)
theorem xsl_set {h : XH} {a : Nat} {c c' : XC} (ha : h[a]? = some c) (hs : xSz c' = xSz c) : xsl (h.set a c') = xsl h := by
  unfold xsl
  induction h generalizing a with
  | nil => simp at ha
  | cons x t ih =>
    cases a with
    | zero =>
      simp at ha
      subst ha
      simp [hs]
    | succ n =>
      simp at ha
      simp only [List.set_cons_succ, List.map_cons, List.sum_cons]
      rw [ih ha]
theorem xAg_set {b a : Nat} {D : va_G} {cI : Nat → ClassId} {h : XH} {H H' : Heap} {c' : XC} (hA : xAg b D cI h H) (hl : a < h.length) (hz : H'.size = H.size) (ho : ∀ q, q ≠ b + a → H'[q]? = H[q]?) (hc : va_at D xCl (b + a, xE b cI c') H') : xAg b D cI (h.set a c') H' := by
  refine ⟨by rw [hz, List.length_set]; exact hA.1, fun j c hj => ?_⟩
  by_cases hja : j = a
  · subst hja
    rw [List.getElem?_set_self hl] at hj
    cases hj
    exact hc
  · rw [List.getElem?_set_ne (fun q => hja q.symm)] at hj
    exact (hA.2 j c hj).kept (ho _ (by omega))
theorem xAg_push {b : Nat} {D : va_G} {cI : Nat → ClassId} {h : XH} {H H' : Heap} {c' : XC} (hA : xAg b D cI h H) (hz : H'.size = H.size + 1) (ho : ∀ q, q < H.size → H'[q]? = H[q]?) (hc : va_at D xCl (H.size, xE b cI c') H') : xAg b D cI (h ++ [c']) H' := by
  refine ⟨by rw [hz, hA.1, List.length_append]; rfl, fun j c hj => ?_⟩
  by_cases hjl : j < h.length
  · rw [List.getElem?_append_left hjl] at hj
    exact (hA.2 j c hj).kept (ho _ (by rw [hA.1]; exact Nat.add_lt_add_left hjl b))
  · rw [List.getElem?_append_right (by omega)] at hj
    have hz2 : j - h.length < 1 := (List.getElem?_eq_some_iff.mp hj).1
    have hj0 : j = h.length := by omega
    subst hj0
    rw [show h.length - h.length = 0 by omega] at hj
    cases hj
    rw [← hA.1]
    exact hc
theorem xP1 {D : va_G} {q : Nat × va_E} {H : Heap} (h : va_at D xCl q H) : va_P D xCl [q] H := by
  intro k x hk
  have hz : k < 1 := (List.getElem?_eq_some_iff.mp hk).1
  rw [show k = 0 by omega] at hk
  cases hk
  exact h
