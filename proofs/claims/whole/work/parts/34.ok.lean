/-! what every call keeps of the class's state -/
theorem TOK.up {P : XP} {c : Nat} {S : XT} (T : TOK P c S) : TOK P (c + 1) S := ⟨T.1, T.2.1, fun i hi => by have := T.2.2 i hi; omega⟩
theorem TOK.sGo {P : XP} {c w s : Nat} {S : XT} (O : POK P) (T : TOK P c S) (hw : w < pM P) (hs : s < pN P) : TOK P (c + 1) (sGo P S w s) := by
  have o := O.2.2.2.2.2.2.1 s hs
  refine ⟨fun i hi => ?_, fun i hi => ?_, fun i hi => ?_⟩
  · have := T.1 i hi
    show (if i = s then min (tW S s + pW P w s) 999 else tW S i) ≤ 999
    split <;> omega
  · have := T.2.1 i hi
    show (if i = w then pX P s (tP S w) else tP S i) < pF P
    split
    · unfold pX; split <;> omega
    · exact this
  · have := T.2.2 i hi
    show -((c + 1 : Nat) : Int) ≤ (if i = 9 * w + s then tA S i + (if pA P s = tP S w then 1 else -1) else tA S i) ∧ (if i = 9 * w + s then tA S i + (if pA P s = tP S w then 1 else -1) else tA S i) ≤ ((c + 1 : Nat) : Int)
    split
    · split <;> omega
    · omega
theorem TOK.sRenew {P : XP} {c s : Nat} {S : XT} (T : TOK P c S) : TOK P c (sRenew S s) := by
  refine ⟨fun i hi => ?_, T.2.1, fun i hi => ?_⟩
  · have := T.1 i hi
    show (if i = s then 0 else tW S i) ≤ 999
    split <;> omega
  · have := T.2.2 i hi
    show -(c : Int) ≤ (if i % 9 = s then 0 else tA S i) ∧ (if i % 9 = s then 0 else tA S i) ≤ (c : Int)
    split <;> omega
theorem TOK.sWear {P : XP} {c s k : Nat} {S : XT} (T : TOK P c S) : TOK P c (sWear S s k) := by
  refine ⟨fun i hi => ?_, T.2.1, T.2.2⟩
  have := T.1 i hi
  show (if i = s then min (tW S s + k) 999 else tW S i) ≤ 999
  split <;> omega
section OK
variable {Y : XSy} {c : Nat}
theorem YOK.up (K : YOK c Y) (hc : c < 1000) : YOK (c + 1) Y := by
  obtain ⟨k1, k2, k3, k4, k5, k6⟩ := K
  exact ⟨hc, k2, k3.up, fun S h => (k4 S h).up, fun S h => (k5 S h).up, k6⟩
theorem mem_push {Y : XSy} {S : XT} (h : S ∈ yPush Y) : S ∈ yQ Y ∨ S = yS Y := by
  unfold yPush at h
  rcases List.mem_append.mp h with h | h
  · left
    split at h
    · exact List.mem_of_mem_drop h
    · exact h
  · right; simpa using h
theorem YOK.putSQ (K : YOK c Y) (hc : c < 1000) {S : XT} (T : TOK (yP Y) (c + 1) S) : YOK (c + 1) (yP Y, S, yPush Y, yK Y, yG Y, yL Y) := by
  obtain ⟨k1, k2, k3, k4, k5, k6⟩ := K
  refine ⟨hc, k2, T, fun S h => ?_, fun S h => (k5 S h).up, k6⟩
  rcases mem_push h with h | rfl
  · exact (k4 S h).up
  · exact k3.up
theorem YOK.tread (K : YOK c Y) (hc : c < 1000) (x y : Int32) : YOK (c + 1) (yTread Y x y) := by
  have O := K.2.1
  have o5 := O.2.2.2.2.1
  have o6 := O.2.2.2.2.2.1
  unfold yTread
  rcases inR_cases x (n := pM (yP Y)) (by omega) with q | ⟨w, hw, rfl, q⟩
  · rw [if_pos q]; exact K.up hc
  · rcases inR_cases y (n := pN (yP Y)) (by omega) with q2 | ⟨k, hk, rfl, q2⟩
    · simp only [q, q2, Bool.true_eq_false, if_false, if_true]; exact K.up hc
    · simp only [q, q2, Bool.true_eq_false, if_false, iN_nI (show w < 2 ^ 31 by omega), iN_nI (show k < 2 ^ 31 by omega)]
      split
      · exact K.putSQ hc (K.2.2.1.sGo O hw hk)
      · exact K.up hc
theorem YOK.replace (K : YOK c Y) (hc : c < 1000) (x : Int32) : YOK (c + 1) (yReplace Y x) := by
  unfold yReplace
  split
  · exact K.up hc
  · exact K.putSQ hc K.2.2.1.up.sRenew
theorem YOK.sand (K : YOK c Y) (hc : c < 1000) (x : Int32) : YOK (c + 1) (ySand Y x) := by
  unfold ySand
  split
  · exact K.up hc
  · exact K.putSQ hc K.2.2.1.up.sWear
theorem YOK.undo (K : YOK c Y) (hc : c < 1000) : YOK (c + 1) (yUndo Y) := by
  unfold yUndo
  cases q : (yQ Y).getLast? with
  | none => exact K.up hc
  | some S =>
    obtain ⟨k1, k2, k3, k4, k5, k6⟩ := K
    exact ⟨hc, k2, (k4 S (List.mem_of_getLast? q)).up, fun S h => (k4 S (List.dropLast_subset _ h)).up, fun S h => (k5 S h).up, k6⟩
theorem YOK.back (K : YOK c Y) (hc : c < 1000) : YOK (c + 1) (yBack Y) := by
  unfold yBack
  cases q : (yK Y).getLast? with
  | none => exact K.up hc
  | some S =>
    obtain ⟨k1, k2, k3, k4, k5, k6⟩ := K
    exact ⟨hc, k2, (k5 S (List.mem_of_getLast? q)).up, fun S h => (by cases h), fun S h => (k5 S (List.dropLast_subset _ h)).up, k6⟩
theorem YOK.keep (K : YOK c Y) (hc : c < 1000) : YOK (c + 1) (yKeep Y) := by
  unfold yKeep
  split
  · exact K.up hc
  · obtain ⟨k1, k2, k3, k4, k5, k6⟩ := K
    refine ⟨hc, k2, k3.up, fun S h => (k4 S h).up, fun S h => ?_, k6⟩
    rcases List.mem_append.mp h with h | h
    · exact (k5 S h).up
    · rw [List.mem_singleton.mp h]; exact k3.up
theorem YOK.wipe (K : YOK c Y) (hc : c < 1000) : YOK (c + 1) (yP Y, yS Y, yQ Y, yK Y, yG Y, []) := by
  obtain ⟨k1, k2, k3, k4, k5, k6, k7, k8, k9, k10⟩ := K
  exact ⟨hc, k2, k3.up, fun S h => (k4 S h).up, fun S h => (k5 S h).up, k6, k7, Nat.zero_le _, fun x h => (by cases h), k10⟩
theorem YOK.forget (K : YOK c Y) (hc : c < 1000) : YOK (c + 1) (yP Y, yS Y, yQ Y, yK Y, (0, (yG Y).2), yL Y) := by
  obtain ⟨k1, k2, k3, k4, k5, k6, k7, k8⟩ := K
  exact ⟨hc, k2, k3.up, fun S h => (k4 S h).up, fun S h => (k5 S h).up, Nat.zero_le _, fun i h => (by cases h), k8⟩
theorem YOK.see (K : YOK c Y) (hc : c < 1000) (x v : Int32) : YOK (c + 1) (yAdd Y x v) := by
  have o5 := K.2.1.2.2.2.2.1
  unfold yAdd
  rcases inR_cases x (n := pN (yP Y)) (by omega) with q | ⟨k, hk, rfl, q⟩
  · rw [if_pos q]; exact K.up hc
  · rcases inR_cases v (n := 1000) (by omega) with q3 | ⟨z, hz, rfl, q3⟩
    · simp only [q, q3, Bool.true_eq_false, if_false, if_true]; exact K.up hc
    · simp only [q, q3, Bool.true_eq_false, if_false, iN_nI (show z < 2 ^ 31 by omega), iN_nI (show k < 2 ^ 31 by omega)]
      split
      · exact K.up hc
      · obtain ⟨k1, k2, k3, k4, k5, k6, k7, k8⟩ := K
        refine ⟨hc, k2, k3.up, fun S h => (k4 S h).up, fun S h => (k5 S h).up, ?_, fun i hi => ?_, k8⟩
        · show (yG Y).1 + 1 ≤ 6
          omega
        · show (if i = (yG Y).1 then k else (yG Y).2.1 i) < 9 ∧ (if i = (yG Y).1 then z else (yG Y).2.2 i) ≤ 999
          have hi : i < (yG Y).1 + 1 := hi
          split
          · omega
          · exact k7 i (by omega)
theorem YOK.write (K : YOK c Y) (hc : c < 1000) (x : Int32) : YOK (c + 1) (yWrite Y x) := by
  unfold yWrite
  rcases inC_cases x with ⟨q, q0⟩ | ⟨k, h1, h2, rfl, q⟩
  · rw [if_pos q]; exact K.up hc
  · simp only [q, Bool.true_eq_false, if_false, iN_nI (show k < 2 ^ 31 by omega)]
    split
    · exact K.up hc
    · obtain ⟨k1, k2, k3, k4, k5, k6, k7, k8, k9, k10⟩ := K
      refine ⟨hc, k2, k3.up, fun S h => (k4 S h).up, fun S h => (k5 S h).up, k6, k7, ?_, fun x h => ?_, k10⟩
      · show (yL Y ++ [k]).length ≤ 200
        rw [List.length_append]
        simp only [List.length_cons, List.length_nil]
        omega
      · rcases List.mem_append.mp h with h | h
        · exact k9 x h
        · rw [List.mem_singleton.mp h]; omega
end OK
