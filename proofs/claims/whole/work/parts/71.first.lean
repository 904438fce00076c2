/-! THE FIRST HEAP holds the same system twice -/
def H_0 : XH := H_1 ++ H_2
def P_0 : XP := (6, 30, 7, 4, fun i => [0, 1, 0, 2, 1, 3, 0, 0, 0].getD i 0, fun i => [0, 1, 2, 3, 1, 4, 5, 0, 0].getD i 0, fun i => [1, 2, 3, 0, 4, 5, 2, 0, 0].getD i 0, fun i => [0, 1, 2, 3].getD i 0, fun i => [0, 2, 4, 5].getD i 0, fun i => [3, 4, 2, 5].getD i 0)
def Y_0 : XSy := (P_0, sBegin P_0, [], [], (0, fun _ => 0, fun _ => 0), [])
def S_z : XT := (0, fun _ => 0, fun _ => 0, fun _ => 0, fun _ => 0, fun _ => 0)
def cellL (h : XH) (a i : Nat) : Int32 := match h[a]? with
  | some (.inr (.inl (_, l))) => l.getD i 0
  | _ => 0
theorem P0_ok : POK P_0 := by
  refine ⟨by decide, by decide, by decide, by decide, by decide, by decide, ?_, ?_⟩
  · have : ∀ s, s < 7 → pK P_0 s ≤ 3 ∧ pA P_0 s < 6 ∧ pZ P_0 s < 6 ∧ pA P_0 s ≠ pZ P_0 s := by decide
    exact this
  · have : ∀ w, w < 4 → wK P_0 w ≤ 3 ∧ wP P_0 w < 6 ∧ 1 ≤ wG P_0 w ∧ wG P_0 w ≤ 9 := by decide
    exact this
theorem Y0_ok : YOK 0 Y_0 := by
  refine ⟨by omega, P0_ok, ⟨fun s hs => Nat.zero_le _, fun w hw => (P0_ok.2.2.2.2.2.2.2 w hw).2.1, fun i hi => ?_⟩, fun S h => (by cases h), fun S h => (by cases h), Nat.zero_le _, fun i h => (by cases h), Nat.zero_le _, fun x h => (by cases h), by decide⟩
  show -((0 : Nat) : Int) ≤ 0 ∧ (0 : Int) ≤ ((0 : Nat) : Int)
  omega
set_option maxRecDepth 100000 in
theorem S0_any : ∀ i, i < 8 → SAt H_0 (32 + 6 * i) S_z := fun i hi => match i, hi with
  | 0, _ => ⟨by decide +kernel, by decide +kernel, by decide +kernel, by decide +kernel, by decide +kernel, by decide +kernel⟩
  | 1, _ => ⟨by decide +kernel, by decide +kernel, by decide +kernel, by decide +kernel, by decide +kernel, by decide +kernel⟩
  | 2, _ => ⟨by decide +kernel, by decide +kernel, by decide +kernel, by decide +kernel, by decide +kernel, by decide +kernel⟩
  | 3, _ => ⟨by decide +kernel, by decide +kernel, by decide +kernel, by decide +kernel, by decide +kernel, by decide +kernel⟩
  | 4, _ => ⟨by decide +kernel, by decide +kernel, by decide +kernel, by decide +kernel, by decide +kernel, by decide +kernel⟩
  | 5, _ => ⟨by decide +kernel, by decide +kernel, by decide +kernel, by decide +kernel, by decide +kernel, by decide +kernel⟩
  | 6, _ => ⟨by decide +kernel, by decide +kernel, by decide +kernel, by decide +kernel, by decide +kernel, by decide +kernel⟩
  | 7, _ => ⟨by decide +kernel, by decide +kernel, by decide +kernel, by decide +kernel, by decide +kernel, by decide +kernel⟩
  | m + 8, h => absurd h (by omega)
set_option maxRecDepth 100000 in
theorem S0_any2 : ∀ i, i < 2 → SAt H_0 (82 + 6 * i) S_z := fun i hi => match i, hi with
  | 0, _ => ⟨by decide +kernel, by decide +kernel, by decide +kernel, by decide +kernel, by decide +kernel, by decide +kernel⟩
  | 1, _ => ⟨by decide +kernel, by decide +kernel, by decide +kernel, by decide +kernel, by decide +kernel, by decide +kernel⟩
  | m + 2, h => absurd h (by omega)
set_option maxRecDepth 100000 in
theorem H0_D : DAt H_0 Y_0 := by
  refine ⟨by decide +kernel, ⟨⟨1, 1, by decide +kernel⟩, ⟨cellL H_0 9, by decide +kernel, fun i h => absurd h (Nat.not_lt_zero _)⟩, ⟨cellL H_0 10, by decide +kernel⟩, ⟨6, 30, 7, 4, by decide +kernel⟩, ⟨cellL H_0 3, by decide +kernel⟩, ⟨cellL H_0 4, by decide +kernel⟩, ⟨cellL H_0 5, by decide +kernel⟩, ⟨cellL H_0 6, by decide +kernel⟩, ⟨cellL H_0 7, by decide +kernel⟩, cellL H_0 8, by decide +kernel⟩, ⟨by decide +kernel, by decide +kernel, by decide +kernel, by decide +kernel, by decide +kernel, by decide +kernel, by decide +kernel⟩, ⟨by decide +kernel, by decide +kernel, by decide +kernel, by decide +kernel, by decide +kernel, by decide +kernel⟩, ⟨S_z, ⟨by decide +kernel, by decide +kernel, by decide +kernel, by decide +kernel, by decide +kernel, by decide +kernel⟩⟩, ⟨Nat.zero_le _, by decide +kernel, fun i => 32 + 6 * i, by decide +kernel, fun i hi => ⟨i, hi, rfl⟩, fun i j _ _ e => (by dsimp only at e; omega), fun i hi => ⟨S_z, S0_any i hi⟩, fun i S h => (by simp [yQ, Y_0] at h)⟩, ⟨Nat.zero_le _, by decide +kernel, fun i => 82 + 6 * i, by decide +kernel, fun i hi => ⟨i, hi, rfl⟩, fun i j _ _ e => (by dsimp only at e; omega), fun i hi => ⟨S_z, S0_any2 i hi⟩, fun i S h => (by simp [yK, Y_0] at h)⟩, ⟨by decide +kernel, by decide +kernel, by decide +kernel⟩, ⟨0, by decide +kernel⟩, ⟨fun _ => 0, by decide +kernel⟩, by decide +kernel, ⟨fun _ => 0, by decide +kernel⟩, by decide +kernel, ⟨fun _ => 0, by decide +kernel⟩, ⟨0, 0, by decide +kernel⟩, ⟨fun _ => 0, by decide +kernel⟩, fun _ => 0, by decide +kernel⟩
set_option maxRecDepth 100000 in
theorem H0_R : RAt H_0 Y_0 := by
  refine ⟨⟨Nat.zero_le _, Nat.zero_le _⟩, ⟨fun i => [0, 0, 6, 7, 4, 30, 0].getD i 0, ?_⟩, ⟨bgF P_0 (fun _ => 0) 4, ?_, bgF_Bk P0_ok _, ⟨fun i S h => (by simp [yQ, Y_0] at h), fun i S h => (by simp [yK, Y_0] at h)⟩⟩, ⟨⟨fun i => nI (pK P_0 i), by decide +kernel, fun _ _ => rfl⟩, ⟨fun i => nI (pA P_0 i), by decide +kernel, fun _ _ => rfl⟩, ⟨fun i => nI (pZ P_0 i), by decide +kernel, fun _ _ => rfl⟩, ⟨fun i => nI (wK P_0 i), by decide +kernel, fun _ _ => rfl⟩, fun i => nI (wG P_0 i), by decide +kernel, fun _ _ => rfl⟩, ⟨⟨fun _ => 0, by decide +kernel, fun i h => absurd h (Nat.not_lt_zero _)⟩, fun _ => 0, by decide +kernel, fun i h => absurd h (Nat.not_lt_zero _)⟩, ⟨fun _ => 0, by decide +kernel, fun i h => absurd h (Nat.not_lt_zero _)⟩, ⟨cellL H_0 116, by decide +kernel⟩, ⟨cellL H_0 117, by decide +kernel⟩, ⟨fun _ => 0, by decide +kernel⟩, fun _ => 0, by decide +kernel⟩
  · unfold RObj
    decide +kernel
  · decide +kernel
set_option maxRecDepth 100000 in
theorem H0_len : H_0.length = 120 ∧ H_1.length = 106 ∧ xsl H_0 ≤ 7302250 := by decide +kernel
