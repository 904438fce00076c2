/-! THE RULE of System.arraycopy, of a whole row onto a row as long; a contract out of a walk -/
section XCP
variable {K : XK} {own : String} {cc : ByteArray} {ini bz : Bool} {fr lo pc : Nat} {env : XE} {h : XH}
def xCopyW (own : String) (idx : Nat) : Prop := Cond.methodLink own idx arraycopyName ∈ xBW ∧ Cond.native arraycopyName ∈ xBW ∧ Cond.static arraycopyName ∈ xBW ∧ Cond.initialized "java/lang/System" ∈ xBW
theorem g_copy {idx a0 a1 : Nat} {xs ys : List Int32} {n : Int32} (C : xOK K own cc ini bz fr lo) (hd : decode cc pc = .ok (.invokestatic idx, 3)) (hW : xCopyW own idx) (hr1 : 1 ≤ fr) (hr2 : nativeFrameWords "java/lang/System" "arraycopy" 5 + 11 ≤ lo) (hn : ¬ n < 0) (h0 : h[a0]? = some (.inr (.inl (0, xs)))) (h1' : h[a1]? = some (.inr (.inl (0, ys)))) (l0 : xs.length = n.toNatClampNeg) (l1 : ys.length = n.toNatClampNeg) (hne : a0 ≠ a1) (k : xG K (pc + 3) env [] (h.set a1 (.inr (.inl (0, xs))))) : xG K pc env [.int n, .int 0, .ref a1, .int 0, .ref a0] h := by
  obtain ⟨fl, p, l, e, R, s, m, args, below, meth, c, b, D, cI, n0, s0, rv0, hF, Q⟩ := K
  have k1 := k.1
  have hS : xsl (h.set a1 (.inr (.inl (0, xs)))) = xsl h := xsl_set h1' (by simp [xSz, l0, l1])
  rw [List.length_set, hS] at k1
  refine And.intro k1 (fun hf H locs ls h1 h2 h3 h4 h5 => ?_)
  obtain ⟨hx, hb, hown, hts, hK, hini, hbs, hrc, hrs, hfr, hlo, hex⟩ := C.1 hf
  have kk := k.2 hf
  rw [hS, List.length_set] at kk
  obtain ⟨w1, w2, w3, w4⟩ := hW
  have hal : a1 < h.length := (List.getElem?_eq_some_iff.mp h1').1
  have hc0 : H[b + a0]? = some (vp_cell (cI 0) (xs.length, .inl (fun j => xs.getD j 0))) := h2.2 a0 _ h0
  have hc1 : H[b + a1]? = some (vp_cell (cI 0) (ys.length, .inl (fun j => ys.getD j 0))) := h2.2 a1 _ h1'
  obtain ⟨-, q0, hk0, cm0, hkk0⟩ := (hK.2 0 _ rfl).1 xs.length (fun j => .int (xs.getD j 0))
  obtain ⟨-, q1, hk1, cm1, hkk1⟩ := (hK.2 0 _ rfl).1 ys.length (fun j => .int (ys.getD j 0))
  have nn : n.toInt = (n.toNatClampNeg : Int) := by
    have hz0 : (0 : Int) ≤ n.toInt := by
      have := Int32.not_lt.mp hn
      simpa using Int32.le_iff_toInt_le.mp this
    show n.toInt = ((n.toInt.toNat : Nat) : Int)
    omega
  intro T hT X
  obtain ⟨vm', X', step⟩ := X.arraycopy hx hown (hts _ w1) (hts _ w2) (hts _ w3) (hts _ w4) (src := b + a0) (dst := b + a1) (cs := vp_cell (cI 0) (xs.length, .inl (fun j => xs.getD j 0))) (cd := vp_cell (cI 0) (ys.length, .inl (fun j => ys.getD j 0))) (srcPos := 0) (destPos := 0) (n := n) (by rw [hT]; exact hc0) (by rw [hT]; exact hc1)
    (fun _ h => by cases h) (fun _ h => by cases h) (fun h => by cases h) (fun h => by cases h) hk0 hk1 hkk0 hkk1 rfl (by decide) (by decide) hn
    (by rw [nn]; show ¬ _ > ((arrV (cI 0) xs.length (fun j => .int (xs.getD j 0))).slots.size : Int); rw [arrV_size, l0]; simp)
    (by rw [nn]; show ¬ _ > ((arrV (cI 0) ys.length (fun j => .int (ys.getD j 0))).slots.size : Int); rw [arrV_size, l1]; simp)
    (fun vm₁ _ i hi => by
      have e : (vp_cell (cI 0) (xs.length, .inl (fun j => xs.getD j 0))).slots.getD ((0 : Int32).toNatClampNeg + i) .null = .int (xs.getD ((0 : Int32).toNatClampNeg + i) 0) := by
        show (arrV (cI 0) xs.length (fun j => .int (xs.getD j 0))).slots.getD _ _ = _
        rw [Array.getD_eq_getD_getElem?, arrV_read _ _ (by rw [l0]; have : (0 : Int32).toNatClampNeg = 0 := rfl; omega)]
        rfl
      refine ⟨?_, ?_⟩
      · rw [e]
        rfl
      · rw [e]
        exact trivial)
    (g := F0 m pc ls [.int n, .int 0, .ref (b + a1), .int 0, .ref (b + a0)]) rfl (by exact h1.2.1) (rest := []) rfl (by rw [hb]; exact hd) (Nat.le_trans hr1 hfr) (by show 2 * 0 + _ + _ ≤ _; simp only [List.map_nil, List.sum_nil]; omega)
  have hcpy : va_cpy (fun j => xs.getD j 0) (fun j => ys.getD j 0) (0 : Int32).toNatClampNeg (0 : Int32).toNatClampNeg n.toNatClampNeg = fun j => xs.getD j 0 := by
    funext j
    have hz : (0 : Int32).toNatClampNeg = 0 := rfl
    rw [hz]
    unfold va_cpy
    by_cases hj : j < n.toNatClampNeg
    · rw [if_pos ⟨Nat.zero_le _, by omega⟩]
      simp
    · rw [if_neg (by omega)]
      simp only [List.getD_eq_getElem?_getD]
      rw [List.getElem?_eq_none (by omega), List.getElem?_eq_none (by omega)]
  have e1 : copied (vp_cell (cI 0) (xs.length, .inl (fun j => xs.getD j 0))) (vp_cell (cI 0) (ys.length, .inl (fun j => ys.getD j 0))) 0 0 n = vp_cell (cI 0) (xs.length, .inl (fun j => xs.getD j 0)) := by
    have := va_copied (fun z => .int z) (cI 0) (cI 0) (n0 := ys.length) (n1 := ys.length) (sp := (0 : Int32).toNatClampNeg) (dp := (0 : Int32).toNatClampNeg) (n := n.toNatClampNeg) (fun j => xs.getD j 0) (fun j => ys.getD j 0) (by have : (0 : Int32).toNatClampNeg = 0 := rfl; omega)
    rw [hcpy] at this
    rw [l0, ← l1]
    exact this
  rw [e1] at X' step
  have hl : b + a1 < H.size := (Array.getElem?_eq_some_iff.mp hc1).1
  have hheap : ((T.setVm vm').setCell (b + a1) (vp_cell (cI 0) (xs.length, .inl (fun j => xs.getD j 0)))).heap = H.setIfInBounds (b + a1) (vp_cell (cI 0) (xs.length, .inl (fun j => xs.getD j 0))) := by rw [← hT]; rfl
  have oq : ∀ q : Nat, q ≠ b + a1 → (H.setIfInBounds (b + a1) (vp_cell (cI 0) (xs.length, .inl (fun j => xs.getD j 0))))[q]? = H[q]? := fun q hq => by simp [Array.getElem?_setIfInBounds, Ne.symm hq]
  obtain ⟨t, a1', b1⟩ := kk _ _ ls h1 (xAg_set h2 hal (by simp) oq (show (H.setIfInBounds (b + a1) _)[b + a1]? = some _ by simp [Array.getElem?_setIfInBounds, hl])) (fun q hq => by
      rw [oq q (Nat.ne_of_lt (Nat.lt_of_lt_of_le hq (Nat.le_add_right b a1)))]
      exact h3 q hq) (fun q hq => by
      rcases List.mem_append.mp hq with g | g
      · exact h4 q g
      · obtain ⟨z, -, hz⟩ := List.mem_map.mp g
        rw [← hz]
        exact Nat.le_add_right b a1) h5 _ hheap X'
  exact ⟨t, step t a1', b1⟩
end XCP
