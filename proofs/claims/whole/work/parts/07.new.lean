/-! THE RULES of new cells, of switches, of copies -/
def xNew (own : String) (idx ci : Nat) : Prop := ∃ r : vw_C, xCl[ci]? = some r ∧ Cond.classLink own idx r.1 ∈ xBW ∧ Cond.instantiable r.1 r.2.2 ∈ xBW ∧ Cond.initialized r.1 ∈ xBW
/-- the fields of a new cell -/
def xDf (ci : Nat) : List Value := match xCl[ci]? with
  | some r => (List.range r.2.2).map (fun k => match parseFieldDescriptor (r.2.1 k).2.2.1 with
    | some ty => defaultValue ty
    | none => .null)
  | none => []
theorem xv_default (b : Nat) (ty : FieldType) : xv b (defaultValue ty) = defaultValue ty := by cases ty <;> rfl
theorem xsl_app (h : XH) (c : XC) : xsl (h ++ [c]) = xsl h + xSz c := by simp [xsl]
section XN
variable {K : XK} {own : String} {cc : ByteArray} {ini bz : Bool} {fr lo pc : Nat} {env env' : XE} {st : List Value} {h : XH}
theorem g_new {idx ci : Nat} (C : xOK K own cc ini bz fr lo) (hd : decode cc pc = .ok (.new idx, 3)) (hN : xNew own idx ci) (k : xG K (pc + 3) env (.ref h.length :: st) (h ++ [.inl (ci, xDf ci)])) : xG K pc env st h := by
  obtain ⟨r, hr, hw1, hw2, hw3⟩ := hN
  have hlen : (xDf ci).length = r.2.2 := by simp [xDf, hr]
  obtain ⟨fl, p, l, e, R, s, m, args, below, meth, c, b, D, cI, n0, s0, rv0, hF, Q⟩ := K
  have k1 := k.1
  rw [xsl_app, List.length_append] at k1
  have hsz : xSz (.inl (ci, xDf ci) : XC) = (xDf ci).length := by first | rfl | simp [xSz]
  rw [hsz] at k1
  refine And.intro ⟨Nat.le_trans (Nat.le_add_right _ _) k1.1, Nat.le_trans (Nat.le_add_right _ _) k1.2⟩ (fun hf H locs ls h1 h2 h3 h4 h5 => ?_)
  obtain ⟨hx, hb, hown, hts, hK, hini, hbs, hrc, hrs, hfr, hlo, hex⟩ := C.1 hf
  have kk := k.2 hf
  rw [xsl_app, List.length_append, hsz] at kk
  have j1 : h.length + 1 - n0 = h.length - n0 + 1 := by omega
  have j2 : xsl h + (xDf ci).length - s0 = xsl h - s0 + (xDf ci).length := by omega
  have j3 : h.length - n0 + 1 ≤ R.cells := by have := k1.1; simp only [List.length_cons, List.length_nil] at this; omega
  have j4 : xsl h - s0 + (xDf ci).length ≤ R.slots := by have := k1.2; omega
  simp only [List.length_cons, List.length_nil, Nat.zero_add] at kk
  rw [j1, j2] at kk
  obtain ⟨o1, ⟨ty0, o2⟩, o3⟩ := xCl_ok ci r hr
  have hKn := hK.1 ci _ hr
  rw [hlen] at kk j4
  refine W.newcK hx hb hown (hts _ hw1) (hts _ hw2) (hts _ hw3) rfl hd j3 j4 hKn.2.1 h2.1 fun H1 kC hkC e1 z1 q1 => ?_
  refine kk H1 locs ls h1 (xAg_push h2 (by rw [z1, h2.1]) (fun q hq => q1 q (by rw [← h2.1]; exact hq)) ?_) (fun q hq => by rw [q1 q (Nat.lt_of_lt_of_le hq (Nat.le_add_right _ _))]; exact h3 q hq) h4 ⟨by omega, by omega⟩
  rw [h2.1]
  refine ⟨r, hr, (u_born ty0 hts o1 hKn hkC e1 o2).to (fun j hj => ?_)⟩
  have hj2 : (xDf ci)[j]? = some (defaultValue (ty0 j)) := by
    simp only [xDf, hr, List.getElem?_map, List.getElem?_range hj, Option.map_some, o2 j hj]
  show _ = vp_V ((xDf ci).map (xv b)) j
  simp only [vp_V, List.getD_eq_getElem?_getD, List.getElem?_map, hj2, Option.map_some, xv_default, Option.getD_some]
theorem g_newi {i : Int32} (C : xOK K own cc ini bz fr lo) (hd : decode cc pc = .ok (.newarray .int, 2)) (hW : Cond.arrayClass (newarray.typeOf .int) ∈ xBW) (hi : ¬ i < 0) (hi2 : i.toNatClampNeg ≤ 100000) (k : xG K (pc + 2) env (.ref h.length :: st) (h ++ [.inr (.inl (0, List.replicate i.toNatClampNeg 0))])) : xG K pc env (.int i :: st) h := by
  obtain ⟨fl, p, l, e, R, s, m, args, below, meth, c, b, D, cI, n0, s0, rv0, hF, Q⟩ := K
  have k1 := k.1
  rw [xsl_app, List.length_append] at k1
  have hsz : xSz (.inr (.inl (0, List.replicate i.toNatClampNeg 0)) : XC) = i.toNatClampNeg := by first | rfl | simp [xSz]
  rw [hsz] at k1
  refine And.intro ⟨Nat.le_trans (Nat.le_add_right _ _) k1.1, Nat.le_trans (Nat.le_add_right _ _) k1.2⟩ (fun hf H locs ls h1 h2 h3 h4 h5 => ?_)
  obtain ⟨hx, hb, hown, hts, hK, hini, hbs, hrc, hrs, hfr, hlo, hex⟩ := C.1 hf
  have kk := k.2 hf
  rw [xsl_app, List.length_append, hsz] at kk
  have j1 : h.length + 1 - n0 = h.length - n0 + 1 := by omega
  have j2 : xsl h + i.toNatClampNeg - s0 = xsl h - s0 + i.toNatClampNeg := by omega
  have j3 : h.length - n0 + 1 ≤ R.cells := by have := k1.1; simp only [List.length_cons, List.length_nil] at this; omega
  have j4 : xsl h - s0 + i.toNatClampNeg ≤ R.slots := by have := k1.2; omega
  simp only [List.length_cons, List.length_nil, Nat.zero_add] at kk
  rw [j1, j2] at kk
  refine va_newaK (atype := .int) hx hb (hts _ hW) rfl hd rfl hi rfl (by show _ * componentBytes .int ≤ _; simp only [componentBytes]; omega) j3 j4 h2.1 fun H1 cA e1 z1 q1 hAr hNm => ?_
  have hcA : cA = cI 0 := Option.some.inj (hNm.symm.trans (hK.2 0 (cI 0, .int) rfl).2)
  subst hcA
  refine kk H1 locs ls h1 (xAg_push h2 (by rw [z1, h2.1]) (fun q hq => q1 q (by rw [← h2.1]; exact hq)) ?_) (fun q hq => by rw [q1 q (Nat.lt_of_lt_of_le hq (Nat.le_add_right _ _))]; exact h3 q hq) h4 ⟨by omega, by omega⟩
  rw [h2.1]
  show H1[b + h.length]? = some (vp_cell (cI 0) ((List.replicate i.toNatClampNeg (0 : Int32)).length, .inl (fun j => (List.replicate i.toNatClampNeg (0 : Int32)).getD j 0)))
  rw [e1, vp_cell_i, List.length_replicate]
  have hz : (fun j => Value.int ((List.replicate i.toNatClampNeg (0 : Int32)).getD j 0)) = (fun _ => Value.int 0) := by
    funext j
    by_cases hj : j < i.toNatClampNeg
    · simp [hj]
    · simp [hj]
  rw [hz]
  rfl
theorem g_newc {i : Int32} (C : xOK K own cc ini bz fr lo) (hd : decode cc pc = .ok (.newarray .char, 2)) (hW : Cond.arrayClass (newarray.typeOf .char) ∈ xBW) (hi : ¬ i < 0) (hi2 : i.toNatClampNeg ≤ 100000) (k : xG K (pc + 2) env (.ref h.length :: st) (h ++ [.inr (.inl (1, List.replicate i.toNatClampNeg 0))])) : xG K pc env (.int i :: st) h := by
  obtain ⟨fl, p, l, e, R, s, m, args, below, meth, c, b, D, cI, n0, s0, rv0, hF, Q⟩ := K
  have k1 := k.1
  rw [xsl_app, List.length_append] at k1
  have hsz : xSz (.inr (.inl (1, List.replicate i.toNatClampNeg 0)) : XC) = i.toNatClampNeg := by first | rfl | simp [xSz]
  rw [hsz] at k1
  refine And.intro ⟨Nat.le_trans (Nat.le_add_right _ _) k1.1, Nat.le_trans (Nat.le_add_right _ _) k1.2⟩ (fun hf H locs ls h1 h2 h3 h4 h5 => ?_)
  obtain ⟨hx, hb, hown, hts, hK, hini, hbs, hrc, hrs, hfr, hlo, hex⟩ := C.1 hf
  have kk := k.2 hf
  rw [xsl_app, List.length_append, hsz] at kk
  have j1 : h.length + 1 - n0 = h.length - n0 + 1 := by omega
  have j2 : xsl h + i.toNatClampNeg - s0 = xsl h - s0 + i.toNatClampNeg := by omega
  have j3 : h.length - n0 + 1 ≤ R.cells := by have := k1.1; simp only [List.length_cons, List.length_nil] at this; omega
  have j4 : xsl h - s0 + i.toNatClampNeg ≤ R.slots := by have := k1.2; omega
  simp only [List.length_cons, List.length_nil, Nat.zero_add] at kk
  rw [j1, j2] at kk
  refine va_newaK (atype := .char) hx hb (hts _ hW) rfl hd rfl hi rfl (by show _ * componentBytes .char ≤ _; simp only [componentBytes]; omega) j3 j4 h2.1 fun H1 cA e1 z1 q1 hAr hNm => ?_
  have hcA : cA = cI 1 := Option.some.inj (hNm.symm.trans (hK.2 1 (cI 1, .char) rfl).2)
  subst hcA
  refine kk H1 locs ls h1 (xAg_push h2 (by rw [z1, h2.1]) (fun q hq => q1 q (by rw [← h2.1]; exact hq)) ?_) (fun q hq => by rw [q1 q (Nat.lt_of_lt_of_le hq (Nat.le_add_right _ _))]; exact h3 q hq) h4 ⟨by omega, by omega⟩
  rw [h2.1]
  show H1[b + h.length]? = some (vp_cell (cI 1) ((List.replicate i.toNatClampNeg (0 : Int32)).length, .inl (fun j => (List.replicate i.toNatClampNeg (0 : Int32)).getD j 0)))
  rw [e1, vp_cell_i, List.length_replicate]
  have hz : (fun j => Value.int ((List.replicate i.toNatClampNeg (0 : Int32)).getD j 0)) = (fun _ => Value.int 0) := by
    funext j
    by_cases hj : j < i.toNatClampNeg
    · simp [hj]
    · simp [hj]
  rw [hz]
  rfl
theorem g_newr {idx : Nat} {i : Int32} (C : xOK K own cc ini bz fr lo) (hd : decode cc pc = .ok (.anewarray idx, 3)) (hW : Cond.classLink own idx RX6 ∈ xBW) (hi : ¬ i < 0) (hi2 : i.toNatClampNeg ≤ 100000) (k : xG K (pc + 3) env (.ref h.length :: st) (h ++ [.inr (.inr (List.replicate i.toNatClampNeg none))])) : xG K pc env (.int i :: st) h := by
  obtain ⟨fl, p, l, e, R, s, m, args, below, meth, c, b, D, cI, n0, s0, rv0, hF, Q⟩ := K
  have k1 := k.1
  rw [xsl_app, List.length_append] at k1
  have hsz : xSz (.inr (.inr (List.replicate i.toNatClampNeg none)) : XC) = i.toNatClampNeg := by first | rfl | simp [xSz]
  rw [hsz] at k1
  refine And.intro ⟨Nat.le_trans (Nat.le_add_right _ _) k1.1, Nat.le_trans (Nat.le_add_right _ _) k1.2⟩ (fun hf H locs ls h1 h2 h3 h4 h5 => ?_)
  obtain ⟨hx, hb, hown, hts, hK, hini, hbs, hrc, hrs, hfr, hlo, hex⟩ := C.1 hf
  have kk := k.2 hf
  rw [xsl_app, List.length_append, hsz] at kk
  have j1 : h.length + 1 - n0 = h.length - n0 + 1 := by omega
  have j2 : xsl h + i.toNatClampNeg - s0 = xsl h - s0 + i.toNatClampNeg := by omega
  have j3 : h.length - n0 + 1 ≤ R.cells := by have := k1.1; simp only [List.length_cons, List.length_nil] at this; omega
  have j4 : xsl h - s0 + i.toNatClampNeg ≤ R.slots := by have := k1.2; omega
  simp only [List.length_cons, List.length_nil, Nat.zero_add] at kk
  rw [j1, j2] at kk
  refine W.anew hx hb hown (hts _ hW) (va_AO.use hex.2.1) rfl hd rfl hi (by omega) j3 j4 fun cA kA comp f1 f2 f3 f4 => ?_
  have hcA : cA = cI 2 := by
    obtain ⟨_, _, -, -, -, w4⟩ := (hK.2 2 (cI 2, .object RX6) rfl).2
    exact Option.some.inj (f1.symm.trans w4)
  subst hcA
  generalize hH1 : H.push ({ cls := cI 2, slots := Array.replicate i.toNatClampNeg .null, vm := .none } : Cell) = H1
  have z1 : H1.size = H.size + 1 := by rw [← hH1, Array.size_push]
  have e1 : H1[H.size]? = some (arrV (cI 2) i.toNatClampNeg (fun _ => .null)) := by rw [← hH1, Array.getElem?_push_size, ← arrV_new]
  have o1 : ∀ q : Nat, q < H.size → H1[q]? = H[q]? := fun q hq => by rw [← hH1, Array.getElem?_push, if_neg (Nat.ne_of_lt hq)]
  rw [h2.1]
  refine kk H1 locs ls h1 (xAg_push h2 z1 o1 ?_) (fun q hq => by rw [o1 q (by rw [h2.1]; exact Nat.lt_of_lt_of_le hq (Nat.le_add_right _ _))]; exact h3 q hq) h4 ⟨by omega, by omega⟩
  show H1[H.size]? = some (vp_cell (cI 2) ((List.replicate i.toNatClampNeg (none : Option Nat)).length, .inr (.inr (.inr (.inr (fun j => ((List.replicate i.toNatClampNeg (none : Option Nat)).getD j none).map (fun a => b + a)))))))
  rw [e1, vp_cell_q, List.length_replicate]
  have hz : (fun j => va_rf (((List.replicate i.toNatClampNeg (none : Option Nat)).getD j none).map (fun a => b + a))) = (fun _ => Value.null) := by
    funext j
    by_cases hj : j < i.toNatClampNeg
    · simp [hj, va_rf]
    · simp [hj, va_rf]
  rw [hz]
theorem g_oinit {idx a : Nat} (C : xOK K own cc ini bz fr lo) (hd : decode cc pc = .ok (.invokespecial idx, 3)) (hW : Cond.methodLink own idx Lib.objectInit ∈ xBW) (hW2 : Cond.instanceMethod Lib.objectInit ∈ xBW) (hW3 : Cond.code Lib.objectInit ⟨#[0xb1]⟩ 1 none ∈ xBW) (hf1 : 1 ≤ fr) (hl1 : 12 ≤ lo) (k : xG K (pc + 3) env [] h) : xG K pc env [.ref a] h := by
  obtain ⟨fl, p, l, e, R, s, m, args, below, meth, c, b, D, cI, n0, s0, rv0, hF, Q⟩ := K
  refine And.intro k.1 (fun hf H locs ls h1 h2 h3 h4 h5 => ?_)
  obtain ⟨hx, hb, hown, hts, hK, hini, hbs, hrc, hrs, hfr, hlo, hex⟩ := C.1 hf
  refine W.objInit hx hb hown (hts _ hW) (hts _ hW2) (hts _ hW3) rfl h1.2.1 rfl hd (Nat.le_trans hf1 hfr) ?_ (k.2 hf H locs ls h1 h2 h3 h4 h5)
  show 2 * 0 + _ + 12 ≤ _
  have := hlo
  simp only [List.map_nil, List.sum_nil]
  omega
theorem g_table {dflt low high : Int} {offs : Array Int} {len : Nat} {x : Int32} {tgt : Nat} (C : xOK K own cc ini bz fr lo) (hd : decode cc pc = .ok (.tableswitch dflt low high offs, len)) (ht : (pc : Int) + (if x.toInt < low ∨ high < x.toInt then dflt else offs.getD (x.toInt - low).toNat 0) = (tgt : Int)) (hn : ∀ j : Nat, (j : Int) ≤ high - low → j < offs.size) (k : xG K tgt env st h) : xG K pc env (.int x :: st) h := by
  obtain ⟨fl, p, l, e, R, s, m, args, below, meth, c, b, D, cI, n0, s0, rv0, hF, Q⟩ := K
  refine And.intro k.1 (fun hf H locs ls h1 h2 h3 h4 h5 => ?_)
  obtain ⟨hx, hb, hown, hts, hK, hini, hbs, hrc, hrs, hfr, hlo, hex⟩ := C.1 hf
  by_cases hq : x.toInt < low ∨ high < x.toInt
  · rw [if_pos hq] at ht
    exact lv_tableOut hx hb hd hq ht (k.2 hf H locs ls h1 h2 h3 h4 h5)
  · rw [if_neg hq] at ht
    have q1 : ¬ x.toInt < low := fun z => hq (Or.inl z)
    have q2 : ¬ high < x.toInt := fun z => hq (Or.inr z)
    have q3 : (x.toInt - low).toNat < offs.size := hn _ (by omega)
    refine lv_tableIn (off := offs.getD (x.toInt - low).toNat 0) hx hb hd q1 q2 ?_ ht (k.2 hf H locs ls h1 h2 h3 h4 h5)
    rw [Array.getD_eq_getD_getElem?, Array.getElem?_eq_getElem q3]
    rfl
theorem g_lookup {dflt : Int} {ps : Array (Int × Int)} {len : Nat} {x : Int32} {tgt : Nat} (C : xOK K own cc ini bz fr lo) (hd : decode cc pc = .ok (.lookupswitch dflt ps, len)) (hp : (ps.toList.zip (ps.toList.drop 1)).all (fun (a, next) => a.1 < next.1) = true) (ht : (pc : Int) + Op.lookupswitch.offset ps.toList dflt x.toInt = (tgt : Int)) (k : xG K tgt env st h) : xG K pc env (.int x :: st) h := by
  obtain ⟨fl, p, l, e, R, s, m, args, below, meth, c, b, D, cI, n0, s0, rv0, hF, Q⟩ := K
  refine And.intro k.1 (fun hf H locs ls h1 h2 h3 h4 h5 => ?_)
  obtain ⟨hx, hb, hown, hts, hK, hini, hbs, hrc, hrs, hfr, hlo, hex⟩ := C.1 hf
  exact lv_lookup hx hb hd hp rfl ht (k.2 hf H locs ls h1 h2 h3 h4 h5)
end XN
