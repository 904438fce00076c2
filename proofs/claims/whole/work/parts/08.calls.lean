/-! THE RULES of calls, and what a method's contract is -/
abbrev XF : Type := List Value → XH → Option (Option Value × XH)
def xPre (b : Nat) (D : va_G) (cI : Nat → ClassId) (args : List Value) (h : XH) : Array Value → State → Prop := fun av U => av = (args.map (xv b)).toArray ∧ xAg b D cI h U.heap ∧ va_K D xCl (xTy cI) U ∧ xEx b U U.heap
def xPost (b : Nat) (D : va_G) (cI : Nat → ClassId) (rv : Option Value) (h' : XH) : Array Value → State → Outcome → State → Prop := fun _ st o t => o = .returned (rv.map (xv b)) ∧ xAg b D cI h' t.heap ∧ ∀ q : Nat, q < b → t.heap[q]? = st.heap[q]?
def xGood (y : MethodName) (bytes : ByteArray) (n : Nat) (ret : Option FieldType) (fr lo : Nat) (f : XF) : Prop :=
  (XK → ∀ (args : List Value) (h : XH) (rv : Option Value) (h' : XH), f args h = some (rv, h') → h.length ≤ h'.length ∧ xsl h ≤ xsl h') ∧
  ∀ (l : Launch) (b : Nat) (D : va_G) (cI : Nat → ClassId) (args : List Value) (h : XH) (rv : Option Value) (h' : XH), f args h = some (rv, h') → Met l y (Cond.code y bytes n ret :: xBW) ({ frames := fr, cells := h'.length - h.length, slots := xsl h' - xsl h, locals := lo }) (xPre b D cI args h) (xPost b D cI rv h') (h'.length - h.length) (xsl h' - xsl h) (fun q => b ≤ q)
theorem xPre_blind (b : Nat) (D : va_G) (cI : Nat → ClassId) (args : List Value) (h : XH) : FrameBlind (xPre b D cI args h) := by
  intro a U g mk q
  obtain ⟨q1, q2, q3, q4⟩ := q
  exact ⟨q1, q2, va_K.moved (u := U) (U := U.calling g mk a) (Vm.Alike.refl U.vm) q3, xEx.same (u := U) (U := U.calling g mk a) rfl q4⟩
/-- the words of a call, beside the link -/
def xCallW (y : MethodName) (bytes : ByteArray) (maxL : Nat) (ret : Option FieldType) (n : Nat) : Prop := Cond.code y bytes maxL ret ∈ xBW ∧ Cond.initialized y.cls ∈ xBW ∧ (y.cls ≠ "java/lang/invoke/MethodHandle" ∧ y.cls ≠ "java/lang/invoke/VarHandle") ∧ (parseMethodDescriptor y.desc).map (fun d => d.parameters.length) = some n
def xCallV (own : String) (idx : Nat) (y : MethodName) : Prop := Cond.methodLink own idx y ∈ xBW ∧ Cond.instanceMethod y ∈ xBW ∧ Cond.selects y.cls y y ∈ xBW
def xCallS (own : String) (idx : Nat) (y : MethodName) : Prop := Cond.methodLink own idx y ∈ xBW ∧ Cond.static y ∈ xBW
def xCallI (own : String) (idx : Nat) (y : MethodName) : Prop := y.name = "<init>" ∧ Cond.instanceMethod y ∈ xBW ∧ (Cond.methodLink own idx y ∈ xBW ∨ ∃ host : String, Cond.methodLinkNest own idx y host ∈ xNest)
def xRecv (f : XF) (ci n : Nat) : Prop := ∀ (args : List Value) (h : XH) (r : Option Value × XH), f args h = some r → ∃ (a : Nat) (as : List Value) (fs : List Value), args = .ref a :: as ∧ as.length = n ∧ h[a]? = some (.inl (ci, fs))
def xArgs (f : XF) (n : Nat) : Prop := ∀ (args : List Value) (h : XH) (r : Option Value × XH), f args h = some r → args.length = n
section XCALL
variable {p : Program} {l : Launch} {e : Env} {R : Room} {s : State} {m : MethodId} {args : Array Value} {below : List Frame} {meth : Method} {c : Code} {H : Heap} {locs : List Loc} {cells slots : Nat} {Q : State → Prop}
variable {pc : Nat} {ls : Array Slot} {rest st0 : List Value} {b mc ms : Nat} {D : va_G} {cI : Nat → ClassId} {rv : Option Value} {h' : XH}
/-- behind a call -/
theorem x_back {a : Array Value} (hr : va_Run p l e R s m args below meth c H locs cells slots mc ms (F0 m pc ls st0) rest (xPost b D cI rv h' a) (fun q => b ≤ q)) (h3 : ∀ q : Nat, q < b → H[q]? = s.heap[q]?) (h4 : ∀ q ∈ locs, b ≤ q.base)
    (kk : ∀ (H1 : Heap) (locs1 : List Loc), xAg b D cI h' H1 → (∀ q : Nat, q < b → H1[q]? = s.heap[q]?) → (∀ q ∈ locs1, b ≤ q.base) → W p l e R s m args below meth c H1 locs1 (cells + mc) (slots + ms) Q (F0 m (pc + 3) ls ((rv.map (xv b)).toList ++ rest))) : W p l e R s m args below meth c H locs cells slots Q (F0 m pc ls st0) := by
  intro T hT X
  obtain ⟨v, st₀, t, T', L, h0, X', hL, e1, e2, ⟨hv, hA, hO⟩, st⟩ := hr T hT X
  cases hv
  obtain ⟨t2, a1, b1⟩ := kk T'.heap (locs ++ L) (by rw [e1]; exact hA) (fun q hq => by rw [e1, hO q hq, h0]; exact h3 q hq) (fun q hq => by
      rcases List.mem_append.mp hq with g | g
      · exact h4 q g
      · exact hL q g) T' rfl X'
  exact ⟨t2, st t2 a1, b1⟩
end XCALL
section XC1
variable {K : XK} {own : String} {cc : ByteArray} {ini bz : Bool} {fr lo pc : Nat} {env : XE} {st : List Value} {h h' : XH}
variable {y : MethodName} {bytes : ByteArray} {maxL n idx fr' lo' : Nat} {ret : Option FieldType} {f : XF} {args : List Value} {rv : Option Value}
theorem xv_sum (b : Nat) (st : List Value) : ((st.map (xv b)).map fun v => v.category).sum = (st.map fun v => v.category).sum := by
  rw [List.map_map]
  congr 1
  apply List.map_congr_left
  intro v _
  exact xv_cat b v
theorem xBW_pay {s : State} {a : Array Value} (hts : ∀ w ∈ xBW, w.before a s = true) (hc : Cond.code y bytes maxL ret ∈ xBW) : ∀ w ∈ (Cond.code y bytes maxL ret :: xBW), ∀ (a' : Array Value) (U : State), s.WarmedH U.vm → w.before a' U = true := by
  intro w hw a' U hW
  have hw2 : w ∈ xBW := by
    rcases List.mem_cons.mp hw with q | q
    · rw [q]; exact hc
    · exact q
  exact word_at hW (good_of_word (xBW_good w hw2)) (hts w hw2)
theorem xBack_st (b : Nat) (rv : Option Value) (st : List Value) : (rv.map (xv b)).toList ++ st.map (xv b) = (rv.toList ++ st).map (xv b) := by cases rv <;> rfl
theorem g_callV {ci : Nat} (C : xOK K own cc ini bz fr lo) (hd : decode cc pc = .ok (.invokevirtual idx, 3)) (hW : xCallW y bytes maxL ret n) (hV : xCallV own idx y) {r : vw_C} (hci : xCl[ci]? = some r) (hcy : r.1 = y.cls) (hG : xGood y bytes maxL ret fr' lo' f) (hrec : xRecv f ci n) (hr1 : fr' + 1 ≤ fr) (hr2 : 8 + (maxL + 11) + lo' ≤ lo) (hst : (st.map fun v => v.category).sum ≤ 8) (hf0 : f args h = some (rv, h')) (k : xG K (pc + 3) env (rv.toList ++ st) h') : xG K pc env (args.reverse ++ st) h := by
  have hmo := hG.1 K args h rv h' hf0
  obtain ⟨fl, p, l, e, R, s, m, args0, below, meth, c, b, D, cI, n0, s0, rv0, hF, Q⟩ := K
  have k1 := k.1
  refine And.intro ⟨Nat.le_trans hmo.1 k1.1, Nat.le_trans hmo.2 k1.2⟩ (fun hf H locs ls h1 h2 h3 h4 h5 => ?_)
  obtain ⟨hx, hb, hown, hts, hK, hini, hbs, hrc, hrs, hfr, hlo0, hex⟩ := C.1 hf
  have hlo : lo ≤ R.locals ∧ True := ⟨hlo0, trivial⟩
  have hM := hG.2 l b D cI args h rv h' hf0
  obtain ⟨w1, w2, w3, w4⟩ := hW
  have j1 : h.length - n0 + (h'.length - h.length) = h'.length - n0 := by omega
  have j2 : xsl h - s0 + (xsl h' - xsl h) = xsl h' - s0 := by omega
  have j3 : h.length - n0 + (h'.length - h.length) ≤ R.cells := by have := k1.1; omega
  have j4 : xsl h - s0 + (xsl h' - xsl h) ≤ R.slots := by have := k1.2; omega
  have hn : ∀ sig, parseMethodDescriptor y.desc = some sig → n = sig.parameters.length := fun sig q => by
    rw [q] at w4
    exact (Option.some.inj w4).symm
  have hS : va_S (fun q => b ≤ q) s.heap H locs → True := fun _ => trivial
  have hpre : ∀ U : State, U.heap = H → s.WarmedH U.vm → xPre b D cI args h (args.map (xv b)).toArray U := fun U hU hWm => ⟨rfl, by rw [hU]; exact h2, va_K.moved hWm.alike hK, by
    rw [hU]
    exact (hex.kept h3).warm hWm⟩
  obtain ⟨v1, v2, v3⟩ := hV
  obtain ⟨a, as, fs, rfl, has, hcell⟩ := hrec _ _ _ hf0
  have hrc2 := va_recv (a := b + a) (q0 := 0) (fs := fs.map (xv b)) hK (xP1 (h2.2 a _ hcell)) hci rfl
  rw [hcy] at hrc2
  have hrun := va_runV (p := p) (e := e) (below := below) (meth := meth) (cc := cc) (own := own) (C := y.cls) (n := n) (bytes := bytes) (maxL := maxL) (ret := ret) (index := idx) (locs := locs) (b := b + a) (As := as.map (xv b)) (rest := st.map (xv b)) (g := F0 m pc ls ((as.map (xv b)).reverse ++ .ref (b + a) :: st.map (xv b))) (cells := h.length - n0) (slots := xsl h - s0) ⟨hx, hb, rfl, hown, hts⟩ hM ⟨⟨rfl, rfl, Nat.le_trans hr1 hfr, Nat.le_trans hr2 hlo.1, xBW_pay hts w1, List.mem_cons_self, hts _ w1, hts _ w2, w3, hn, hts _ v1⟩, hts _ v2, hts _ v3⟩ ⟨xPre_blind b D cI _ h, hrc2, hpre⟩ rfl (by rw [List.length_map]; exact has) h1.2.1 rfl (lv_room (by rw [xv_sum]; exact hst)) hd ⟨j3, j4⟩
  have hstk : (((.ref a :: as : List Value).reverse ++ st).map (xv b)) = (as.map (xv b)).reverse ++ .ref (b + a) :: st.map (xv b) := by
    simp [xv]
  rw [hstk]
  refine x_back hrun h3 h4 (fun H1 locs1 g2 g3 g4 => ?_)
  rw [j1, j2, xBack_st]
  exact k.2 hf H1 locs1 ls h1 g2 g3 g4 ⟨Nat.le_trans h5.1 hmo.1, Nat.le_trans h5.2 hmo.2⟩
theorem g_callS {ci : Nat} (C : xOK K own cc ini bz fr lo) (hd : decode cc pc = .ok (.invokestatic idx, 3)) (hW : xCallW y bytes maxL ret n) (hV : xCallS own idx y) (hG : xGood y bytes maxL ret fr' lo' f) (hrec : xArgs f n) (hr1 : fr' + 1 ≤ fr) (hr2 : 8 + (maxL + 11) + lo' ≤ lo) (hst : (st.map fun v => v.category).sum ≤ 8) (hf0 : f args h = some (rv, h')) (k : xG K (pc + 3) env (rv.toList ++ st) h') : xG K pc env (args.reverse ++ st) h := by
  have hmo := hG.1 K args h rv h' hf0
  obtain ⟨fl, p, l, e, R, s, m, args0, below, meth, c, b, D, cI, n0, s0, rv0, hF, Q⟩ := K
  have k1 := k.1
  refine And.intro ⟨Nat.le_trans hmo.1 k1.1, Nat.le_trans hmo.2 k1.2⟩ (fun hf H locs ls h1 h2 h3 h4 h5 => ?_)
  obtain ⟨hx, hb, hown, hts, hK, hini, hbs, hrc, hrs, hfr, hlo0, hex⟩ := C.1 hf
  have hlo : lo ≤ R.locals ∧ True := ⟨hlo0, trivial⟩
  have hM := hG.2 l b D cI args h rv h' hf0
  obtain ⟨w1, w2, w3, w4⟩ := hW
  have j1 : h.length - n0 + (h'.length - h.length) = h'.length - n0 := by omega
  have j2 : xsl h - s0 + (xsl h' - xsl h) = xsl h' - s0 := by omega
  have j3 : h.length - n0 + (h'.length - h.length) ≤ R.cells := by have := k1.1; omega
  have j4 : xsl h - s0 + (xsl h' - xsl h) ≤ R.slots := by have := k1.2; omega
  have hn : ∀ sig, parseMethodDescriptor y.desc = some sig → n = sig.parameters.length := fun sig q => by
    rw [q] at w4
    exact (Option.some.inj w4).symm
  have hS : va_S (fun q => b ≤ q) s.heap H locs → True := fun _ => trivial
  have hpre : ∀ U : State, U.heap = H → s.WarmedH U.vm → xPre b D cI args h (args.map (xv b)).toArray U := fun U hU hWm => ⟨rfl, by rw [hU]; exact h2, va_K.moved hWm.alike hK, by
    rw [hU]
    exact (hex.kept h3).warm hWm⟩
  obtain ⟨v1, v2⟩ := hV
  have has := hrec _ _ _ hf0
  have hrun := va_runS (p := p) (e := e) (below := below) (meth := meth) (cc := cc) (own := own) (n := n) (bytes := bytes) (maxL := maxL) (ret := ret) (index := idx) (locs := locs) (As := args.map (xv b)) (rest := st.map (xv b)) (g := F0 m pc ls ((args.map (xv b)).reverse ++ st.map (xv b))) (cells := h.length - n0) (slots := xsl h - s0) ⟨hx, hb, rfl, hown, hts⟩ hM ⟨⟨rfl, rfl, Nat.le_trans hr1 hfr, Nat.le_trans hr2 hlo.1, xBW_pay hts w1, List.mem_cons_self, hts _ w1, hts _ w2, w3, hn, hts _ v1⟩, hts _ v2⟩ ⟨xPre_blind b D cI _ h, hpre⟩ rfl (by rw [List.length_map]; exact has) h1.2.1 rfl (lv_room (by rw [xv_sum]; exact hst)) hd ⟨j3, j4⟩
  have hstk : ((args.reverse ++ st).map (xv b)) = (args.map (xv b)).reverse ++ st.map (xv b) := by
    simp
  rw [hstk]
  refine x_back hrun h3 h4 (fun H1 locs1 g2 g3 g4 => ?_)
  rw [j1, j2, xBack_st]
  exact k.2 hf H1 locs1 ls h1 g2 g3 g4 ⟨Nat.le_trans h5.1 hmo.1, Nat.le_trans h5.2 hmo.2⟩
theorem g_callI {ci : Nat} (C : xOK K own cc ini bz fr lo) (hd : decode cc pc = .ok (.invokespecial idx, 3)) (hW : xCallW y bytes maxL ret n) (hV : xCallI own idx y) (hret : ret = none) (hG : xGood y bytes maxL ret fr' lo' f) (hrec : xRecv f ci n) (hr1 : fr' + 1 ≤ fr) (hr2 : 8 + (maxL + 11) + lo' ≤ lo) (hst : (st.map fun v => v.category).sum ≤ 8) (hf0 : f args h = some (rv, h')) (k : xG K (pc + 3) env (rv.toList ++ st) h') : xG K pc env (args.reverse ++ st) h := by
  have hmo := hG.1 K args h rv h' hf0
  obtain ⟨fl, p, l, e, R, s, m, args0, below, meth, c, b, D, cI, n0, s0, rv0, hF, Q⟩ := K
  have k1 := k.1
  refine And.intro ⟨Nat.le_trans hmo.1 k1.1, Nat.le_trans hmo.2 k1.2⟩ (fun hf H locs ls h1 h2 h3 h4 h5 => ?_)
  obtain ⟨hx, hb, hown, hts, hK, hini, hbs, hrc, hrs, hfr, hlo0, hex⟩ := C.1 hf
  have hlo : lo ≤ R.locals ∧ True := ⟨hlo0, trivial⟩
  have hM := hG.2 l b D cI args h rv h' hf0
  obtain ⟨w1, w2, w3, w4⟩ := hW
  have j1 : h.length - n0 + (h'.length - h.length) = h'.length - n0 := by omega
  have j2 : xsl h - s0 + (xsl h' - xsl h) = xsl h' - s0 := by omega
  have j3 : h.length - n0 + (h'.length - h.length) ≤ R.cells := by have := k1.1; omega
  have j4 : xsl h - s0 + (xsl h' - xsl h) ≤ R.slots := by have := k1.2; omega
  have hn : ∀ sig, parseMethodDescriptor y.desc = some sig → n = sig.parameters.length := fun sig q => by
    rw [q] at w4
    exact (Option.some.inj w4).symm
  have hS : va_S (fun q => b ≤ q) s.heap H locs → True := fun _ => trivial
  have hpre : ∀ U : State, U.heap = H → s.WarmedH U.vm → xPre b D cI args h (args.map (xv b)).toArray U := fun U hU hWm => ⟨rfl, by rw [hU]; exact h2, va_K.moved hWm.alike hK, by
    rw [hU]
    exact (hex.kept h3).warm hWm⟩
  subst hret
  obtain ⟨v0, v1, v2⟩ := hV
  obtain ⟨a, as, fs, rfl, has, hcell⟩ := hrec _ _ _ hf0
  have hstk : (((.ref a :: as : List Value).reverse ++ st).map (xv b)) = (as.map (xv b)).reverse ++ .ref (b + a) :: st.map (xv b) := by
    simp [xv]
  rw [hstk]
  rcases v2 with v2 | ⟨host, v2⟩
  · have hrun := va_runI (p := p) (e := e) (below := below) (meth := meth) (cc := cc) (own := own) (n := n) (bytes := bytes) (maxL := maxL) (index := idx) (locs := locs) (b := b + a) (As := as.map (xv b)) (rest := st.map (xv b)) (g := F0 m pc ls ((as.map (xv b)).reverse ++ .ref (b + a) :: st.map (xv b))) (cells := h.length - n0) (slots := xsl h - s0) ⟨hx, hb, rfl, hown, hts⟩ hM ⟨⟨rfl, rfl, Nat.le_trans hr1 hfr, Nat.le_trans hr2 hlo.1, xBW_pay hts w1, List.mem_cons_self, hts _ w1, hts _ w2, w3, hn, hts _ v2⟩, v0, hts _ v1⟩ ⟨xPre_blind b D cI _ h, hpre⟩ rfl (by rw [List.length_map]; exact has) h1.2.1 rfl (lv_room (by rw [xv_sum]; exact hst)) hd ⟨j3, j4⟩
    refine x_back hrun h3 h4 (fun H1 locs1 g2 g3 g4 => ?_)
    rw [j1, j2, xBack_st]
    exact k.2 hf H1 locs1 ls h1 g2 g3 g4 ⟨Nat.le_trans h5.1 hmo.1, Nat.le_trans h5.2 hmo.2⟩
  · have hrun := va_runIN (p := p) (e := e) (below := below) (meth := meth) (cc := cc) (own := own) (host := host) (n := n) (bytes := bytes) (maxL := maxL) (index := idx) (locs := locs) (b := b + a) (As := as.map (xv b)) (rest := st.map (xv b)) (g := F0 m pc ls ((as.map (xv b)).reverse ++ .ref (b + a) :: st.map (xv b))) (cells := h.length - n0) (slots := xsl h - s0) ⟨hx, hb, rfl, hown, hts⟩ hM ⟨⟨⟨rfl, rfl, Nat.le_trans hr1 hfr, Nat.le_trans hr2 hlo.1, xBW_pay hts w1, List.mem_cons_self⟩, hts _ w1, hts _ w2, w3, hn, va_Nw.use rfl (hex.1 _ v2)⟩, v0, hts _ v1⟩ ⟨xPre_blind b D cI _ h, hpre⟩ rfl (by rw [List.length_map]; exact has) h1.2.1 rfl (lv_room (by rw [xv_sum]; exact hst)) hd ⟨j3, j4⟩
    refine x_back hrun h3 h4 (fun H1 locs1 g2 g3 g4 => ?_)
    rw [j1, j2, xBack_st]
    exact k.2 hf H1 locs1 ls h1 g2 g3 g4 ⟨Nat.le_trans h5.1 hmo.1, Nat.le_trans h5.2 hmo.2⟩
end XC1
