/-! WHAT STATEMENTS MEAN, and a method's contract out of the walk of its body -/
abbrev XX : Type := XE → XH → Option (Value × XH)
abbrev XB : Type := XE → XH → Option (Bool × XH)
abbrev XO : Type := Option (Bool ⊕ Option Value)
abbrev XS : Type := XE → XH → Option (XO × XE × XH)
def x_fin (K : XK) (pc' bk ct : Nat) (o : XO) (env' : XE) (h' : XH) : Prop := match o with
  | none => xG K pc' env' [] h'
  | some (.inl true) => xG K bk env' [] h'
  | some (.inl false) => xG K ct env' [] h'
  | some (.inr rv) => rv = xRv K ∧ h' = xHF K
def CE (K : XK) (d pc : Nat) (e : XX) (pc' : Nat) : Prop := ∀ (env : XE) (h : XH) (v : Value) (h' : XH), e env h = some (v, h') → ∀ st : List Value, (st.map fun v => v.category).sum ≤ d → xG K pc' env (v :: st) h' → xG K pc env st h
def CC (K : XK) (d pc : Nat) (c : XB) (pT pF : Nat) : Prop := ∀ (env : XE) (h : XH) (bv : Bool) (h' : XH), c env h = some (bv, h') → ∀ st : List Value, (st.map fun v => v.category).sum ≤ d → xG K (if bv = true then pT else pF) env st h' → xG K pc env st h
def CS (K : XK) (pc : Nat) (s : XS) (pc' bk ct : Nat) : Prop := ∀ (env : XE) (h : XH) (o : XO) (env' : XE) (h' : XH), s env h = some (o, env', h') → x_fin K pc' bk ct o env' h' → xG K pc env [] h
def xSlots (args : List Value) : XE := args.flatMap fun v => if v.category = 2 then [some v, none] else [some v]
def xEnv (n : Nat) (args : List Value) : XE := xSlots args ++ List.replicate (n - (xSlots args).length) none
def xSlot (b : Nat) : Option Value → Slot
  | some v => .val (xv b v)
  | none => .second
theorem lg_sl_map (b : Nat) (args : List Value) : lg_sl (args.map (xv b)) = (xSlots args).map (xSlot b) := by
  unfold lg_sl xSlots
  induction args with
  | nil => rfl
  | cons v t ih =>
    simp only [List.map_cons, List.flatMap_cons, List.map_append, ih, xv_cat]
    congr 1
    split <;> rfl
theorem xEnv_rel {b n : Nat} {args : List Value} (h : (xSlots args).length ≤ n) : xRel b n (xEnv n args) ((lg_sl (args.map (xv b)) ++ List.replicate (n - (lg_sl (args.map (xv b))).length) Slot.unset).toArray) := by
  have hl : (lg_sl (args.map (xv b))).length = (xSlots args).length := by rw [lg_sl_map, List.length_map]
  have e1 := lv_entry (args.map (xv b)) (n := n) (by rw [hl]; exact h)
  refine ⟨by simp [xEnv]; omega, e1.1, e1.2.1, fun i v hv => ?_⟩
  unfold xEnv at hv
  by_cases hi : i < (xSlots args).length
  · rw [List.getElem?_append_left hi] at hv
    rw [List.getElem?_toArray, List.getElem?_append_left (by rw [hl]; exact hi), lg_sl_map, List.getElem?_map, hv]
    rfl
  · rw [List.getElem?_append_right (by omega)] at hv
    have := List.getElem?_replicate (a := (none : Option Value)) (n := n - (xSlots args).length) (i := i - (xSlots args).length)
    rw [hv] at this
    split at this <;> simp at this
/-- a body's answer -/
def xRun (vd : Bool) (body : XS) (n : Nat) (args : List Value) (h : XH) : Option (Option Value × XH) := match body (xEnv n args) h with
  | some (some (.inr rv), _, h') => if rv.isNone = vd then some (rv, h') else none
  | _ => none
/-- an instance method of class ci with k arguments beside the object; a static one with k -/
def xM (ci k n : Nat) (vd : Bool) (body : XS) : XF := fun args h => match args with
  | .ref a :: as => if as.length = k ∧ (xSlots args).length ≤ n then (match h[a]? with
    | some (.inl (c, _)) => if c = ci then xRun vd body n args h else none
    | _ => none) else none
  | _ => none
def xMS (k n : Nat) (vd : Bool) (body : XS) : XF := fun args h => if args.length = k ∧ (xSlots args).length ≤ n then xRun vd body n args h else none
theorem xM_spec {ci k n : Nat} {vd : Bool} {body : XS} {args : List Value} {h : XH} {r : Option Value × XH} (hf : xM ci k n vd body args h = some r) : (∃ (a : Nat) (as : List Value) (fs : List Value), args = .ref a :: as ∧ as.length = k ∧ h[a]? = some (.inl (ci, fs))) ∧ (xSlots args).length ≤ n ∧ xRun vd body n args h = some r := by
  unfold xM at hf
  split at hf
  · rename_i a as
    split at hf
    · rename_i hc
      split at hf
      · rename_i c fs hh
        split at hf
        · rename_i hci
          subst hci
          exact ⟨⟨a, as, fs, rfl, hc.1, hh⟩, hc.2, hf⟩
        · cases hf
      · cases hf
    · cases hf
  · cases hf
theorem xMS_spec {k n : Nat} {vd : Bool} {body : XS} {args : List Value} {h : XH} {r : Option Value × XH} (hf : xMS k n vd body args h = some r) : args.length = k ∧ (xSlots args).length ≤ n ∧ xRun vd body n args h = some r := by
  unfold xMS at hf
  split at hf
  · rename_i hc
    exact ⟨hc.1, hc.2, hf⟩
  · cases hf
theorem xM_recv {ci k n : Nat} {vd : Bool} {body : XS} : xRecv (xM ci k n vd body) ci k := fun _ _ _ h => (xM_spec h).1
theorem xMS_args {k n : Nat} {vd : Bool} {body : XS} : xArgs (xMS k n vd body) k := fun _ _ _ h => (xMS_spec h).1
theorem xRun_spec {vd : Bool} {body : XS} {n : Nat} {args : List Value} {h h' : XH} {rv : Option Value} (hf : xRun vd body n args h = some (rv, h')) : rv.isNone = vd ∧ ∃ env' : XE, body (xEnv n args) h = some (some (.inr rv), env', h') := by
  unfold xRun at hf
  split at hf
  · rename_i rv2 env2 h2 he
    split at hf
    · rename_i hvd
      cases hf
      exact ⟨hvd, env2, he⟩
    · cases hf
  · cases hf
/-- what a method answers: an int, a boolean, nothing -/
def xRt (bz : Bool) (ret : Option FieldType) : Prop := (ret = some .int ∧ bz = false) ∨ (ret = some .boolean ∧ bz = true) ∨ ret = none
theorem x_meth {y : MethodName} {cc : ByteArray} {n fr lo pe bk ct : Nat} {ret : Option FieldType} {ini bz vd : Bool} {f : XF} {body : XS} (hrt : xRt bz ret) (hini : ini = true → y.name = "<init>") (hy : plainName y.cls = true)
    (hrun : ∀ (args : List Value) (h : XH) (rv : Option Value) (h' : XH), f args h = some (rv, h') → (xSlots args).length ≤ n ∧ xRun vd body n args h = some (rv, h'))
    (hret : vd = true ↔ ret = none)
    (hcs : ∀ K : XK, xOK K y.cls cc ini bz fr lo → CS K 0 body pe bk ct) : xGood y cc n ret fr lo f := by
  refine ⟨fun K0 args h rv h' hf => ?_, fun l b D cI args h rv h' hf => ?_⟩
  · obtain ⟨fl, p, l, e, R, s, m, args0, below, meth, c, b, D, cI, n0, s0, rv0, hF, Q⟩ := K0
    obtain ⟨hs, hr⟩ := hrun _ _ _ _ hf
    obtain ⟨hvd, env', hr⟩ := xRun_spec hr
    have k := hcs (false, p, l, e, R, s, m, args0, below, meth, c, b, D, cI, n0, s0, rv, h', Q) ⟨fun z => (by cases z), fun pc env v _ _ _ => ⟨⟨Nat.le_refl _, Nat.le_refl _⟩, fun z => by cases z⟩, fun pc env _ _ => ⟨⟨Nat.le_refl _, Nat.le_refl _⟩, fun z => by cases z⟩⟩ _ _ _ _ _ hr ⟨rfl, rfl⟩
    exact k.1
  · obtain ⟨hs, hr⟩ := hrun _ _ _ _ hf
    obtain ⟨hvd, env', hr⟩ := xRun_spec hr
    have hrv : rv = none ↔ ret = none := by rw [← hret, ← hvd]; exact Option.isNone_iff_eq_none.symm
    refine Met.ofW (cc := cc) (maxL := n) (ret := ret) hy rfl ?_
    intro p e s m args0 below meth c s₁ B hml hv
    obtain ⟨ha, hA, hK, hex⟩ := hv
    subst ha
    have hx := B.exec
    have hb := B.bytes
    have hrr := B.returns
    have hts := atoms_spec (ws := Cond.code y cc n ret :: xBW) B.pre
    have hown : s.vm.findClass y.cls = some m.cls := findClass_of_methodNamed B.named
    have hlocks := B.notSynchronized
    have hin : meth.name = y.name := (name_of_methodNamed B.named B.method).1
    rw [lg_entry_eq]
    have hS : s.heap.size = b + h.length := hA.1
    have k := hcs (true, p, l, e, (headSpec (Cond.code y cc n ret :: xBW) ({ frames := fr, cells := h'.length - h.length, slots := xsl h' - xsl h, locals := lo })).room, s, m, (args.map (xv b)).toArray, below, meth, c, b, D, cI, h.length, xsl h, rv, h', MQ below (xPost b D cI rv h') (args.map (xv b)).toArray s (h'.length - h.length) (xsl h' - xsl h) (fun q => b ≤ q)) ?_ _ _ _ _ _ hr ⟨rfl, rfl⟩
    · have k2 := k.2 rfl s.heap [] _ (by rw [hml]; exact xEnv_rel (b := b) hs) hA (fun _ _ => rfl) (fun _ z => by cases z) ⟨Nat.le_refl _, Nat.le_refl _⟩
      rw [Nat.sub_self, Nat.sub_self] at k2
      exact k2
    · refine ⟨fun _ => ⟨hx, hb, hown, fun w hw => hts w (List.mem_cons_of_mem _ hw), hK, fun z => hin.trans (hini z), hS, Nat.le_refl _, Nat.le_refl _, Nat.le_refl _, Nat.le_refl _, hex⟩, fun pc env v hd hv0 hbz => ?_, fun pc env hd hv0 => ?_⟩
      · refine ⟨⟨Nat.le_refl _, Nat.le_refl _⟩, fun _ H locs ls h1 h2 h3 h4 h5 => ?_⟩
        have hq : ∀ t : State, t.heap = H → s.WarmedH t.vm → xPost b D cI rv h' (args.map (xv b)).toArray s (.returned (some (.int v))) t := fun t ht _ => ⟨by rw [hv0]; rfl, by rw [ht]; exact h2, fun q hq => by rw [ht]; exact h3 q hq⟩
        rcases hrt with ⟨q1, q2⟩ | ⟨q1, q2⟩ | q1
        · exact W.iret (v := v) hx hb (hrr.trans q1) hq (fun q hq => h4 q hq) hd hlocks
        · refine W.zret (v := v) (ty := .boolean) hx hb (hrr.trans q1) ?_ hq (fun q hq => h4 q hq) hd hlocks
          rcases hbz q2 with rfl | rfl
          · exact (by decide +kernel : narrow FieldType.boolean (.int 0) = .int 0)
          · exact (by decide +kernel : narrow FieldType.boolean (.int 1) = .int 1)
        · have := hrv.mpr q1
          rw [hv0] at this
          cases this
      · refine ⟨⟨Nat.le_refl _, Nat.le_refl _⟩, fun _ H locs ls h1 h2 h3 h4 h5 => ?_⟩
        exact W.vret hx hb (hrr.trans (hrv.mp hv0)) (fun t ht _ => ⟨by rw [hv0]; rfl, by rw [ht]; exact h2, fun q hq => by rw [ht]; exact h3 q hq⟩) (fun q hq => h4 q hq) hd hlocks
theorem x_methI {y : MethodName} {cc : ByteArray} {ci k n fr lo pe bk ct : Nat} {ret : Option FieldType} {ini bz vd : Bool} {body : XS} (hrt : xRt bz ret) (hret : vd = true ↔ ret = none) (hini : ini = true → y.name = "<init>") (hy : plainName y.cls = true) (hcs : ∀ K : XK, xOK K y.cls cc ini bz fr lo → CS K 0 body pe bk ct) : xGood y cc n ret fr lo (xM ci k n vd body) :=
  x_meth hrt hini hy (fun _ _ _ _ hf => (xM_spec hf).2) hret hcs
theorem x_methS {y : MethodName} {cc : ByteArray} {k n fr lo pe bk ct : Nat} {ret : Option FieldType} {ini bz vd : Bool} {body : XS} (hrt : xRt bz ret) (hret : vd = true ↔ ret = none) (hini : ini = true → y.name = "<init>") (hy : plainName y.cls = true) (hcs : ∀ K : XK, xOK K y.cls cc ini bz fr lo → CS K 0 body pe bk ct) : xGood y cc n ret fr lo (xMS k n vd body) :=
  x_meth hrt hini hy (fun _ _ _ _ hf => (xMS_spec hf).2) hret hcs
