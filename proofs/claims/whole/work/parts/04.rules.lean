/-! THE RULES: what holds at the next place holds at this one -/
abbrev XK : Type := Bool × Program × Launch × Env × Room × State × MethodId × Array Value × List Frame × Method × Code × Nat × va_G × (Nat → ClassId) × Nat × Nat × Option Value × XH × (State → Prop)
def xG (K : XK) (pc : Nat) (env : XE) (st : List Value) (h : XH) : Prop := match K with
  | (fl, p, l, e, R, s, m, args, below, meth, c, b, D, cI, n0, s0, _, hF, Q) => (h.length ≤ hF.length ∧ xsl h ≤ xsl hF) ∧ (fl = true → ∀ (H : Heap) (locs : List Loc) (ls : Array Slot), xRel b c.maxLocals env ls → xAg b D cI h H → (∀ q : Nat, q < b → H[q]? = s.heap[q]?) → (∀ q ∈ locs, b ≤ q.base) → (n0 ≤ h.length ∧ s0 ≤ xsl h) → W p l e R s m args below meth c H locs (h.length - n0) (xsl h - s0) Q (F0 m pc ls (st.map (xv b))))
/-- the fixed facts of a method's walk: its class, its bytes, whether it is a constructor, whether it answers a boolean, its room -/
def xOK (K : XK) (own : String) (cc : ByteArray) (ini bz : Bool) (fr lo : Nat) : Prop := match K with
  | (fl, p, l, e, R, s, m, args, below, meth, c, b, D, cI, n0, s0, rv0, hF, Q) => (fl = true → p.tables.exec = Jvm.exec ∧ c.code = cc ∧ s.vm.findClass own = some m.cls ∧ (∀ w ∈ xBW, w.before args s = true) ∧ va_K D xCl (xTy cI) s ∧ (ini = true → meth.name = "<init>") ∧ s.heap.size = b + n0 ∧ hF.length - n0 ≤ R.cells ∧ xsl hF - s0 ≤ R.slots ∧ fr ≤ R.frames ∧ lo ≤ R.locals ∧ xEx b s s.heap) ∧
    (∀ (pc : Nat) (env : XE) (v : Int32), decode cc pc = .ok (.ireturn, 1) → rv0 = some (.int v) → (bz = true → v = 0 ∨ v = 1) → xG K pc env [.int v] hF) ∧ (∀ (pc : Nat) (env : XE), decode cc pc = .ok (.return_, 1) → rv0 = none → xG K pc env [] hF)
def xRv (K : XK) : Option Value := K.2.2.2.2.2.2.2.2.2.2.2.2.2.2.2.2.1
def xHF (K : XK) : XH := K.2.2.2.2.2.2.2.2.2.2.2.2.2.2.2.2.2.1
theorem xv_cat (b : Nat) (v : Value) : (xv b v).category = v.category := by cases v <;> rfl
section XR
variable {K : XK} {own : String} {cc : ByteArray} {ini bz : Bool} {fr lo pc : Nat} {env : XE} {st : List Value} {h : XH}
theorem g_iadd {x y : Int32} (C : xOK K own cc ini bz fr lo) (hd : decode cc pc = .ok (.iadd, 1)) (k : xG K (pc + 1) env (.int (x + y) :: st) h) : xG K pc env (.int y :: .int x :: st) h := by
  obtain ⟨fl, p, l, e, R, s, m, args, below, meth, c, b, D, cI, n0, s0, rv0, hF, Q⟩ := K
  refine And.intro k.1 (fun hf H locs ls h1 h2 h3 h4 h5 => ?_)
  obtain ⟨hx, hb, hown, hts, hK, hini, hbs, hrc, hrs, hfr, hlo⟩ := C.1 hf
  exact lv_iadd hx hb hd (k.2 hf H locs ls h1 h2 h3 h4 h5)
theorem g_isub {x y : Int32} (C : xOK K own cc ini bz fr lo) (hd : decode cc pc = .ok (.isub, 1)) (k : xG K (pc + 1) env (.int (x - y) :: st) h) : xG K pc env (.int y :: .int x :: st) h := by
  obtain ⟨fl, p, l, e, R, s, m, args, below, meth, c, b, D, cI, n0, s0, rv0, hF, Q⟩ := K
  refine And.intro k.1 (fun hf H locs ls h1 h2 h3 h4 h5 => ?_)
  obtain ⟨hx, hb, hown, hts, hK, hini, hbs, hrc, hrs, hfr, hlo⟩ := C.1 hf
  exact lv_isub hx hb hd (k.2 hf H locs ls h1 h2 h3 h4 h5)
theorem g_imul {x y : Int32} (C : xOK K own cc ini bz fr lo) (hd : decode cc pc = .ok (.imul, 1)) (k : xG K (pc + 1) env (.int (x * y) :: st) h) : xG K pc env (.int y :: .int x :: st) h := by
  obtain ⟨fl, p, l, e, R, s, m, args, below, meth, c, b, D, cI, n0, s0, rv0, hF, Q⟩ := K
  refine And.intro k.1 (fun hf H locs ls h1 h2 h3 h4 h5 => ?_)
  obtain ⟨hx, hb, hown, hts, hK, hini, hbs, hrc, hrs, hfr, hlo⟩ := C.1 hf
  exact lv_imul hx hb hd (k.2 hf H locs ls h1 h2 h3 h4 h5)
theorem g_iand {x y : Int32} (C : xOK K own cc ini bz fr lo) (hd : decode cc pc = .ok (.iand, 1)) (k : xG K (pc + 1) env (.int (x &&& y) :: st) h) : xG K pc env (.int y :: .int x :: st) h := by
  obtain ⟨fl, p, l, e, R, s, m, args, below, meth, c, b, D, cI, n0, s0, rv0, hF, Q⟩ := K
  refine And.intro k.1 (fun hf H locs ls h1 h2 h3 h4 h5 => ?_)
  obtain ⟨hx, hb, hown, hts, hK, hini, hbs, hrc, hrs, hfr, hlo⟩ := C.1 hf
  exact lv_iand hx hb hd (k.2 hf H locs ls h1 h2 h3 h4 h5)
theorem g_ior {x y : Int32} (C : xOK K own cc ini bz fr lo) (hd : decode cc pc = .ok (.ior, 1)) (k : xG K (pc + 1) env (.int (x ||| y) :: st) h) : xG K pc env (.int y :: .int x :: st) h := by
  obtain ⟨fl, p, l, e, R, s, m, args, below, meth, c, b, D, cI, n0, s0, rv0, hF, Q⟩ := K
  refine And.intro k.1 (fun hf H locs ls h1 h2 h3 h4 h5 => ?_)
  obtain ⟨hx, hb, hown, hts, hK, hini, hbs, hrc, hrs, hfr, hlo⟩ := C.1 hf
  exact lv_ior hx hb hd (k.2 hf H locs ls h1 h2 h3 h4 h5)
theorem g_ixor {x y : Int32} (C : xOK K own cc ini bz fr lo) (hd : decode cc pc = .ok (.ixor, 1)) (k : xG K (pc + 1) env (.int (x ^^^ y) :: st) h) : xG K pc env (.int y :: .int x :: st) h := by
  obtain ⟨fl, p, l, e, R, s, m, args, below, meth, c, b, D, cI, n0, s0, rv0, hF, Q⟩ := K
  refine And.intro k.1 (fun hf H locs ls h1 h2 h3 h4 h5 => ?_)
  obtain ⟨hx, hb, hown, hts, hK, hini, hbs, hrc, hrs, hfr, hlo⟩ := C.1 hf
  exact lv_ixor hx hb hd (k.2 hf H locs ls h1 h2 h3 h4 h5)
theorem g_ishl {x y : Int32} (C : xOK K own cc ini bz fr lo) (hd : decode cc pc = .ok (.ishl, 1)) (k : xG K (pc + 1) env (.int (x <<< (y &&& 31)) :: st) h) : xG K pc env (.int y :: .int x :: st) h := by
  obtain ⟨fl, p, l, e, R, s, m, args, below, meth, c, b, D, cI, n0, s0, rv0, hF, Q⟩ := K
  refine And.intro k.1 (fun hf H locs ls h1 h2 h3 h4 h5 => ?_)
  obtain ⟨hx, hb, hown, hts, hK, hini, hbs, hrc, hrs, hfr, hlo⟩ := C.1 hf
  exact lv_ishl hx hb hd (k.2 hf H locs ls h1 h2 h3 h4 h5)
theorem g_ishr {x y : Int32} (C : xOK K own cc ini bz fr lo) (hd : decode cc pc = .ok (.ishr, 1)) (k : xG K (pc + 1) env (.int (x >>> (y &&& 31)) :: st) h) : xG K pc env (.int y :: .int x :: st) h := by
  obtain ⟨fl, p, l, e, R, s, m, args, below, meth, c, b, D, cI, n0, s0, rv0, hF, Q⟩ := K
  refine And.intro k.1 (fun hf H locs ls h1 h2 h3 h4 h5 => ?_)
  obtain ⟨hx, hb, hown, hts, hK, hini, hbs, hrc, hrs, hfr, hlo⟩ := C.1 hf
  exact lv_ishr hx hb hd (k.2 hf H locs ls h1 h2 h3 h4 h5)
theorem g_iushr {x y : Int32} (C : xOK K own cc ini bz fr lo) (hd : decode cc pc = .ok (.iushr, 1)) (k : xG K (pc + 1) env (.int ((x.toUInt32 >>> (y.toUInt32 &&& Int32.toUInt32 31)).toInt32) :: st) h) : xG K pc env (.int y :: .int x :: st) h := by
  obtain ⟨fl, p, l, e, R, s, m, args, below, meth, c, b, D, cI, n0, s0, rv0, hF, Q⟩ := K
  refine And.intro k.1 (fun hf H locs ls h1 h2 h3 h4 h5 => ?_)
  obtain ⟨hx, hb, hown, hts, hK, hini, hbs, hrc, hrs, hfr, hlo⟩ := C.1 hf
  exact lv_iushr hx hb hd rfl (k.2 hf H locs ls h1 h2 h3 h4 h5)
theorem g_idiv {x y : Int32} (C : xOK K own cc ini bz fr lo) (hd : decode cc pc = .ok (.idiv, 1)) (hne : ¬ y = 0) (k : xG K (pc + 1) env (.int (x / y) :: st) h) : xG K pc env (.int y :: .int x :: st) h := by
  obtain ⟨fl, p, l, e, R, s, m, args, below, meth, c, b, D, cI, n0, s0, rv0, hF, Q⟩ := K
  refine And.intro k.1 (fun hf H locs ls h1 h2 h3 h4 h5 => ?_)
  obtain ⟨hx, hb, hown, hts, hK, hini, hbs, hrc, hrs, hfr, hlo⟩ := C.1 hf
  exact lv_idiv hx hb hd hne (k.2 hf H locs ls h1 h2 h3 h4 h5)
theorem g_irem {x y : Int32} (C : xOK K own cc ini bz fr lo) (hd : decode cc pc = .ok (.irem, 1)) (hne : ¬ y = 0) (k : xG K (pc + 1) env (.int (x - x / y * y) :: st) h) : xG K pc env (.int y :: .int x :: st) h := by
  obtain ⟨fl, p, l, e, R, s, m, args, below, meth, c, b, D, cI, n0, s0, rv0, hF, Q⟩ := K
  refine And.intro k.1 (fun hf H locs ls h1 h2 h3 h4 h5 => ?_)
  obtain ⟨hx, hb, hown, hts, hK, hini, hbs, hrc, hrs, hfr, hlo⟩ := C.1 hf
  exact lv_irem hx hb hd hne (k.2 hf H locs ls h1 h2 h3 h4 h5)
theorem g_ineg {x : Int32} (C : xOK K own cc ini bz fr lo) (hd : decode cc pc = .ok (.ineg, 1)) (k : xG K (pc + 1) env (.int (-x) :: st) h) : xG K pc env (.int x :: st) h := by
  obtain ⟨fl, p, l, e, R, s, m, args, below, meth, c, b, D, cI, n0, s0, rv0, hF, Q⟩ := K
  refine And.intro k.1 (fun hf H locs ls h1 h2 h3 h4 h5 => ?_)
  obtain ⟨hx, hb, hown, hts, hK, hini, hbs, hrc, hrs, hfr, hlo⟩ := C.1 hf
  exact lv_ineg hx hb hd (k.2 hf H locs ls h1 h2 h3 h4 h5)
theorem g_ladd {x y : Int64} (C : xOK K own cc ini bz fr lo) (hd : decode cc pc = .ok (.ladd, 1)) (k : xG K (pc + 1) env (.long (x + y) :: st) h) : xG K pc env (.long y :: .long x :: st) h := by
  obtain ⟨fl, p, l, e, R, s, m, args, below, meth, c, b, D, cI, n0, s0, rv0, hF, Q⟩ := K
  refine And.intro k.1 (fun hf H locs ls h1 h2 h3 h4 h5 => ?_)
  obtain ⟨hx, hb, hown, hts, hK, hini, hbs, hrc, hrs, hfr, hlo⟩ := C.1 hf
  exact lv_ladd hx hb hd (k.2 hf H locs ls h1 h2 h3 h4 h5)
theorem g_lmul {x y : Int64} (C : xOK K own cc ini bz fr lo) (hd : decode cc pc = .ok (.lmul, 1)) (k : xG K (pc + 1) env (.long (x * y) :: st) h) : xG K pc env (.long y :: .long x :: st) h := by
  obtain ⟨fl, p, l, e, R, s, m, args, below, meth, c, b, D, cI, n0, s0, rv0, hF, Q⟩ := K
  refine And.intro k.1 (fun hf H locs ls h1 h2 h3 h4 h5 => ?_)
  obtain ⟨hx, hb, hown, hts, hK, hini, hbs, hrc, hrs, hfr, hlo⟩ := C.1 hf
  exact lv_lmul hx hb hd (k.2 hf H locs ls h1 h2 h3 h4 h5)
theorem g_lrem {x y : Int64} (C : xOK K own cc ini bz fr lo) (hd : decode cc pc = .ok (.lrem, 1)) (hne : ¬ y = 0) (k : xG K (pc + 1) env (.long (x - x / y * y) :: st) h) : xG K pc env (.long y :: .long x :: st) h := by
  obtain ⟨fl, p, l, e, R, s, m, args, below, meth, c, b, D, cI, n0, s0, rv0, hF, Q⟩ := K
  refine And.intro k.1 (fun hf H locs ls h1 h2 h3 h4 h5 => ?_)
  obtain ⟨hx, hb, hown, hts, hK, hini, hbs, hrc, hrs, hfr, hlo⟩ := C.1 hf
  exact lv_lrem hx hb hd hne (k.2 hf H locs ls h1 h2 h3 h4 h5)
theorem g_lcmp {x y : Int64} (C : xOK K own cc ini bz fr lo) (hd : decode cc pc = .ok (.lcmp, 1)) (k : xG K (pc + 1) env (.int (lg_cmp x y) :: st) h) : xG K pc env (.long y :: .long x :: st) h := by
  obtain ⟨fl, p, l, e, R, s, m, args, below, meth, c, b, D, cI, n0, s0, rv0, hF, Q⟩ := K
  refine And.intro k.1 (fun hf H locs ls h1 h2 h3 h4 h5 => ?_)
  obtain ⟨hx, hb, hown, hts, hK, hini, hbs, hrc, hrs, hfr, hlo⟩ := C.1 hf
  exact W.lcmp hx hb hd (k.2 hf H locs ls h1 h2 h3 h4 h5)
theorem g_i2l {x : Int32} (C : xOK K own cc ini bz fr lo) (hd : decode cc pc = .ok (.i2l, 1)) (k : xG K (pc + 1) env (.long x.toInt64 :: st) h) : xG K pc env (.int x :: st) h := by
  obtain ⟨fl, p, l, e, R, s, m, args, below, meth, c, b, D, cI, n0, s0, rv0, hF, Q⟩ := K
  refine And.intro k.1 (fun hf H locs ls h1 h2 h3 h4 h5 => ?_)
  obtain ⟨hx, hb, hown, hts, hK, hini, hbs, hrc, hrs, hfr, hlo⟩ := C.1 hf
  exact lv_i2l hx hb hd rfl (k.2 hf H locs ls h1 h2 h3 h4 h5)
theorem g_l2i {x : Int64} (C : xOK K own cc ini bz fr lo) (hd : decode cc pc = .ok (.l2i, 1)) (k : xG K (pc + 1) env (.int x.toInt32 :: st) h) : xG K pc env (.long x :: st) h := by
  obtain ⟨fl, p, l, e, R, s, m, args, below, meth, c, b, D, cI, n0, s0, rv0, hF, Q⟩ := K
  refine And.intro k.1 (fun hf H locs ls h1 h2 h3 h4 h5 => ?_)
  obtain ⟨hx, hb, hown, hts, hK, hini, hbs, hrc, hrs, hfr, hlo⟩ := C.1 hf
  exact lv_l2i hx hb hd rfl (k.2 hf H locs ls h1 h2 h3 h4 h5)
theorem g_i2c {x : Int32} (C : xOK K own cc ini bz fr lo) (hd : decode cc pc = .ok (.i2c, 1)) (k : xG K (pc + 1) env (.int (x.toUInt32 % 65536).toInt32 :: st) h) : xG K pc env (.int x :: st) h := by
  obtain ⟨fl, p, l, e, R, s, m, args, below, meth, c, b, D, cI, n0, s0, rv0, hF, Q⟩ := K
  refine And.intro k.1 (fun hf H locs ls h1 h2 h3 h4 h5 => ?_)
  obtain ⟨hx, hb, hown, hts, hK, hini, hbs, hrc, hrs, hfr, hlo⟩ := C.1 hf
  exact lv_i2c hx hb hd rfl (k.2 hf H locs ls h1 h2 h3 h4 h5)
theorem g_iconst {n : Int} {v : Int32} (C : xOK K own cc ini bz fr lo) (hd : decode cc pc = .ok (.iconst n, 1)) (hv : Int32.ofInt n = v) (k : xG K (pc + 1) env (.int v :: st) h) : xG K pc env (st) h := by
  obtain ⟨fl, p, l, e, R, s, m, args, below, meth, c, b, D, cI, n0, s0, rv0, hF, Q⟩ := K
  refine And.intro k.1 (fun hf H locs ls h1 h2 h3 h4 h5 => ?_)
  obtain ⟨hx, hb, hown, hts, hK, hini, hbs, hrc, hrs, hfr, hlo⟩ := C.1 hf
  exact lv_iconst hx hb hd hv (k.2 hf H locs ls h1 h2 h3 h4 h5)
theorem g_bipush {n : Int} {v : Int32} (C : xOK K own cc ini bz fr lo) (hd : decode cc pc = .ok (.bipush n, 2)) (hv : (Int8.ofInt n).toInt32 = v) (k : xG K (pc + 2) env (.int v :: st) h) : xG K pc env (st) h := by
  obtain ⟨fl, p, l, e, R, s, m, args, below, meth, c, b, D, cI, n0, s0, rv0, hF, Q⟩ := K
  refine And.intro k.1 (fun hf H locs ls h1 h2 h3 h4 h5 => ?_)
  obtain ⟨hx, hb, hown, hts, hK, hini, hbs, hrc, hrs, hfr, hlo⟩ := C.1 hf
  exact lv_bipush hx hb hd hv (k.2 hf H locs ls h1 h2 h3 h4 h5)
theorem g_sipush {n : Int} {v : Int32} (C : xOK K own cc ini bz fr lo) (hd : decode cc pc = .ok (.sipush n, 3)) (hv : (Int16.ofInt n).toInt32 = v) (k : xG K (pc + 3) env (.int v :: st) h) : xG K pc env (st) h := by
  obtain ⟨fl, p, l, e, R, s, m, args, below, meth, c, b, D, cI, n0, s0, rv0, hF, Q⟩ := K
  refine And.intro k.1 (fun hf H locs ls h1 h2 h3 h4 h5 => ?_)
  obtain ⟨hx, hb, hown, hts, hK, hini, hbs, hrc, hrs, hfr, hlo⟩ := C.1 hf
  exact lv_sipush hx hb hd hv (k.2 hf H locs ls h1 h2 h3 h4 h5)
theorem g_lconst {n : Fin 2} {v : Int64} (C : xOK K own cc ini bz fr lo) (hd : decode cc pc = .ok (.lconst n, 1)) (hv : Int64.ofNat (n : Nat) = v) (k : xG K (pc + 1) env (.long v :: st) h) : xG K pc env (st) h := by
  obtain ⟨fl, p, l, e, R, s, m, args, below, meth, c, b, D, cI, n0, s0, rv0, hF, Q⟩ := K
  refine And.intro k.1 (fun hf H locs ls h1 h2 h3 h4 h5 => ?_)
  obtain ⟨hx, hb, hown, hts, hK, hini, hbs, hrc, hrs, hfr, hlo⟩ := C.1 hf
  exact lv_lconst hx hb hd hv (k.2 hf H locs ls h1 h2 h3 h4 h5)
theorem g_ldc {i : Nat} {v : Int32} (C : xOK K own cc ini bz fr lo) (hd : decode cc pc = .ok (.ldc i, 2)) (hw : Cond.constant own i v ∈ xBW) (k : xG K (pc + 2) env (.int v :: st) h) : xG K pc env (st) h := by
  obtain ⟨fl, p, l, e, R, s, m, args, below, meth, c, b, D, cI, n0, s0, rv0, hF, Q⟩ := K
  refine And.intro k.1 (fun hf H locs ls h1 h2 h3 h4 h5 => ?_)
  obtain ⟨hx, hb, hown, hts, hK, hini, hbs, hrc, hrs, hfr, hlo⟩ := C.1 hf
  exact lv_ldc hx hb hown (hts _ hw) hd (k.2 hf H locs ls h1 h2 h3 h4 h5)
theorem g_ldcw {i : Nat} {v : Int32} (C : xOK K own cc ini bz fr lo) (hd : decode cc pc = .ok (.ldc_w i, 3)) (hw : Cond.constant own i v ∈ xBW) (k : xG K (pc + 3) env (.int v :: st) h) : xG K pc env (st) h := by
  obtain ⟨fl, p, l, e, R, s, m, args, below, meth, c, b, D, cI, n0, s0, rv0, hF, Q⟩ := K
  refine And.intro k.1 (fun hf H locs ls h1 h2 h3 h4 h5 => ?_)
  obtain ⟨hx, hb, hown, hts, hK, hini, hbs, hrc, hrs, hfr, hlo⟩ := C.1 hf
  exact lv_ldcw hx hb hown (hts _ hw) hd (k.2 hf H locs ls h1 h2 h3 h4 h5)
theorem g_ldc2 {i : Nat} {v : Int64} (C : xOK K own cc ini bz fr lo) (hd : decode cc pc = .ok (.ldc2_w i, 3)) (hw : Cond.constantLong own i v ∈ xBW) (k : xG K (pc + 3) env (.long v :: st) h) : xG K pc env (st) h := by
  obtain ⟨fl, p, l, e, R, s, m, args, below, meth, c, b, D, cI, n0, s0, rv0, hF, Q⟩ := K
  refine And.intro k.1 (fun hf H locs ls h1 h2 h3 h4 h5 => ?_)
  obtain ⟨hx, hb, hown, hts, hK, hini, hbs, hrc, hrs, hfr, hlo⟩ := C.1 hf
  exact lv_ldc2 hx hb hown (hts _ hw) hd (k.2 hf H locs ls h1 h2 h3 h4 h5)
theorem g_iload_n {q : Fin 4} {i : Nat} {x : Int32} (C : xOK K own cc ini bz fr lo) (hd : decode cc pc = .ok (.iload_n q, 1)) (hi : (q : Nat) = i) (hl : env[i]? = some (some (.int x))) (k : xG K (pc + 1) env (.int x :: st) h) : xG K pc env (st) h := by
  obtain ⟨fl, p, l, e, R, s, m, args, below, meth, c, b, D, cI, n0, s0, rv0, hF, Q⟩ := K
  refine And.intro k.1 (fun hf H locs ls h1 h2 h3 h4 h5 => ?_)
  obtain ⟨hx, hb, hown, hts, hK, hini, hbs, hrc, hrs, hfr, hlo⟩ := C.1 hf
  exact lv_iload_n hx hb hd hi (h1.2.2.2 _ _ hl) (k.2 hf H locs ls h1 h2 h3 h4 h5)
theorem g_iload {i : Nat} {x : Int32} (C : xOK K own cc ini bz fr lo) (hd : decode cc pc = .ok (.iload i, 2)) (hl : env[i]? = some (some (.int x))) (k : xG K (pc + 2) env (.int x :: st) h) : xG K pc env (st) h := by
  obtain ⟨fl, p, l, e, R, s, m, args, below, meth, c, b, D, cI, n0, s0, rv0, hF, Q⟩ := K
  refine And.intro k.1 (fun hf H locs ls h1 h2 h3 h4 h5 => ?_)
  obtain ⟨hx, hb, hown, hts, hK, hini, hbs, hrc, hrs, hfr, hlo⟩ := C.1 hf
  exact lv_iload hx hb hd (h1.2.2.2 _ _ hl) (k.2 hf H locs ls h1 h2 h3 h4 h5)
theorem g_lload_n {q : Fin 4} {i : Nat} {x : Int64} (C : xOK K own cc ini bz fr lo) (hd : decode cc pc = .ok (.lload_n q, 1)) (hi : (q : Nat) = i) (hl : env[i]? = some (some (.long x))) (k : xG K (pc + 1) env (.long x :: st) h) : xG K pc env (st) h := by
  obtain ⟨fl, p, l, e, R, s, m, args, below, meth, c, b, D, cI, n0, s0, rv0, hF, Q⟩ := K
  refine And.intro k.1 (fun hf H locs ls h1 h2 h3 h4 h5 => ?_)
  obtain ⟨hx, hb, hown, hts, hK, hini, hbs, hrc, hrs, hfr, hlo⟩ := C.1 hf
  exact lv_lload_n hx hb hd hi (h1.2.2.2 _ _ hl) (k.2 hf H locs ls h1 h2 h3 h4 h5)
theorem g_lload {i : Nat} {x : Int64} (C : xOK K own cc ini bz fr lo) (hd : decode cc pc = .ok (.lload i, 2)) (hl : env[i]? = some (some (.long x))) (k : xG K (pc + 2) env (.long x :: st) h) : xG K pc env (st) h := by
  obtain ⟨fl, p, l, e, R, s, m, args, below, meth, c, b, D, cI, n0, s0, rv0, hF, Q⟩ := K
  refine And.intro k.1 (fun hf H locs ls h1 h2 h3 h4 h5 => ?_)
  obtain ⟨hx, hb, hown, hts, hK, hini, hbs, hrc, hrs, hfr, hlo⟩ := C.1 hf
  exact lv_lload hx hb hd (h1.2.2.2 _ _ hl) (k.2 hf H locs ls h1 h2 h3 h4 h5)
theorem g_aload_n {q : Fin 4} {i x : Nat} (C : xOK K own cc ini bz fr lo) (hd : decode cc pc = .ok (.aload_n q, 1)) (hi : (q : Nat) = i) (hl : env[i]? = some (some (.ref x))) (k : xG K (pc + 1) env (.ref x :: st) h) : xG K pc env (st) h := by
  obtain ⟨fl, p, l, e, R, s, m, args, below, meth, c, b, D, cI, n0, s0, rv0, hF, Q⟩ := K
  refine And.intro k.1 (fun hf H locs ls h1 h2 h3 h4 h5 => ?_)
  obtain ⟨hx, hb, hown, hts, hK, hini, hbs, hrc, hrs, hfr, hlo⟩ := C.1 hf
  exact lv_aload_n hx hb hd hi (h1.2.2.2 _ _ hl) (k.2 hf H locs ls h1 h2 h3 h4 h5)
theorem g_aload {i x : Nat} (C : xOK K own cc ini bz fr lo) (hd : decode cc pc = .ok (.aload i, 2)) (hl : env[i]? = some (some (.ref x))) (k : xG K (pc + 2) env (.ref x :: st) h) : xG K pc env (st) h := by
  obtain ⟨fl, p, l, e, R, s, m, args, below, meth, c, b, D, cI, n0, s0, rv0, hF, Q⟩ := K
  refine And.intro k.1 (fun hf H locs ls h1 h2 h3 h4 h5 => ?_)
  obtain ⟨hx, hb, hown, hts, hK, hini, hbs, hrc, hrs, hfr, hlo⟩ := C.1 hf
  exact lv_aload hx hb hd (h1.2.2.2 _ _ hl) (k.2 hf H locs ls h1 h2 h3 h4 h5)
theorem g_aload_nR {q : Fin 4} {i x : Nat} (C : xOK K own cc ini bz fr lo) (hd : decode cc pc = .ok (.aload_n q, 1)) (hi : (q : Nat) = i) (hl : env[i]? = some (some (.retAddr x))) (k : xG K (pc + 1) env (.retAddr x :: st) h) : xG K pc env (st) h := by
  obtain ⟨fl, p, l, e, R, s, m, args, below, meth, c, b, D, cI, n0, s0, rv0, hF, Q⟩ := K
  refine And.intro k.1 (fun hf H locs ls h1 h2 h3 h4 h5 => ?_)
  obtain ⟨hx, hb, hown, hts, hK, hini, hbs, hrc, hrs, hfr, hlo⟩ := C.1 hf
  exact lv_aload_n hx hb hd hi (h1.2.2.2 _ _ hl) (k.2 hf H locs ls h1 h2 h3 h4 h5)
theorem g_aloadR {i x : Nat} (C : xOK K own cc ini bz fr lo) (hd : decode cc pc = .ok (.aload i, 2)) (hl : env[i]? = some (some (.retAddr x))) (k : xG K (pc + 2) env (.retAddr x :: st) h) : xG K pc env (st) h := by
  obtain ⟨fl, p, l, e, R, s, m, args, below, meth, c, b, D, cI, n0, s0, rv0, hF, Q⟩ := K
  refine And.intro k.1 (fun hf H locs ls h1 h2 h3 h4 h5 => ?_)
  obtain ⟨hx, hb, hown, hts, hK, hini, hbs, hrc, hrs, hfr, hlo⟩ := C.1 hf
  exact lv_aload hx hb hd (h1.2.2.2 _ _ hl) (k.2 hf H locs ls h1 h2 h3 h4 h5)
theorem g_dup {v : Value} (C : xOK K own cc ini bz fr lo) (hd : decode cc pc = .ok (.dup, 1)) (hc : v.category = 1) (k : xG K (pc + 1) env (v :: v :: st) h) : xG K pc env (v :: st) h := by
  obtain ⟨fl, p, l, e, R, s, m, args, below, meth, c, b, D, cI, n0, s0, rv0, hF, Q⟩ := K
  refine And.intro k.1 (fun hf H locs ls h1 h2 h3 h4 h5 => ?_)
  obtain ⟨hx, hb, hown, hts, hK, hini, hbs, hrc, hrs, hfr, hlo⟩ := C.1 hf
  exact lv_dup hx hb hd ((xv_cat b v).trans hc) (k.2 hf H locs ls h1 h2 h3 h4 h5)
theorem g_pop {v : Value} (C : xOK K own cc ini bz fr lo) (hd : decode cc pc = .ok (.pop, 1)) (hc : v.category = 1) (k : xG K (pc + 1) env (st) h) : xG K pc env (v :: st) h := by
  obtain ⟨fl, p, l, e, R, s, m, args, below, meth, c, b, D, cI, n0, s0, rv0, hF, Q⟩ := K
  refine And.intro k.1 (fun hf H locs ls h1 h2 h3 h4 h5 => ?_)
  obtain ⟨hx, hb, hown, hts, hK, hini, hbs, hrc, hrs, hfr, hlo⟩ := C.1 hf
  exact lv_pop hx hb hd ((xv_cat b v).trans hc) (k.2 hf H locs ls h1 h2 h3 h4 h5)
theorem g_dup2 {v w : Value} (C : xOK K own cc ini bz fr lo) (hd : decode cc pc = .ok (.dup2, 1)) (hc : v.category = 1) (hc2 : w.category = 1) (k : xG K (pc + 1) env (v :: w :: v :: w :: st) h) : xG K pc env (v :: w :: st) h := by
  obtain ⟨fl, p, l, e, R, s, m, args, below, meth, c, b, D, cI, n0, s0, rv0, hF, Q⟩ := K
  refine And.intro k.1 (fun hf H locs ls h1 h2 h3 h4 h5 => ?_)
  obtain ⟨hx, hb, hown, hts, hK, hini, hbs, hrc, hrs, hfr, hlo⟩ := C.1 hf
  exact lv_dup2_11 hx hb hd ((xv_cat b v).trans hc) ((xv_cat b w).trans hc2) (k.2 hf H locs ls h1 h2 h3 h4 h5)
theorem g_goto {off : Int} {tgt : Nat} (C : xOK K own cc ini bz fr lo) (hd : decode cc pc = .ok (.goto off, 3)) (ht : (pc : Int) + off = (tgt : Int)) (k : xG K tgt env (st) h) : xG K pc env (st) h := by
  obtain ⟨fl, p, l, e, R, s, m, args, below, meth, c, b, D, cI, n0, s0, rv0, hF, Q⟩ := K
  refine And.intro k.1 (fun hf H locs ls h1 h2 h3 h4 h5 => ?_)
  obtain ⟨hx, hb, hown, hts, hK, hini, hbs, hrc, hrs, hfr, hlo⟩ := C.1 hf
  exact lv_goto hx hb hd ht (k.2 hf H locs ls h1 h2 h3 h4 h5)
theorem g_if_eq {x : Int32} {off : Int} {tgt : Nat} (C : xOK K own cc ini bz fr lo) (hd : decode cc pc = .ok (.ifCond .eq off, 3)) (ht : (pc : Int) + off = (tgt : Int)) (k : xG K (if x = 0 then tgt else pc + 3) env st h) : xG K pc env (.int x :: st) h := by
  obtain ⟨fl, p, l, e, R, s, m, args, below, meth, c, b, D, cI, n0, s0, rv0, hF, Q⟩ := K
  refine And.intro k.1 (fun hf H locs ls h1 h2 h3 h4 h5 => ?_)
  obtain ⟨hx, hb, hown, hts, hK, hini, hbs, hrc, hrs, hfr, hlo⟩ := C.1 hf
  refine lv_if_eq hx hb hd ht (fun q => ?_) (fun q => ?_)
  · have k2 := k.2 hf H locs ls h1 h2 h3 h4 h5
    rw [if_pos q] at k2
    exact k2
  · have k2 := k.2 hf H locs ls h1 h2 h3 h4 h5
    rw [if_neg q] at k2
    exact k2
theorem g_icmp_eq {x y : Int32} {off : Int} {tgt : Nat} (C : xOK K own cc ini bz fr lo) (hd : decode cc pc = .ok (.if_icmp .eq off, 3)) (ht : (pc : Int) + off = (tgt : Int)) (k : xG K (if x = y then tgt else pc + 3) env st h) : xG K pc env (.int y :: .int x :: st) h := by
  obtain ⟨fl, p, l, e, R, s, m, args, below, meth, c, b, D, cI, n0, s0, rv0, hF, Q⟩ := K
  refine And.intro k.1 (fun hf H locs ls h1 h2 h3 h4 h5 => ?_)
  obtain ⟨hx, hb, hown, hts, hK, hini, hbs, hrc, hrs, hfr, hlo⟩ := C.1 hf
  refine lv_icmp_eq hx hb hd ht (fun q => ?_) (fun q => ?_)
  · have k2 := k.2 hf H locs ls h1 h2 h3 h4 h5
    rw [if_pos q] at k2
    exact k2
  · have k2 := k.2 hf H locs ls h1 h2 h3 h4 h5
    rw [if_neg q] at k2
    exact k2
theorem g_if_ne {x : Int32} {off : Int} {tgt : Nat} (C : xOK K own cc ini bz fr lo) (hd : decode cc pc = .ok (.ifCond .ne off, 3)) (ht : (pc : Int) + off = (tgt : Int)) (k : xG K (if ¬ x = 0 then tgt else pc + 3) env st h) : xG K pc env (.int x :: st) h := by
  obtain ⟨fl, p, l, e, R, s, m, args, below, meth, c, b, D, cI, n0, s0, rv0, hF, Q⟩ := K
  refine And.intro k.1 (fun hf H locs ls h1 h2 h3 h4 h5 => ?_)
  obtain ⟨hx, hb, hown, hts, hK, hini, hbs, hrc, hrs, hfr, hlo⟩ := C.1 hf
  refine lv_if_ne hx hb hd ht (fun q => ?_) (fun q => ?_)
  · have k2 := k.2 hf H locs ls h1 h2 h3 h4 h5
    rw [if_pos q] at k2
    exact k2
  · have k2 := k.2 hf H locs ls h1 h2 h3 h4 h5
    rw [if_neg (fun z => z q)] at k2
    exact k2
theorem g_icmp_ne {x y : Int32} {off : Int} {tgt : Nat} (C : xOK K own cc ini bz fr lo) (hd : decode cc pc = .ok (.if_icmp .ne off, 3)) (ht : (pc : Int) + off = (tgt : Int)) (k : xG K (if ¬ x = y then tgt else pc + 3) env st h) : xG K pc env (.int y :: .int x :: st) h := by
  obtain ⟨fl, p, l, e, R, s, m, args, below, meth, c, b, D, cI, n0, s0, rv0, hF, Q⟩ := K
  refine And.intro k.1 (fun hf H locs ls h1 h2 h3 h4 h5 => ?_)
  obtain ⟨hx, hb, hown, hts, hK, hini, hbs, hrc, hrs, hfr, hlo⟩ := C.1 hf
  refine lv_icmp_ne hx hb hd ht (fun q => ?_) (fun q => ?_)
  · have k2 := k.2 hf H locs ls h1 h2 h3 h4 h5
    rw [if_pos q] at k2
    exact k2
  · have k2 := k.2 hf H locs ls h1 h2 h3 h4 h5
    rw [if_neg (fun z => z q)] at k2
    exact k2
theorem g_if_lt {x : Int32} {off : Int} {tgt : Nat} (C : xOK K own cc ini bz fr lo) (hd : decode cc pc = .ok (.ifCond .lt off, 3)) (ht : (pc : Int) + off = (tgt : Int)) (k : xG K (if x < 0 then tgt else pc + 3) env st h) : xG K pc env (.int x :: st) h := by
  obtain ⟨fl, p, l, e, R, s, m, args, below, meth, c, b, D, cI, n0, s0, rv0, hF, Q⟩ := K
  refine And.intro k.1 (fun hf H locs ls h1 h2 h3 h4 h5 => ?_)
  obtain ⟨hx, hb, hown, hts, hK, hini, hbs, hrc, hrs, hfr, hlo⟩ := C.1 hf
  refine lv_if_lt hx hb hd ht (fun q => ?_) (fun q => ?_)
  · have k2 := k.2 hf H locs ls h1 h2 h3 h4 h5
    rw [if_pos q] at k2
    exact k2
  · have k2 := k.2 hf H locs ls h1 h2 h3 h4 h5
    rw [if_neg q] at k2
    exact k2
theorem g_icmp_lt {x y : Int32} {off : Int} {tgt : Nat} (C : xOK K own cc ini bz fr lo) (hd : decode cc pc = .ok (.if_icmp .lt off, 3)) (ht : (pc : Int) + off = (tgt : Int)) (k : xG K (if x < y then tgt else pc + 3) env st h) : xG K pc env (.int y :: .int x :: st) h := by
  obtain ⟨fl, p, l, e, R, s, m, args, below, meth, c, b, D, cI, n0, s0, rv0, hF, Q⟩ := K
  refine And.intro k.1 (fun hf H locs ls h1 h2 h3 h4 h5 => ?_)
  obtain ⟨hx, hb, hown, hts, hK, hini, hbs, hrc, hrs, hfr, hlo⟩ := C.1 hf
  refine lv_icmp_lt hx hb hd ht (fun q => ?_) (fun q => ?_)
  · have k2 := k.2 hf H locs ls h1 h2 h3 h4 h5
    rw [if_pos q] at k2
    exact k2
  · have k2 := k.2 hf H locs ls h1 h2 h3 h4 h5
    rw [if_neg q] at k2
    exact k2
theorem g_if_ge {x : Int32} {off : Int} {tgt : Nat} (C : xOK K own cc ini bz fr lo) (hd : decode cc pc = .ok (.ifCond .ge off, 3)) (ht : (pc : Int) + off = (tgt : Int)) (k : xG K (if 0 ≤ x then tgt else pc + 3) env st h) : xG K pc env (.int x :: st) h := by
  obtain ⟨fl, p, l, e, R, s, m, args, below, meth, c, b, D, cI, n0, s0, rv0, hF, Q⟩ := K
  refine And.intro k.1 (fun hf H locs ls h1 h2 h3 h4 h5 => ?_)
  obtain ⟨hx, hb, hown, hts, hK, hini, hbs, hrc, hrs, hfr, hlo⟩ := C.1 hf
  refine lv_if_ge hx hb hd ht (fun q => ?_) (fun q => ?_)
  · have k2 := k.2 hf H locs ls h1 h2 h3 h4 h5
    rw [if_pos q] at k2
    exact k2
  · have k2 := k.2 hf H locs ls h1 h2 h3 h4 h5
    rw [if_neg q] at k2
    exact k2
theorem g_icmp_ge {x y : Int32} {off : Int} {tgt : Nat} (C : xOK K own cc ini bz fr lo) (hd : decode cc pc = .ok (.if_icmp .ge off, 3)) (ht : (pc : Int) + off = (tgt : Int)) (k : xG K (if y ≤ x then tgt else pc + 3) env st h) : xG K pc env (.int y :: .int x :: st) h := by
  obtain ⟨fl, p, l, e, R, s, m, args, below, meth, c, b, D, cI, n0, s0, rv0, hF, Q⟩ := K
  refine And.intro k.1 (fun hf H locs ls h1 h2 h3 h4 h5 => ?_)
  obtain ⟨hx, hb, hown, hts, hK, hini, hbs, hrc, hrs, hfr, hlo⟩ := C.1 hf
  refine lv_icmp_ge hx hb hd ht (fun q => ?_) (fun q => ?_)
  · have k2 := k.2 hf H locs ls h1 h2 h3 h4 h5
    rw [if_pos q] at k2
    exact k2
  · have k2 := k.2 hf H locs ls h1 h2 h3 h4 h5
    rw [if_neg q] at k2
    exact k2
theorem g_if_gt {x : Int32} {off : Int} {tgt : Nat} (C : xOK K own cc ini bz fr lo) (hd : decode cc pc = .ok (.ifCond .gt off, 3)) (ht : (pc : Int) + off = (tgt : Int)) (k : xG K (if 0 < x then tgt else pc + 3) env st h) : xG K pc env (.int x :: st) h := by
  obtain ⟨fl, p, l, e, R, s, m, args, below, meth, c, b, D, cI, n0, s0, rv0, hF, Q⟩ := K
  refine And.intro k.1 (fun hf H locs ls h1 h2 h3 h4 h5 => ?_)
  obtain ⟨hx, hb, hown, hts, hK, hini, hbs, hrc, hrs, hfr, hlo⟩ := C.1 hf
  refine lv_if_gt hx hb hd ht (fun q => ?_) (fun q => ?_)
  · have k2 := k.2 hf H locs ls h1 h2 h3 h4 h5
    rw [if_pos q] at k2
    exact k2
  · have k2 := k.2 hf H locs ls h1 h2 h3 h4 h5
    rw [if_neg q] at k2
    exact k2
theorem g_icmp_gt {x y : Int32} {off : Int} {tgt : Nat} (C : xOK K own cc ini bz fr lo) (hd : decode cc pc = .ok (.if_icmp .gt off, 3)) (ht : (pc : Int) + off = (tgt : Int)) (k : xG K (if y < x then tgt else pc + 3) env st h) : xG K pc env (.int y :: .int x :: st) h := by
  obtain ⟨fl, p, l, e, R, s, m, args, below, meth, c, b, D, cI, n0, s0, rv0, hF, Q⟩ := K
  refine And.intro k.1 (fun hf H locs ls h1 h2 h3 h4 h5 => ?_)
  obtain ⟨hx, hb, hown, hts, hK, hini, hbs, hrc, hrs, hfr, hlo⟩ := C.1 hf
  refine lv_icmp_gt hx hb hd ht (fun q => ?_) (fun q => ?_)
  · have k2 := k.2 hf H locs ls h1 h2 h3 h4 h5
    rw [if_pos q] at k2
    exact k2
  · have k2 := k.2 hf H locs ls h1 h2 h3 h4 h5
    rw [if_neg q] at k2
    exact k2
theorem g_if_le {x : Int32} {off : Int} {tgt : Nat} (C : xOK K own cc ini bz fr lo) (hd : decode cc pc = .ok (.ifCond .le off, 3)) (ht : (pc : Int) + off = (tgt : Int)) (k : xG K (if x ≤ 0 then tgt else pc + 3) env st h) : xG K pc env (.int x :: st) h := by
  obtain ⟨fl, p, l, e, R, s, m, args, below, meth, c, b, D, cI, n0, s0, rv0, hF, Q⟩ := K
  refine And.intro k.1 (fun hf H locs ls h1 h2 h3 h4 h5 => ?_)
  obtain ⟨hx, hb, hown, hts, hK, hini, hbs, hrc, hrs, hfr, hlo⟩ := C.1 hf
  refine lv_if_le hx hb hd ht (fun q => ?_) (fun q => ?_)
  · have k2 := k.2 hf H locs ls h1 h2 h3 h4 h5
    rw [if_pos q] at k2
    exact k2
  · have k2 := k.2 hf H locs ls h1 h2 h3 h4 h5
    rw [if_neg q] at k2
    exact k2
theorem g_icmp_le {x y : Int32} {off : Int} {tgt : Nat} (C : xOK K own cc ini bz fr lo) (hd : decode cc pc = .ok (.if_icmp .le off, 3)) (ht : (pc : Int) + off = (tgt : Int)) (k : xG K (if x ≤ y then tgt else pc + 3) env st h) : xG K pc env (.int y :: .int x :: st) h := by
  obtain ⟨fl, p, l, e, R, s, m, args, below, meth, c, b, D, cI, n0, s0, rv0, hF, Q⟩ := K
  refine And.intro k.1 (fun hf H locs ls h1 h2 h3 h4 h5 => ?_)
  obtain ⟨hx, hb, hown, hts, hK, hini, hbs, hrc, hrs, hfr, hlo⟩ := C.1 hf
  refine lv_icmp_le hx hb hd ht (fun q => ?_) (fun q => ?_)
  · have k2 := k.2 hf H locs ls h1 h2 h3 h4 h5
    rw [if_pos q] at k2
    exact k2
  · have k2 := k.2 hf H locs ls h1 h2 h3 h4 h5
    rw [if_neg q] at k2
    exact k2
end XR
