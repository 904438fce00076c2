/-! STATEMENTS, calls, loops, switches -/
section XT
variable {K : XK} {own : String} {cc : ByteArray} {ini bz : Bool} {fr lo d pc p1 p2 p3 p4 pe bk ct : Nat}
def x_args : List XX → XE → XH → Option (List Value × XH)
  | [], _, h => some ([], h)
  | e :: es, env, h => (e env h).bind fun r => (x_args es env r.2).map fun q => (r.1 :: q.1, q.2)
def CA (K : XK) (d pc : Nat) (es : List XX) (pc' : Nat) : Prop := ∀ (env : XE) (h : XH) (vs : List Value) (h' : XH), x_args es env h = some (vs, h') → ∀ st : List Value, (st.map fun v => v.category).sum ≤ d → xG K pc' env (vs.reverse ++ st) h' → xG K pc env st h
theorem ca_nil : CA K d pc [] pc := by
  intro env h vs h' he st _ k
  cases he
  exact k
theorem ca_cons {e : XX} {es : List XX} (h1 : CE K d pc e p1) (h2 : CA K (d + 2) p1 es p2) : CA K d pc (e :: es) p2 := by
  intro env h vs h' he st hst k
  obtain ⟨⟨v1, ha⟩, e1, he1⟩ := Option.bind_eq_some_iff.mp he
  obtain ⟨⟨ws, hb⟩, e2, he2⟩ := Option.map_eq_some_iff.mp he1
  cases he2
  refine h1 _ _ _ _ e1 st hst (h2 _ _ _ _ e2 _ (cat_cons _ hst) ?_)
  simpa using k
/-- at pc there is a call of f -/
def xCal (K : XK) (pc : Nat) (f : XF) : Prop := ∀ (env : XE) (st args : List Value) (h : XH) (rv : Option Value) (h' : XH), (st.map fun v => v.category).sum ≤ 8 → f args h = some (rv, h') → xG K (pc + 3) env (rv.toList ++ st) h' → xG K pc env (args.reverse ++ st) h
theorem xCal_V {y : MethodName} {bytes : ByteArray} {maxL n idx fr' lo' ci : Nat} {ret : Option FieldType} {f : XF} {r : vw_C} (C : xOK K own cc ini bz fr lo) (hd : decode cc pc = .ok (.invokevirtual idx, 3)) (hW : xCallW y bytes maxL ret n) (hV : xCallV own idx y) (hci : xCl[ci]? = some r) (hcy : r.1 = y.cls) (hG : xGood y bytes maxL ret fr' lo' f) (hrec : xRecv f ci n) (hr1 : fr' + 1 ≤ fr) (hr2 : 8 + (maxL + 11) + lo' ≤ lo) : xCal K pc f :=
  fun _ _ _ _ _ _ hst hf k => g_callV C hd hW hV hci hcy hG hrec hr1 hr2 hst hf k
theorem xCal_S {y : MethodName} {bytes : ByteArray} {maxL n idx fr' lo' : Nat} {ret : Option FieldType} {f : XF} (C : xOK K own cc ini bz fr lo) (hd : decode cc pc = .ok (.invokestatic idx, 3)) (hW : xCallW y bytes maxL ret n) (hV : xCallS own idx y) (hG : xGood y bytes maxL ret fr' lo' f) (hrec : xArgs f n) (hr1 : fr' + 1 ≤ fr) (hr2 : 8 + (maxL + 11) + lo' ≤ lo) : xCal K pc f :=
  fun _ _ _ _ _ _ hst hf k => g_callS (ci := 0) C hd hW hV hG hrec hr1 hr2 hst hf k
theorem xCal_I {y : MethodName} {bytes : ByteArray} {maxL n idx fr' lo' ci : Nat} {f : XF} (C : xOK K own cc ini bz fr lo) (hd : decode cc pc = .ok (.invokespecial idx, 3)) (hW : xCallW y bytes maxL none n) (hV : xCallI own idx y) (hG : xGood y bytes maxL none fr' lo' f) (hrec : xRecv f ci n) (hr1 : fr' + 1 ≤ fr) (hr2 : 8 + (maxL + 11) + lo' ≤ lo) : xCal K pc f :=
  fun _ _ _ _ _ _ hst hf k => g_callI C hd hW hV rfl hG hrec hr1 hr2 hst hf k
def e_call (f : XF) (as : List XX) : XX := fun env h => (x_args as env h).bind fun r => (f r.1 r.2).bind fun q => q.1.map fun v => (v, q.2)
theorem ce_call {f : XF} {as : List XX} (h1 : CA K d pc as p1) (hc : xCal K p1 f) (hd : d ≤ 8) : CE K d pc (e_call f as) (p1 + 3) := by
  intro env h v h' he st hst k
  obtain ⟨⟨vs, ha⟩, e1, he1⟩ := Option.bind_eq_some_iff.mp he
  obtain ⟨⟨rv, hb⟩, e2, he2⟩ := Option.bind_eq_some_iff.mp he1
  obtain ⟨w, e3, he3⟩ := Option.map_eq_some_iff.mp he2
  cases he3
  dsimp only at e2 e3 k
  subst e3
  exact h1 _ _ _ _ e1 st hst (hc _ _ _ _ _ _ (Nat.le_trans hst hd) e2 k)
def e_new (ci : Nat) (f : XF) (as : List XX) : XX := fun env h => (x_args as env (h ++ [.inl (ci, xDf ci)])).bind fun r => (f (.ref h.length :: r.1) r.2).bind fun q => if q.1 = none then some (.ref h.length, q.2) else none
theorem ce_new {ci idx : Nat} {f : XF} {as : List XX} (C : xOK K own cc ini bz fr lo) (hd1 : decode cc pc = .ok (.new idx, 3)) (hN : xNew own idx ci) (hd2 : decode cc (pc + 3) = .ok (.dup, 1)) (h1 : CA K (d + 4) (pc + 4) as p1) (hc : xCal K p1 f) (hd : d + 2 ≤ 8) : CE K d pc (e_new ci f as) (p1 + 3) := by
  intro env h v h' he st hst k
  obtain ⟨⟨vs, ha⟩, e1, he1⟩ := Option.bind_eq_some_iff.mp he
  obtain ⟨⟨rv, hb⟩, e2, he2⟩ := Option.bind_eq_some_iff.mp he1
  dsimp only at e2 he2
  split at he2
  · rename_i hrv
    cases he2
    subst hrv
    refine g_new C hd1 hN (g_dup C hd2 rfl ?_)
    refine h1 _ _ _ _ e1 _ (cat_cons _ (cat_cons _ hst)) ?_
    have k2 := hc env (.ref h.length :: st) (.ref h.length :: vs) ha none _ (Nat.le_trans (cat_cons _ hst) hd) e2 k
    simpa using k2
  · cases he2
def e_newa (t : Nat) (a : XX) : XX := fun env h => (a env h).bind fun r => (x_int r.1).bind fun x => if ¬ x < 0 ∧ x.toNatClampNeg ≤ 100000 then some (.ref r.2.length, r.2 ++ [.inr (.inl (t, List.replicate x.toNatClampNeg 0))]) else none
def e_newr (a : XX) : XX := fun env h => (a env h).bind fun r => (x_int r.1).bind fun x => if ¬ x < 0 ∧ x.toNatClampNeg ≤ 100000 then some (.ref r.2.length, r.2 ++ [.inr (.inr (List.replicate x.toNatClampNeg none))]) else none
theorem ce_newi {a : XX} (C : xOK K own cc ini bz fr lo) (h1 : CE K d pc a p1) (hd : decode cc p1 = .ok (.newarray .int, 2)) (hW : Cond.arrayClass (newarray.typeOf .int) ∈ xBW) : CE K d pc (e_newa 0 a) (p1 + 2) := by
  intro env h v h' he st hst k
  obtain ⟨⟨v1, ha⟩, e1, he1⟩ := Option.bind_eq_some_iff.mp he
  obtain ⟨x, e2, he2⟩ := Option.bind_eq_some_iff.mp he1
  dsimp only at e2 he2
  have q := x_int_spec e2
  subst q
  split at he2
  · rename_i hx
    cases he2
    exact h1 _ _ _ _ e1 st hst (g_newi C hd hW hx.1 hx.2 k)
  · cases he2
theorem ce_newc {a : XX} (C : xOK K own cc ini bz fr lo) (h1 : CE K d pc a p1) (hd : decode cc p1 = .ok (.newarray .char, 2)) (hW : Cond.arrayClass (newarray.typeOf .char) ∈ xBW) : CE K d pc (e_newa 1 a) (p1 + 2) := by
  intro env h v h' he st hst k
  obtain ⟨⟨v1, ha⟩, e1, he1⟩ := Option.bind_eq_some_iff.mp he
  obtain ⟨x, e2, he2⟩ := Option.bind_eq_some_iff.mp he1
  dsimp only at e2 he2
  have q := x_int_spec e2
  subst q
  split at he2
  · rename_i hx
    cases he2
    exact h1 _ _ _ _ e1 st hst (g_newc C hd hW hx.1 hx.2 k)
  · cases he2
theorem ce_newr {a : XX} {idx : Nat} (C : xOK K own cc ini bz fr lo) (h1 : CE K d pc a p1) (hd : decode cc p1 = .ok (.anewarray idx, 3)) (hW : Cond.classLink own idx RX6 ∈ xBW) : CE K d pc (e_newr a) (p1 + 3) := by
  intro env h v h' he st hst k
  obtain ⟨⟨v1, ha⟩, e1, he1⟩ := Option.bind_eq_some_iff.mp he
  obtain ⟨x, e2, he2⟩ := Option.bind_eq_some_iff.mp he1
  dsimp only at e2 he2
  have q := x_int_spec e2
  subst q
  split at he2
  · rename_i hx
    cases he2
    exact h1 _ _ _ _ e1 st hst (g_newr C hd hW hx.1 hx.2 k)
  · cases he2
-- statements
def s_skip : XS := fun env h => some (none, env, h)
theorem cs_skip : CS K pc s_skip pc bk ct := by
  intro env h o env' h' he k
  cases he
  exact k
def s_seq (a b : XS) : XS := fun env h => (a env h).bind fun r => match r.1 with
  | none => b r.2.1 r.2.2
  | some o => some (some o, r.2.1, r.2.2)
theorem cs_seq {a b : XS} (h1 : CS K pc a p1 bk ct) (h2 : CS K p1 b p2 bk ct) : CS K pc (s_seq a b) p2 bk ct := by
  intro env h o env' h' he k
  obtain ⟨⟨o1, env1, ha⟩, e1, he1⟩ := Option.bind_eq_some_iff.mp he
  cases o1 with
  | none => exact h1 _ _ _ _ _ e1 (h2 _ _ _ _ _ he1 k)
  | some o2 =>
    cases he1
    refine h1 _ _ _ _ _ e1 ?_
    rcases o2 with (_ | _) | rv <;> exact k
def s_brk : XS := fun env h => some (some (.inl true), env, h)
def s_cont : XS := fun env h => some (some (.inl false), env, h)
theorem cs_brk {off : Int} {pe : Nat} (C : xOK K own cc ini bz fr lo) (hd : decode cc pc = .ok (.goto off, 3)) (ht : (pc : Int) + off = (bk : Int)) : CS K pc s_brk pe bk ct := by
  intro env h o env' h' he k
  cases he
  exact g_goto C hd ht k
theorem cs_cont {off : Int} {pe : Nat} (C : xOK K own cc ini bz fr lo) (hd : decode cc pc = .ok (.goto off, 3)) (ht : (pc : Int) + off = (ct : Int)) : CS K pc s_cont pe bk ct := by
  intro env h o env' h' he k
  cases he
  exact g_goto C hd ht k
def s_iasg (i : Nat) (e : XX) : XS := fun env h => (e env h).bind fun r => (x_int r.1).bind fun x => (xst1 env i (.int x)).map fun env' => (none, env', r.2)
theorem s_iasg_spec {i : Nat} {e : XX} {env env' : XE} {h h' : XH} {o : XO} (he : s_iasg i e env h = some (o, env', h')) : o = none ∧ ∃ x : Int32, e env h = some (.int x, h') ∧ xst1 env i (.int x) = some env' := by
  obtain ⟨⟨v1, ha⟩, e1, he1⟩ := Option.bind_eq_some_iff.mp he
  obtain ⟨x, e2, he2⟩ := Option.bind_eq_some_iff.mp he1
  obtain ⟨w, e3, he3⟩ := Option.map_eq_some_iff.mp he2
  cases he3
  have q := x_int_spec e2
  dsimp only at q
  subst q
  exact ⟨rfl, x, e1, e3⟩
theorem cs_iasgn {q : Fin 4} {i : Nat} {e : XX} (C : xOK K own cc ini bz fr lo) (h1 : CE K 0 pc e p1) (hd : decode cc p1 = .ok (.istore_n q, 1)) (hi : (q : Nat) = i) : CS K pc (s_iasg i e) (p1 + 1) bk ct := by
  intro env h o env' h' he k
  obtain ⟨rfl, x, e1, e2⟩ := s_iasg_spec he
  exact h1 _ _ _ _ e1 [] (Nat.le_refl _) (g_istore_n C hd hi e2 k)
theorem cs_iasg {i : Nat} {e : XX} (C : xOK K own cc ini bz fr lo) (h1 : CE K 0 pc e p1) (hd : decode cc p1 = .ok (.istore i, 2)) : CS K pc (s_iasg i e) (p1 + 2) bk ct := by
  intro env h o env' h' he k
  obtain ⟨rfl, x, e1, e2⟩ := s_iasg_spec he
  exact h1 _ _ _ _ e1 [] (Nat.le_refl _) (g_istore C hd e2 k)
def s_lasg (i : Nat) (e : XX) : XS := fun env h => (e env h).bind fun r => (x_long r.1).bind fun x => (xst2 env i (.long x)).map fun env' => (none, env', r.2)
theorem s_lasg_spec {i : Nat} {e : XX} {env env' : XE} {h h' : XH} {o : XO} (he : s_lasg i e env h = some (o, env', h')) : o = none ∧ ∃ x : Int64, e env h = some (.long x, h') ∧ xst2 env i (.long x) = some env' := by
  obtain ⟨⟨v1, ha⟩, e1, he1⟩ := Option.bind_eq_some_iff.mp he
  obtain ⟨x, e2, he2⟩ := Option.bind_eq_some_iff.mp he1
  obtain ⟨w, e3, he3⟩ := Option.map_eq_some_iff.mp he2
  cases he3
  have q := x_long_spec e2
  dsimp only at q
  subst q
  exact ⟨rfl, x, e1, e3⟩
theorem cs_lasgn {q : Fin 4} {i : Nat} {e : XX} (C : xOK K own cc ini bz fr lo) (h1 : CE K 0 pc e p1) (hd : decode cc p1 = .ok (.lstore_n q, 1)) (hi : (q : Nat) = i) : CS K pc (s_lasg i e) (p1 + 1) bk ct := by
  intro env h o env' h' he k
  obtain ⟨rfl, x, e1, e2⟩ := s_lasg_spec he
  exact h1 _ _ _ _ e1 [] (Nat.le_refl _) (g_lstore_n C hd hi e2 k)
theorem cs_lasg {i : Nat} {e : XX} (C : xOK K own cc ini bz fr lo) (h1 : CE K 0 pc e p1) (hd : decode cc p1 = .ok (.lstore i, 2)) : CS K pc (s_lasg i e) (p1 + 2) bk ct := by
  intro env h o env' h' he k
  obtain ⟨rfl, x, e1, e2⟩ := s_lasg_spec he
  exact h1 _ _ _ _ e1 [] (Nat.le_refl _) (g_lstore C hd e2 k)
def x_ref : Value → Option Nat
  | .ref x => some x
  | _ => none
theorem x_ref_spec {v : Value} {x : Nat} (h : x_ref v = some x) : v = .ref x := by
  cases v <;> simp_all [x_ref]
def s_aasg (i : Nat) (e : XX) : XS := fun env h => (e env h).bind fun r => (x_ref r.1).bind fun x => (xst1 env i (.ref x)).map fun env' => (none, env', r.2)
theorem s_aasg_spec {i : Nat} {e : XX} {env env' : XE} {h h' : XH} {o : XO} (he : s_aasg i e env h = some (o, env', h')) : o = none ∧ ∃ x : Nat, e env h = some (.ref x, h') ∧ xst1 env i (.ref x) = some env' := by
  obtain ⟨⟨v1, ha⟩, e1, he1⟩ := Option.bind_eq_some_iff.mp he
  obtain ⟨x, e2, he2⟩ := Option.bind_eq_some_iff.mp he1
  obtain ⟨w, e3, he3⟩ := Option.map_eq_some_iff.mp he2
  cases he3
  have q := x_ref_spec e2
  dsimp only at q
  subst q
  exact ⟨rfl, x, e1, e3⟩
theorem cs_aasgn {q : Fin 4} {i : Nat} {e : XX} (C : xOK K own cc ini bz fr lo) (h1 : CE K 0 pc e p1) (hd : decode cc p1 = .ok (.astore_n q, 1)) (hi : (q : Nat) = i) : CS K pc (s_aasg i e) (p1 + 1) bk ct := by
  intro env h o env' h' he k
  obtain ⟨rfl, x, e1, e2⟩ := s_aasg_spec he
  exact h1 _ _ _ _ e1 [] (Nat.le_refl _) (g_astore_n C hd hi e2 k)
theorem cs_aasg {i : Nat} {e : XX} (C : xOK K own cc ini bz fr lo) (h1 : CE K 0 pc e p1) (hd : decode cc p1 = .ok (.astore i, 2)) : CS K pc (s_aasg i e) (p1 + 2) bk ct := by
  intro env h o env' h' he k
  obtain ⟨rfl, x, e1, e2⟩ := s_aasg_spec he
  exact h1 _ _ _ _ e1 [] (Nat.le_refl _) (g_astore C hd e2 k)
def s_inc (i : Nat) (n : Int32) : XS := fun env h => match env[i]? with
  | some (some (.int x)) => (xst1 env i (.int (x + n))).map fun env' => (none, env', h)
  | _ => none
theorem cs_inc {i : Nat} {n : Int} {n' : Int32} (C : xOK K own cc ini bz fr lo) (hd : decode cc pc = .ok (.iinc i n, 3)) (hn : Int32.ofInt n = n') : CS K pc (s_inc i n') (pc + 3) bk ct := by
  intro env h o env' h' he k
  subst hn
  unfold s_inc at he
  split at he
  · rename_i x hx
    obtain ⟨w, e3, hm⟩ := Option.map_eq_some_iff.mp he
    cases hm
    exact g_iinc C hd hx e3 k
  · cases he
def s_put (ci f kd : Nat) (a e : XX) : XS := fun env h => (a env h).bind fun r => (e env r.2).bind fun q => match r.1 with
  | .ref x => (match q.2[x]? with
    | some (.inl (c, fs)) => if c = ci ∧ f < fs.length ∧ xKd kd q.1 = true then some (none, env, q.2.set x (.inl (c, fs.set f q.1))) else none
    | _ => none)
  | _ => none
theorem cs_put {idx ci f kd : Nat} {a e : XX} (C : xOK K own cc ini bz fr lo) (h1 : CE K 0 pc a p1) (h2 : CE K 2 p1 e p2) (hd : decode cc p2 = .ok (.putfield idx, 3)) (hQ : xPut own idx ci f kd ini) : CS K pc (s_put ci f kd a e) (p2 + 3) bk ct := by
  intro env h o env' h' he k
  obtain ⟨⟨v1, ha⟩, e1, he1⟩ := Option.bind_eq_some_iff.mp he
  obtain ⟨⟨v2, hb⟩, e2, he2⟩ := Option.bind_eq_some_iff.mp he1
  dsimp only at he2
  split at he2
  · rename_i x
    split at he2
    · rename_i c fs hh
      split at he2
      · rename_i hq
        obtain ⟨rfl, hl, hk⟩ := hq
        cases he2
        exact h1 _ _ _ _ e1 [] (Nat.le_refl _) (h2 _ _ _ _ e2 _ (cat_cons _ (Nat.le_refl _)) (g_putf C hd hQ hh hl hk k))
      · cases he2
    · cases he2
  · cases he2
/-- a field of an object, changed by an operation on what it was: dup, getfield, e, o, putfield -/
def s_putop (ci f : Nat) (o : Value → Value → Option Value) (a e : XX) : XS := fun env h => (a env h).bind fun r => (x_fld ci f r.1 r.2).bind fun v => (e env r.2).bind fun q => (o v q.1).bind fun w => match r.1 with
  | .ref x => (match q.2[x]? with
    | some (.inl (c, fs)) => if c = ci ∧ f < fs.length ∧ xKd 0 w = true then some (none, env, q.2.set x (.inl (c, fs.set f w))) else none
    | _ => none)
  | _ => none
theorem cs_putop {idx ci f : Nat} {ov : Value → Value → Option Value} {a e : XX} (C : xOK K own cc ini bz fr lo) (h1 : CE K 0 pc a p1) (hd1 : decode cc p1 = .ok (.dup, 1)) (hd2 : decode cc (p1 + 1) = .ok (.getfield idx, 3)) (hF : xFld own idx ci f) (h2 : CE K 4 (p1 + 4) e p2) (ho : xBin K p2 ov) (hd : decode cc (p2 + 1) = .ok (.putfield idx, 3)) (hQ : xPut own idx ci f 0 ini) : CS K pc (s_putop ci f ov a e) (p2 + 4) bk ct := by
  intro env h o env' h' he k
  obtain ⟨⟨v1, ha⟩, e1, he1⟩ := Option.bind_eq_some_iff.mp he
  obtain ⟨v, e0, he2⟩ := Option.bind_eq_some_iff.mp he1
  obtain ⟨⟨v2, hb⟩, e2, he3⟩ := Option.bind_eq_some_iff.mp he2
  obtain ⟨w, e3, he4⟩ := Option.bind_eq_some_iff.mp he3
  obtain ⟨x, fs0, q1, q2, q3⟩ := x_fld_spec e0
  dsimp only at q1 q2 e2 e3 he4
  subst q1
  dsimp only at he4
  split at he4
  · rename_i c fs hh
    split at he4
    · rename_i hq
      obtain ⟨rfl, hl, hk⟩ := hq
      cases he4
      refine h1 _ _ _ _ e1 [] (Nat.le_refl _) (g_dup C hd1 rfl (g_getf C hd2 hF q2 q3 ?_))
      exact h2 _ _ _ _ e2 _ (cat_cons _ (cat_cons _ (Nat.le_refl _))) (ho _ _ _ _ _ _ e3 (g_putf C hd hQ hh hl hk k))
    · cases he4
  · cases he4
def x_nar (t : Nat) (x : Int32) : Int32 := if t = 1 then vp_nar .char x else x
def s_ast (t : Nat) (a i e : XX) : XS := fun env h => (a env h).bind fun r => (i env r.2).bind fun q => (e env q.2).bind fun u => (x_row t r.1 u.2).bind fun w => (x_int q.1).bind fun j => (x_int u.1).bind fun x => (x_ix j w.2.length).map fun jn => (none, env, u.2.set w.1 (.inr (.inl (t, w.2.set jn (x_nar t x)))))
theorem cs_ast_core {t : Nat} {a i e : XX} (h1 : CE K 0 pc a p1) (h2 : CE K 2 p1 i p2) (h3 : CE K 4 p2 e p3) (ho : ∀ (env : XE) (h : XH) (y : Nat) (xs : List Int32) (j x : Int32), h[y]? = some (.inr (.inl (t, xs))) → vp_in j xs.length → xG K (p3 + 1) env [] (h.set y (.inr (.inl (t, xs.set j.toNatClampNeg (x_nar t x))))) → xG K p3 env [.int x, .int j, .ref y] h) : CS K pc (s_ast t a i e) (p3 + 1) bk ct := by
  intro env h o env' h' he k
  obtain ⟨⟨v1, ha⟩, e1, he1⟩ := Option.bind_eq_some_iff.mp he
  obtain ⟨⟨v2, hb⟩, e2, he2⟩ := Option.bind_eq_some_iff.mp he1
  obtain ⟨⟨v3, hc⟩, e3, he3⟩ := Option.bind_eq_some_iff.mp he2
  obtain ⟨⟨y, xs⟩, e4, he4⟩ := Option.bind_eq_some_iff.mp he3
  obtain ⟨j, e5, he5⟩ := Option.bind_eq_some_iff.mp he4
  obtain ⟨x, e6, he6⟩ := Option.bind_eq_some_iff.mp he5
  obtain ⟨jn, e7, he7⟩ := Option.map_eq_some_iff.mp he6
  cases he7
  obtain ⟨q1, q2⟩ := x_row_spec e4
  have q3 := x_int_spec e5
  have q4 := x_int_spec e6
  obtain ⟨q5, q6⟩ := x_ix_spec e7
  dsimp only at q1 q2 q3 q4 q5 k
  subst q1; subst q3; subst q4; subst q6
  exact h1 _ _ _ _ e1 [] (Nat.le_refl _) (h2 _ _ _ _ e2 _ (cat_cons _ (Nat.le_refl _)) (h3 _ _ _ _ e3 _ (cat_cons _ (cat_cons _ (Nat.le_refl _))) (ho _ _ _ _ _ _ q2 q5 k)))
theorem cs_iast {a i e : XX} (C : xOK K own cc ini bz fr lo) (h1 : CE K 0 pc a p1) (h2 : CE K 2 p1 i p2) (h3 : CE K 4 p2 e p3) (hd : decode cc p3 = .ok (.iastore, 1)) : CS K pc (s_ast 0 a i e) (p3 + 1) bk ct := cs_ast_core h1 h2 h3 (fun _ _ _ _ _ _ q1 q2 k => g_iast C hd q1 q2 k)
theorem cs_cast {a i e : XX} (C : xOK K own cc ini bz fr lo) (h1 : CE K 0 pc a p1) (h2 : CE K 2 p1 i p2) (h3 : CE K 4 p2 e p3) (hd : decode cc p3 = .ok (.castore, 1)) : CS K pc (s_ast 1 a i e) (p3 + 1) bk ct := cs_ast_core h1 h2 h3 (fun _ _ _ _ _ _ q1 q2 k => g_cast C hd q1 q2 k)
/-- a place of a row, changed by an operation on what it was: dup2, iaload, e, o, iastore -/
def s_astop (o : Value → Value → Option Value) (a i e : XX) : XS := fun env h => (a env h).bind fun r => (i env r.2).bind fun q => (x_row 0 r.1 q.2).bind fun w0 => (x_int q.1).bind fun j => (x_ix j w0.2.length).bind fun jn => (e env q.2).bind fun u => (o (.int (w0.2.getD jn 0)) u.1).bind fun z => (x_int z).bind fun x => (x_row 0 r.1 u.2).bind fun w => if jn < w.2.length then some (none, env, u.2.set w.1 (.inr (.inl (0, w.2.set jn x)))) else none
theorem cs_astop {ov : Value → Value → Option Value} {a i e : XX} (C : xOK K own cc ini bz fr lo) (h1 : CE K 0 pc a p1) (h2 : CE K 2 p1 i p2) (hd1 : decode cc p2 = .ok (.dup2, 1)) (hd2 : decode cc (p2 + 1) = .ok (.iaload, 1)) (h3 : CE K 6 (p2 + 2) e p3) (ho : xBin K p3 ov) (hd : decode cc (p3 + 1) = .ok (.iastore, 1)) : CS K pc (s_astop ov a i e) (p3 + 2) bk ct := by
  intro env h o env' h' he k
  obtain ⟨⟨v1, ha⟩, e1, he1⟩ := Option.bind_eq_some_iff.mp he
  obtain ⟨⟨v2, hb⟩, e2, he2⟩ := Option.bind_eq_some_iff.mp he1
  obtain ⟨⟨y0, xs0⟩, e3, he3⟩ := Option.bind_eq_some_iff.mp he2
  obtain ⟨j, e4, he4⟩ := Option.bind_eq_some_iff.mp he3
  obtain ⟨jn, e5, he5⟩ := Option.bind_eq_some_iff.mp he4
  obtain ⟨⟨v3, hc⟩, e6, he6⟩ := Option.bind_eq_some_iff.mp he5
  obtain ⟨z, e7, he7⟩ := Option.bind_eq_some_iff.mp he6
  obtain ⟨x, e8, he8⟩ := Option.bind_eq_some_iff.mp he7
  obtain ⟨⟨y, xs⟩, e9, he9⟩ := Option.bind_eq_some_iff.mp he8
  obtain ⟨q1, q2⟩ := x_row_spec e3
  have q3 := x_int_spec e4
  obtain ⟨q5, q6⟩ := x_ix_spec e5
  have q7 := x_int_spec e8
  obtain ⟨q8, q9⟩ := x_row_spec e9
  dsimp only at q1 q2 q3 q5 q7 q8 q9 e6 e7 he9
  subst q1; subst q3; subst q6; subst q7
  cases q8
  split at he9
  · rename_i hlt
    cases he9
    refine h1 _ _ _ _ e1 [] (Nat.le_refl _) (h2 _ _ _ _ e2 _ (cat_cons _ (Nat.le_refl _)) (g_dup2 C hd1 rfl rfl (g_iald C hd2 q2 q5 ?_)))
    refine h3 _ _ _ _ e6 _ ?_ (ho _ _ _ _ _ _ e7 (g_iast C hd q9 ?_ k))
    · exact cat_cons _ (cat_cons _ (cat_cons _ (Nat.le_refl _)))
    · intro w
      rcases w with w | w
      · exact q5 (Or.inl w)
      · exact absurd hlt (Nat.not_lt.mpr w)
  · cases he9
def s_aast (a i e : XX) : XS := fun env h => (a env h).bind fun r => (i env r.2).bind fun q => (e env q.2).bind fun u => (x_rrow r.1 u.2).bind fun w => (x_int q.1).bind fun j => (x_ref u.1).bind fun y => (x_ix j w.2.length).bind fun jn => match u.2[y]? with
  | some (.inl (c, _)) => if c = 6 then some (none, env, u.2.set w.1 (.inr (.inr (w.2.set jn (some y))))) else none
  | _ => none
theorem cs_aast {a i e : XX} (C : xOK K own cc ini bz fr lo) (h1 : CE K 0 pc a p1) (h2 : CE K 2 p1 i p2) (h3 : CE K 4 p2 e p3) (hd : decode cc p3 = .ok (.aastore, 1)) : CS K pc (s_aast a i e) (p3 + 1) bk ct := by
  intro env h o env' h' he k
  obtain ⟨⟨v1, ha⟩, e1, he1⟩ := Option.bind_eq_some_iff.mp he
  obtain ⟨⟨v2, hb⟩, e2, he2⟩ := Option.bind_eq_some_iff.mp he1
  obtain ⟨⟨v3, hc⟩, e3, he3⟩ := Option.bind_eq_some_iff.mp he2
  obtain ⟨⟨y, xs⟩, e4, he4⟩ := Option.bind_eq_some_iff.mp he3
  obtain ⟨j, e5, he5⟩ := Option.bind_eq_some_iff.mp he4
  obtain ⟨x, e6, he6⟩ := Option.bind_eq_some_iff.mp he5
  obtain ⟨jn, e7, he7⟩ := Option.bind_eq_some_iff.mp he6
  obtain ⟨q1, q2⟩ := x_rrow_spec e4
  have q3 := x_int_spec e5
  have q4 := x_ref_spec e6
  obtain ⟨q5, q6⟩ := x_ix_spec e7
  dsimp only at q1 q2 q3 q4 q5 he7
  subst q1; subst q3; subst q4; subst q6
  split at he7
  · rename_i c fs hh
    split at he7
    · rename_i hc6
      subst hc6
      cases he7
      exact h1 _ _ _ _ e1 [] (Nat.le_refl _) (h2 _ _ _ _ e2 _ (cat_cons _ (Nat.le_refl _)) (h3 _ _ _ _ e3 _ (cat_cons _ (cat_cons _ (Nat.le_refl _))) (g_aast (ci := 0) C hd q2 q5 hh k)))
    · cases he7
  · cases he7
/-- System.arraycopy(a, 0, b, 0, e) of a whole row onto another as long -/
def s_copy (a b e : XX) : XS := fun env h => (x_args [a, e_lit 0, b, e_lit 0, e] env h).bind fun r => match r.1 with
  | [.ref a0, .int z0, .ref a1, .int z1, .int n] => (match r.2[a0]?, r.2[a1]? with
    | some (.inr (.inl (t0, xs))), some (.inr (.inl (t1, ys))) => if t0 = 0 ∧ t1 = 0 ∧ z0 = 0 ∧ z1 = 0 ∧ ¬ n < 0 ∧ xs.length = n.toNatClampNeg ∧ ys.length = n.toNatClampNeg ∧ a0 ≠ a1 then some (none, env, r.2.set a1 (.inr (.inl (0, xs)))) else none
    | _, _ => none)
  | _ => none
theorem cs_copy {idx : Nat} {a b e : XX} (C : xOK K own cc ini bz fr lo) (h1 : CA K 0 pc [a, e_lit 0, b, e_lit 0, e] p1) (hd : decode cc p1 = .ok (.invokestatic idx, 3)) (hW : xCopyW own idx) (hr1 : 1 ≤ fr) (hr2 : nativeFrameWords "java/lang/System" "arraycopy" 5 + 11 ≤ lo) : CS K pc (s_copy a b e) (p1 + 3) bk ct := by
  intro env h o env' h' he k
  obtain ⟨⟨vs, ha⟩, e1, he1⟩ := Option.bind_eq_some_iff.mp he
  dsimp only at he1
  split at he1
  · rename_i a0 z0 a1 z1 n
    split at he1
    · rename_i t0 xs t1 ys g0 g1
      split at he1
      · rename_i hq
        obtain ⟨rfl, rfl, rfl, rfl, hn, l0, l1, hne⟩ := hq
        cases he1
        exact h1 _ _ _ _ e1 [] (Nat.le_refl _) (g_copy C hd hW hr1 hr2 hn g0 g1 l0 l1 hne k)
      · cases he1
    · cases he1
  · cases he1
/-- an expression whose int is thrown away -/
def s_exp (e : XX) : XS := fun env h => (e env h).bind fun r => (x_int r.1).map fun _ => (none, env, r.2)
theorem cs_exp {e : XX} (C : xOK K own cc ini bz fr lo) (h1 : CE K 0 pc e p1) (hd : decode cc p1 = .ok (.pop, 1)) : CS K pc (s_exp e) (p1 + 1) bk ct := by
  intro env h o env' h' he k
  obtain ⟨⟨v1, ha⟩, e1, he1⟩ := Option.bind_eq_some_iff.mp he
  obtain ⟨x, e2, he2⟩ := Option.map_eq_some_iff.mp he1
  cases he2
  have q := x_int_spec e2
  dsimp only at q
  subst q
  exact h1 _ _ _ _ e1 [] (Nat.le_refl _) (g_pop C hd rfl k)
def s_call (f : XF) (as : List XX) : XS := fun env h => (x_args as env h).bind fun r => (f r.1 r.2).bind fun q => if q.1 = none then some (none, env, q.2) else none
theorem cs_call {f : XF} {as : List XX} (h1 : CA K 0 pc as p1) (hc : xCal K p1 f) : CS K pc (s_call f as) (p1 + 3) bk ct := by
  intro env h o env' h' he k
  obtain ⟨⟨vs, ha⟩, e1, he1⟩ := Option.bind_eq_some_iff.mp he
  obtain ⟨⟨rv, hb⟩, e2, he2⟩ := Option.bind_eq_some_iff.mp he1
  dsimp only at he2 e2
  split at he2
  · rename_i hrv
    cases he2
    subst hrv
    exact h1 _ _ _ _ e1 [] (Nat.le_refl _) (hc _ _ _ _ _ _ (by simp) e2 k)
  · cases he2
/-- the constructor of Object -/
def s_oinit : XS := fun env h => match env[(0 : Nat)]? with
  | some (some (.ref _)) => some (none, env, h)
  | _ => none
theorem cs_oinit {idx : Nat} (C : xOK K own cc ini bz fr lo) (hd0 : decode cc pc = .ok (.aload_n 0, 1)) (hd : decode cc (pc + 1) = .ok (.invokespecial idx, 3)) (hW : Cond.methodLink own idx Lib.objectInit ∈ xBW) (hW2 : Cond.instanceMethod Lib.objectInit ∈ xBW) (hW3 : Cond.code Lib.objectInit ⟨#[0xb1]⟩ 1 none ∈ xBW) (hf1 : 1 ≤ fr) (hl1 : 12 ≤ lo) : CS K pc s_oinit (pc + 4) bk ct := by
  intro env h o env' h' he k
  unfold s_oinit at he
  split at he
  · rename_i x hx
    cases he
    exact g_aload_n C hd0 rfl hx (g_oinit C hd hW hW2 hW3 hf1 hl1 k)
  · cases he
def s_ite (c : XB) (a b : XS) : XS := fun env h => (c env h).bind fun r => if r.1 = true then a env r.2 else b env r.2
/-- a choice whose first part ends in a jump behind the second, or doesn't come to its end -/
theorem cs_ite {c : XB} {a b : XS} {off : Int} {pT pF : Nat} (C : xOK K own cc ini bz fr lo) (hc : CC K 0 pc c pT pF) (h1 : CS K pT a p1 bk ct) (hd : decode cc p1 = .ok (.goto off, 3)) (ht : (p1 : Int) + off = (p2 : Int)) (h2 : CS K pF b p2 bk ct) : CS K pc (s_ite c a b) p2 bk ct := by
  intro env h o env' h' he k
  obtain ⟨⟨bv, ha⟩, e1, he1⟩ := Option.bind_eq_some_iff.mp he
  refine hc _ _ _ _ e1 [] (Nat.le_refl _) ?_
  cases bv with
  | true =>
    refine h1 _ _ _ _ _ (by simpa using he1) ?_
    rcases o with _ | (_ | _) | rv
    · exact g_goto C hd ht k
    · exact k
    · exact k
    · exact k
  | false => exact h2 _ _ _ _ _ (by simpa using he1) k
theorem cs_itf {c : XB} {a b : XS} {pT pF : Nat} (hc : CC K 0 pc c pT pF) (h1 : CS K pT a p2 bk ct) (h2 : CS K pF b p2 bk ct) : CS K pc (s_ite c a b) p2 bk ct := by
  intro env h o env' h' he k
  obtain ⟨⟨bv, ha⟩, e1, he1⟩ := Option.bind_eq_some_iff.mp he
  refine hc _ _ _ _ e1 [] (Nat.le_refl _) ?_
  cases bv with
  | true => exact h1 _ _ _ _ _ (by simpa using he1) k
  | false => exact h2 _ _ _ _ _ (by simpa using he1) k
/-- a loop: condition, body, what is done behind the body; at most so many rounds -/
def s_loop (n : Nat) (c : XB) (a u : XS) : XS := match n with
  | 0 => fun _ _ => none
  | n + 1 => fun env h => (c env h).bind fun r => if r.1 = true then (a env r.2).bind fun q => (match q.1 with
      | none => (u q.2.1 q.2.2).bind fun w => if w.1 = none then s_loop n c a u w.2.1 w.2.2 else none
      | some (.inl true) => some (none, q.2.1, q.2.2)
      | some (.inl false) => (u q.2.1 q.2.2).bind fun w => if w.1 = none then s_loop n c a u w.2.1 w.2.2 else none
      | some (.inr rv) => some (some (.inr rv), q.2.1, q.2.2)) else some (none, env, r.2)
theorem cs_loop {n : Nat} {c : XB} {a u : XS} {off : Int} {pB pE pu : Nat} (C : xOK K own cc ini bz fr lo) (hc : CC K 0 pc c pB pE) (h1 : CS K pB a pu pE pu) (h2 : CS K pu u p2 0 0) (hd : decode cc p2 = .ok (.goto off, 3)) (ht : (p2 : Int) + off = (pc : Int)) : CS K pc (s_loop n c a u) pE bk ct := by
  induction n with
  | zero =>
    intro env h o env' h' he k
    cases he
  | succ n ih =>
    intro env h o env' h' he k
    unfold s_loop at he
    obtain ⟨⟨bv, ha⟩, e1, he1⟩ := Option.bind_eq_some_iff.mp he
    refine hc _ _ _ _ e1 [] (Nat.le_refl _) ?_
    have step : ∀ (env1 : XE) (hb : XH), ((u env1 hb).bind fun w => if w.1 = none then s_loop n c a u w.2.1 w.2.2 else none) = some (o, env', h') → xG K pu env1 [] hb := by
      intro env1 hb hs
      obtain ⟨⟨o3, env3, hc3⟩, e3, hs2⟩ := Option.bind_eq_some_iff.mp hs
      dsimp only at hs2
      split at hs2
      · rename_i ho3
        subst ho3
        exact h2 _ _ _ _ _ e3 (g_goto C hd ht (ih _ _ _ _ _ hs2 k))
      · cases hs2
    cases bv with
    | false =>
      simp at he1
      obtain ⟨q1, q2, q3⟩ := he1
      subst q1; subst q2; subst q3
      exact k
    | true =>
      simp only [if_true] at he1
      obtain ⟨⟨o2, env2, hb2⟩, e2, he2⟩ := Option.bind_eq_some_iff.mp he1
      refine h1 _ _ _ _ _ e2 ?_
      dsimp only at he2
      rcases o2 with _ | (_ | _) | rv
      · exact step _ _ he2
      · exact step _ _ he2
      · cases he2
        exact k
      · cases he2
        exact k
def s_ret (e : XX) : XS := fun env h => (e env h).bind fun r => (x_int r.1).map fun x => (some (.inr (some (.int x))), env, r.2)
theorem cs_ret {e : XX} (C : xOK K own cc ini false fr lo) (h1 : CE K 0 pc e p1) (hd : decode cc p1 = .ok (.ireturn, 1)) : CS K pc (s_ret e) pe bk ct := by
  intro env h o env' h' he k
  obtain ⟨⟨v1, ha⟩, e1, he1⟩ := Option.bind_eq_some_iff.mp he
  obtain ⟨x, e2, he2⟩ := Option.map_eq_some_iff.mp he1
  cases he2
  have q := x_int_spec e2
  dsimp only at q
  subst q
  refine h1 _ _ _ _ e1 [] (Nat.le_refl _) ?_
  obtain ⟨fl, p, l, e, R, s, m, args, below, meth, c, b, D, cI, n0, s0, rv0, hF, Q⟩ := K
  obtain ⟨k1, k2⟩ := k
  dsimp only [xRv, xHF] at k1 k2
  subst k2
  exact C.2.1 _ _ _ hd k1.symm (fun z => by cases z)
def s_retZ (e : XX) : XS := fun env h => (e env h).bind fun r => (x_int r.1).bind fun x => if x = 0 ∨ x = 1 then some (some (.inr (some (.int x))), env, r.2) else none
theorem cs_retZ {e : XX} (C : xOK K own cc ini bz fr lo) (h1 : CE K 0 pc e p1) (hd : decode cc p1 = .ok (.ireturn, 1)) : CS K pc (s_retZ e) pe bk ct := by
  intro env h o env' h' he k
  obtain ⟨⟨v1, ha⟩, e1, he1⟩ := Option.bind_eq_some_iff.mp he
  obtain ⟨x, e2, he2⟩ := Option.bind_eq_some_iff.mp he1
  split at he2
  · rename_i hx01
    cases he2
    have q := x_int_spec e2
    dsimp only at q
    subst q
    refine h1 _ _ _ _ e1 [] (Nat.le_refl _) ?_
    obtain ⟨fl, p, l, e, R, s, m, args, below, meth, c, b, D, cI, n0, s0, rv0, hF, Q⟩ := K
    obtain ⟨k1, k2⟩ := k
    dsimp only [xRv, xHF] at k1 k2
    subst k2
    exact C.2.1 _ _ _ hd k1.symm (fun _ => hx01)
  · cases he2
def s_retV : XS := fun env h => some (some (.inr none), env, h)
theorem cs_retV (C : xOK K own cc ini bz fr lo) (hd : decode cc pc = .ok (.return_, 1)) : CS K pc s_retV pe bk ct := by
  intro env h o env' h' he k
  cases he
  obtain ⟨fl, p, l, e, R, s, m, args, below, meth, c, b, D, cI, n0, s0, rv0, hF, Q⟩ := K
  obtain ⟨k1, k2⟩ := k
  dsimp only [xRv, xHF] at k1 k2
  subst k2
  exact C.2.2 _ _ hd k1.symm
/-- a switch: by its own number each case, the last one else; the cases end by a jump out, or not at all -/
def x_brk : XO → XO
  | some (.inl true) => none
  | o => o
def s_sel (ks : List (Int × XS)) (dflt : XS) (x : Int32) : XS := match ks.find? (fun (q : Int × XS) => decide (q.1 = x.toInt)) with
  | some q => q.2
  | none => dflt
def s_sw (e : XX) (ks : List (Int × XS)) (dflt : XS) : XS := fun env h => (e env h).bind fun r => (x_int r.1).bind fun x => (s_sel ks dflt x env r.2).map fun w => (x_brk w.1, w.2)
def CW (K : XK) (pe ct : Nat) : List (Int × XS) → List Nat → Prop
  | [], [] => True
  | k :: ks, t :: ts => CS K t k.2 pe pe ct ∧ CW K pe ct ks ts
  | _, _ => False
theorem CW_at {pe ct : Nat} : ∀ {ks : List (Int × XS)} {ts : List Nat}, CW K pe ct ks ts → ∀ (j : Nat) (q : Int × XS) , ks[j]? = some q → ∃ t, ts[j]? = some t ∧ CS K t q.2 pe pe ct
  | [], _, _, j, q, h => by simp at h
  | k :: ks, [], h, _, _, _ => h.elim
  | k :: ks, t :: ts, h, 0, q, hq => by
    simp at hq
    subst hq
    exact ⟨t, by simp, h.1⟩
  | k :: ks, t :: ts, h, j + 1, q, hq => by
    simp at hq
    obtain ⟨t', h1, h2⟩ := CW_at h.2 j q hq
    exact ⟨t', by simpa using h1, h2⟩
theorem cs_sw_core {e : XX} {ks : List (Int × XS)} {ts : List Nat} {dflt : XS} {td : Nat} (h1 : CE K 0 pc e p1) (hw : CW K pe ct ks ts) (hdf : CS K td dflt pe pe ct)
    (hj : ∀ (env : XE) (h : XH) (x : Int32), (∀ (j t : Nat), ks.findIdx? (fun (q : Int × XS) => decide (q.1 = x.toInt)) = some j → ts[j]? = some t → xG K t env [] h → xG K p1 env [.int x] h) ∧ (ks.findIdx? (fun (q : Int × XS) => decide (q.1 = x.toInt)) = none → xG K td env [] h → xG K p1 env [.int x] h)) : CS K pc (s_sw e ks dflt) pe bk ct := by
  intro env h o env' h' he k
  obtain ⟨⟨v1, ha⟩, e1, he1⟩ := Option.bind_eq_some_iff.mp he
  obtain ⟨x, e2, he2⟩ := Option.bind_eq_some_iff.mp he1
  obtain ⟨⟨o2, env2, h2⟩, e3, he3⟩ := Option.map_eq_some_iff.mp he2
  have q := x_int_spec e2
  dsimp only at q e3 he3
  subst q
  refine h1 _ _ _ _ e1 [] (Nat.le_refl _) ?_
  have hfin : x_fin K pe pe ct o2 env2 h2 := by
    rcases o2 with _ | (_ | _) | rv <;> cases he3 <;> exact k
  obtain ⟨j1, j2⟩ := hj env ha x
  cases hfi : ks.findIdx? (fun (q : Int × XS) => decide (q.1 = x.toInt)) with
  | none =>
    have hfn : ks.find? (fun (q : Int × XS) => decide (q.1 = x.toInt)) = none := by
      rw [List.findIdx?_eq_none_iff] at hfi
      rw [List.find?_eq_none]
      intro a ha
      simp [hfi a ha]
    unfold s_sel at e3
    rw [hfn] at e3
    exact j2 hfi (hdf _ _ _ _ _ e3 hfin)
  | some j =>
    have hfs : ∃ q, ks[j]? = some q ∧ ks.find? (fun (q : Int × XS) => decide (q.1 = x.toInt)) = some q := by
      obtain ⟨hl, hp, hn⟩ := List.findIdx?_eq_some_iff_getElem.mp hfi
      refine ⟨ks[j], List.getElem?_eq_getElem hl, ?_⟩
      exact List.find?_eq_some_iff_getElem.mpr ⟨hp, j, hl, rfl, fun m hm => by simpa using hn m hm⟩
    obtain ⟨q, g1, g2⟩ := hfs
    unfold s_sel at e3
    rw [g2] at e3
    obtain ⟨t, t1, t2⟩ := CW_at hw j q g1
    exact j1 j t hfi t1 (t2 _ _ _ _ _ e3 hfin)
theorem cs_table {e : XX} {ks : List (Int × XS)} {ts : List Nat} {dflt : XS} {td len : Nat} {do_ low high : Int} {offs : Array Int} (C : xOK K own cc ini bz fr lo) (h1 : CE K 0 pc e p1) (hd : decode cc p1 = .ok (.tableswitch do_ low high offs, len)) (hlow : ks.map (fun (q : Int × XS) => q.1) = (List.range offs.size).map (fun (j : Nat) => low + (j : Int))) (hhigh : high = low + offs.size - 1) (hts : ts.map (fun (t : Nat) => (t : Int)) = offs.toList.map (fun (o : Int) => (p1 : Int) + o)) (htd : (p1 : Int) + do_ = (td : Int)) (hw : CW K pe ct ks ts) (hdf : CS K td dflt pe pe ct) : CS K pc (s_sw e ks dflt) pe bk ct := by
  refine cs_sw_core h1 hw hdf (fun env h x => ⟨fun j t hj ht k => ?_, fun hj k => ?_⟩)
  · obtain ⟨hl, hp, -⟩ := List.findIdx?_eq_some_iff_getElem.mp hj
    have hkey : (ks.map (fun (q : Int × XS) => q.1))[j]? = some x.toInt := by
      rw [List.getElem?_map, List.getElem?_eq_getElem hl]
      simpa using hp
    rw [hlow, List.getElem?_map] at hkey
    obtain ⟨j', hj', hx⟩ := Option.map_eq_some_iff.mp hkey
    obtain ⟨hjl, hjj⟩ := List.getElem?_eq_some_iff.mp hj'
    simp at hjl hjj
    subst hjj
    have hto : (offs.toList.map (fun (o : Int) => (p1 : Int) + o))[j]? = some (t : Int) := by
      rw [← hts, List.getElem?_map, ht]
      rfl
    rw [List.getElem?_map] at hto
    obtain ⟨o, ho, hto⟩ := Option.map_eq_some_iff.mp hto
    refine g_table C hd ?_ (fun i hi => by omega) k
    rw [if_neg (by omega)]
    rw [show (x.toInt - low).toNat = j by omega]
    rw [Array.getD_eq_getD_getElem?, show offs[j]? = some o by simpa using ho]
    exact hto
  · refine g_table C hd ?_ (fun i hi => by omega) k
    rw [if_pos]
    · exact htd
    · rw [List.findIdx?_eq_none_iff] at hj
      by_cases hq : x.toInt < low ∨ high < x.toInt
      · exact hq
      · exfalso
        have hm : x.toInt ∈ ks.map (fun (q : Int × XS) => q.1) := by
          rw [hlow]
          exact List.mem_map.mpr ⟨(x.toInt - low).toNat, List.mem_range.mpr (by omega), by omega⟩
        obtain ⟨q, hq1, hq2⟩ := List.mem_map.mp hm
        have := hj q hq1
        simp [hq2] at this
theorem cs_lookup {e : XX} {ks : List (Int × XS)} {ts : List Nat} {dflt : XS} {td len : Nat} {do_ : Int} {ps : Array (Int × Int)} (C : xOK K own cc ini bz fr lo) (h1 : CE K 0 pc e p1) (hd : decode cc p1 = .ok (.lookupswitch do_ ps, len)) (hp : (ps.toList.zip (ps.toList.drop 1)).all (fun (a, next) => a.1 < next.1) = true) (hm : ∀ x : Int, (match ks.findIdx? (fun (q : Int × XS) => decide (q.1 = x)) with
    | some j => (ts[j]?).map (fun (t : Nat) => (t : Int))
    | none => some (td : Int)) = some ((p1 : Int) + Op.lookupswitch.offset ps.toList do_ x)) (hw : CW K pe ct ks ts) (hdf : CS K td dflt pe pe ct) : CS K pc (s_sw e ks dflt) pe bk ct := by
  refine cs_sw_core h1 hw hdf (fun env h x => ⟨fun j t hj ht k => ?_, fun hj k => ?_⟩)
  · have := hm x.toInt
    rw [hj] at this
    simp only [ht, Option.map_some, Option.some.injEq] at this
    exact g_lookup C hd hp this.symm k
  · have := hm x.toInt
    rw [hj] at this
    simp only [Option.some.injEq] at this
    exact g_lookup C hd hp this.symm k
end XT
