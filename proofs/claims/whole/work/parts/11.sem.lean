/-! WHAT EXPRESSIONS, CONDITIONS AND STATEMENTS MEAN, and that javac's rows for them do so -/
section XL
variable {K : XK} {own : String} {cc : ByteArray} {ini bz : Bool} {fr lo d pc p1 p2 p3 p4 bk ct : Nat}
theorem cat_le (v : Value) : v.category ≤ 2 := by cases v <;> simp [Value.category]
theorem cat_cons {st : List Value} {d : Nat} (v : Value) (h : (st.map fun v => v.category).sum ≤ d) : ((v :: st).map fun v => v.category).sum ≤ d + 2 := by
  have := cat_le v
  simp only [List.map_cons, List.sum_cons]
  omega
-- constants
def e_lit (v : Int32) : XX := fun _ h => some (.int v, h)
def e_long (v : Int64) : XX := fun _ h => some (.long v, h)
theorem ce_iconst {n : Int} {v : Int32} (C : xOK K own cc ini bz fr lo) (hd : decode cc pc = .ok (.iconst n, 1)) (hv : Int32.ofInt n = v) : CE K d pc (e_lit v) (pc + 1) := by
  intro env h v' h' he st hst k
  cases he
  exact g_iconst C hd hv k
theorem ce_bipush {n : Int} {v : Int32} (C : xOK K own cc ini bz fr lo) (hd : decode cc pc = .ok (.bipush n, 2)) (hv : (Int8.ofInt n).toInt32 = v) : CE K d pc (e_lit v) (pc + 2) := by
  intro env h v' h' he st hst k
  cases he
  exact g_bipush C hd hv k
theorem ce_sipush {n : Int} {v : Int32} (C : xOK K own cc ini bz fr lo) (hd : decode cc pc = .ok (.sipush n, 3)) (hv : (Int16.ofInt n).toInt32 = v) : CE K d pc (e_lit v) (pc + 3) := by
  intro env h v' h' he st hst k
  cases he
  exact g_sipush C hd hv k
theorem ce_ldc {i : Nat} {v : Int32} (C : xOK K own cc ini bz fr lo) (hd : decode cc pc = .ok (.ldc i, 2)) (hw : Cond.constant own i v ∈ xBW) : CE K d pc (e_lit v) (pc + 2) := by
  intro env h v' h' he st hst k
  cases he
  exact g_ldc C hd hw k
theorem ce_ldcw {i : Nat} {v : Int32} (C : xOK K own cc ini bz fr lo) (hd : decode cc pc = .ok (.ldc_w i, 3)) (hw : Cond.constant own i v ∈ xBW) : CE K d pc (e_lit v) (pc + 3) := by
  intro env h v' h' he st hst k
  cases he
  exact g_ldcw C hd hw k
theorem ce_lconst {n : Fin 2} {v : Int64} (C : xOK K own cc ini bz fr lo) (hd : decode cc pc = .ok (.lconst n, 1)) (hv : Int64.ofNat (n : Nat) = v) : CE K d pc (e_long v) (pc + 1) := by
  intro env h v' h' he st hst k
  cases he
  exact g_lconst C hd hv k
theorem ce_ldc2 {i : Nat} {v : Int64} (C : xOK K own cc ini bz fr lo) (hd : decode cc pc = .ok (.ldc2_w i, 3)) (hw : Cond.constantLong own i v ∈ xBW) : CE K d pc (e_long v) (pc + 3) := by
  intro env h v' h' he st hst k
  cases he
  exact g_ldc2 C hd hw k
-- locals
def e_il (i : Nat) : XX := fun env h => match env[i]? with
  | some (some (.int x)) => some (.int x, h)
  | _ => none
theorem e_il_spec {i : Nat} {env : XE} {h h' : XH} {v : Value} (he : e_il i env h = some (v, h')) : ∃ x : Int32, env[i]? = some (some (.int x)) ∧ v = .int x ∧ h' = h := by
  unfold e_il at he
  split at he
  · rename_i x hx
    cases he
    exact ⟨x, hx, rfl, rfl⟩
  · cases he
theorem ce_iln {q : Fin 4} {i : Nat} (C : xOK K own cc ini bz fr lo) (hd : decode cc pc = .ok (.iload_n q, 1)) (hi : (q : Nat) = i) : CE K d pc (e_il i) (pc + 1) := by
  intro env h v' h' he st hst k
  obtain ⟨x, h1, rfl, rfl⟩ := e_il_spec he
  exact g_iload_n C hd hi h1 k
theorem ce_il {i : Nat} (C : xOK K own cc ini bz fr lo) (hd : decode cc pc = .ok (.iload i, 2)) : CE K d pc (e_il i) (pc + 2) := by
  intro env h v' h' he st hst k
  obtain ⟨x, h1, rfl, rfl⟩ := e_il_spec he
  exact g_iload C hd h1 k
def e_ll (i : Nat) : XX := fun env h => match env[i]? with
  | some (some (.long x)) => some (.long x, h)
  | _ => none
theorem e_ll_spec {i : Nat} {env : XE} {h h' : XH} {v : Value} (he : e_ll i env h = some (v, h')) : ∃ x : Int64, env[i]? = some (some (.long x)) ∧ v = .long x ∧ h' = h := by
  unfold e_ll at he
  split at he
  · rename_i x hx
    cases he
    exact ⟨x, hx, rfl, rfl⟩
  · cases he
theorem ce_lln {q : Fin 4} {i : Nat} (C : xOK K own cc ini bz fr lo) (hd : decode cc pc = .ok (.lload_n q, 1)) (hi : (q : Nat) = i) : CE K d pc (e_ll i) (pc + 1) := by
  intro env h v' h' he st hst k
  obtain ⟨x, h1, rfl, rfl⟩ := e_ll_spec he
  exact g_lload_n C hd hi h1 k
theorem ce_ll {i : Nat} (C : xOK K own cc ini bz fr lo) (hd : decode cc pc = .ok (.lload i, 2)) : CE K d pc (e_ll i) (pc + 2) := by
  intro env h v' h' he st hst k
  obtain ⟨x, h1, rfl, rfl⟩ := e_ll_spec he
  exact g_lload C hd h1 k
def e_al (i : Nat) : XX := fun env h => match env[i]? with
  | some (some (.ref x)) => some (.ref x, h)
  | _ => none
theorem e_al_spec {i : Nat} {env : XE} {h h' : XH} {v : Value} (he : e_al i env h = some (v, h')) : ∃ x : Nat, env[i]? = some (some (.ref x)) ∧ v = .ref x ∧ h' = h := by
  unfold e_al at he
  split at he
  · rename_i x hx
    cases he
    exact ⟨x, hx, rfl, rfl⟩
  · cases he
theorem ce_aln {q : Fin 4} {i : Nat} (C : xOK K own cc ini bz fr lo) (hd : decode cc pc = .ok (.aload_n q, 1)) (hi : (q : Nat) = i) : CE K d pc (e_al i) (pc + 1) := by
  intro env h v' h' he st hst k
  obtain ⟨x, h1, rfl, rfl⟩ := e_al_spec he
  exact g_aload_n C hd hi h1 k
theorem ce_al {i : Nat} (C : xOK K own cc ini bz fr lo) (hd : decode cc pc = .ok (.aload i, 2)) : CE K d pc (e_al i) (pc + 2) := by
  intro env h v' h' he st hst k
  obtain ⟨x, h1, rfl, rfl⟩ := e_al_spec he
  exact g_aload C hd h1 k
def e_sl (i : Nat) : XX := fun env h => match env[i]? with
  | some (some (.retAddr x)) => some (.retAddr x, h)
  | _ => none
theorem e_sl_spec {i : Nat} {env : XE} {h h' : XH} {v : Value} (he : e_sl i env h = some (v, h')) : ∃ x : Nat, env[i]? = some (some (.retAddr x)) ∧ v = .retAddr x ∧ h' = h := by
  unfold e_sl at he
  split at he
  · rename_i x hx
    cases he
    exact ⟨x, hx, rfl, rfl⟩
  · cases he
theorem ce_sln {q : Fin 4} {i : Nat} (C : xOK K own cc ini bz fr lo) (hd : decode cc pc = .ok (.aload_n q, 1)) (hi : (q : Nat) = i) : CE K d pc (e_sl i) (pc + 1) := by
  intro env h v' h' he st hst k
  obtain ⟨x, h1, rfl, rfl⟩ := e_sl_spec he
  exact g_aload_nR C hd hi h1 k
theorem ce_sl {i : Nat} (C : xOK K own cc ini bz fr lo) (hd : decode cc pc = .ok (.aload i, 2)) : CE K d pc (e_sl i) (pc + 2) := by
  intro env h v' h' he st hst k
  obtain ⟨x, h1, rfl, rfl⟩ := e_sl_spec he
  exact g_aloadR C hd h1 k
-- arithmetic
def xBin (K : XK) (pc : Nat) (o : Value → Value → Option Value) : Prop := ∀ (env : XE) (st : List Value) (h : XH) (v1 v2 v : Value), o v1 v2 = some v → xG K (pc + 1) env (v :: st) h → xG K pc env (v2 :: v1 :: st) h
def xUn (K : XK) (pc : Nat) (o : Value → Option Value) : Prop := ∀ (env : XE) (st : List Value) (h : XH) (v1 v : Value), o v1 = some v → xG K (pc + 1) env (v :: st) h → xG K pc env (v1 :: st) h
def e_bin (o : Value → Value → Option Value) (a b : XX) : XX := fun env h => (a env h).bind fun r => (b env r.2).bind fun q => (o r.1 q.1).map fun v => (v, q.2)
def e_un (o : Value → Option Value) (a : XX) : XX := fun env h => (a env h).bind fun r => (o r.1).map fun v => (v, r.2)
theorem ce_bin {o : Value → Value → Option Value} {a b : XX} (h1 : CE K d pc a p1) (h2 : CE K (d + 2) p1 b p2) (ho : xBin K p2 o) : CE K d pc (e_bin o a b) (p2 + 1) := by
  intro env h v h' he st hst k
  obtain ⟨⟨v1, ha⟩, e1, he⟩ := Option.bind_eq_some_iff.mp he
  obtain ⟨⟨v2, hb⟩, e2, he⟩ := Option.bind_eq_some_iff.mp he
  obtain ⟨w, e3, he⟩ := Option.map_eq_some_iff.mp he
  cases he
  exact h1 _ _ _ _ e1 st hst (h2 _ _ _ _ e2 _ (cat_cons v1 hst) (ho _ _ _ _ _ _ e3 k))
theorem ce_un {o : Value → Option Value} {a : XX} (h1 : CE K d pc a p1) (ho : xUn K p1 o) : CE K d pc (e_un o a) (p1 + 1) := by
  intro env h v h' he st hst k
  obtain ⟨⟨v1, ha⟩, e1, he⟩ := Option.bind_eq_some_iff.mp he
  obtain ⟨w, e3, he⟩ := Option.map_eq_some_iff.mp he
  cases he
  exact h1 _ _ _ _ e1 st hst (ho _ _ _ _ _ e3 k)
def o_add : Value → Value → Option Value
  | .int x, .int y => some (.int (x + y))
  | _, _ => none
theorem ob_add (C : xOK K own cc ini bz fr lo) (hd : decode cc pc = .ok (.iadd, 1)) : xBin K pc o_add := by
  intro env st h v1 v2 v ho k
  unfold o_add at ho
  split at ho
  · cases ho
    exact g_iadd C hd k
  · cases ho
def o_sub : Value → Value → Option Value
  | .int x, .int y => some (.int (x - y))
  | _, _ => none
theorem ob_sub (C : xOK K own cc ini bz fr lo) (hd : decode cc pc = .ok (.isub, 1)) : xBin K pc o_sub := by
  intro env st h v1 v2 v ho k
  unfold o_sub at ho
  split at ho
  · cases ho
    exact g_isub C hd k
  · cases ho
def o_mul : Value → Value → Option Value
  | .int x, .int y => some (.int (x * y))
  | _, _ => none
theorem ob_mul (C : xOK K own cc ini bz fr lo) (hd : decode cc pc = .ok (.imul, 1)) : xBin K pc o_mul := by
  intro env st h v1 v2 v ho k
  unfold o_mul at ho
  split at ho
  · cases ho
    exact g_imul C hd k
  · cases ho
def o_and : Value → Value → Option Value
  | .int x, .int y => some (.int (x &&& y))
  | _, _ => none
theorem ob_and (C : xOK K own cc ini bz fr lo) (hd : decode cc pc = .ok (.iand, 1)) : xBin K pc o_and := by
  intro env st h v1 v2 v ho k
  unfold o_and at ho
  split at ho
  · cases ho
    exact g_iand C hd k
  · cases ho
def o_or : Value → Value → Option Value
  | .int x, .int y => some (.int (x ||| y))
  | _, _ => none
theorem ob_or (C : xOK K own cc ini bz fr lo) (hd : decode cc pc = .ok (.ior, 1)) : xBin K pc o_or := by
  intro env st h v1 v2 v ho k
  unfold o_or at ho
  split at ho
  · cases ho
    exact g_ior C hd k
  · cases ho
def o_xor : Value → Value → Option Value
  | .int x, .int y => some (.int (x ^^^ y))
  | _, _ => none
theorem ob_xor (C : xOK K own cc ini bz fr lo) (hd : decode cc pc = .ok (.ixor, 1)) : xBin K pc o_xor := by
  intro env st h v1 v2 v ho k
  unfold o_xor at ho
  split at ho
  · cases ho
    exact g_ixor C hd k
  · cases ho
def o_shl : Value → Value → Option Value
  | .int x, .int y => some (.int (x <<< (y &&& 31)))
  | _, _ => none
theorem ob_shl (C : xOK K own cc ini bz fr lo) (hd : decode cc pc = .ok (.ishl, 1)) : xBin K pc o_shl := by
  intro env st h v1 v2 v ho k
  unfold o_shl at ho
  split at ho
  · cases ho
    exact g_ishl C hd k
  · cases ho
def o_shr : Value → Value → Option Value
  | .int x, .int y => some (.int (x >>> (y &&& 31)))
  | _, _ => none
theorem ob_shr (C : xOK K own cc ini bz fr lo) (hd : decode cc pc = .ok (.ishr, 1)) : xBin K pc o_shr := by
  intro env st h v1 v2 v ho k
  unfold o_shr at ho
  split at ho
  · cases ho
    exact g_ishr C hd k
  · cases ho
def o_ushr : Value → Value → Option Value
  | .int x, .int y => some (.int (x.toUInt32 >>> (y.toUInt32 &&& Int32.toUInt32 31)).toInt32)
  | _, _ => none
theorem ob_ushr (C : xOK K own cc ini bz fr lo) (hd : decode cc pc = .ok (.iushr, 1)) : xBin K pc o_ushr := by
  intro env st h v1 v2 v ho k
  unfold o_ushr at ho
  split at ho
  · cases ho
    exact g_iushr C hd k
  · cases ho
def o_div : Value → Value → Option Value
  | .int x, .int y => if y = 0 then none else some (.int (x / y))
  | _, _ => none
theorem ob_div (C : xOK K own cc ini bz fr lo) (hd : decode cc pc = .ok (.idiv, 1)) : xBin K pc o_div := by
  intro env st h v1 v2 v ho k
  unfold o_div at ho
  split at ho
  · split at ho
    · cases ho
    · rename_i hne
      cases ho
      exact g_idiv C hd hne k
  · cases ho
def o_rem : Value → Value → Option Value
  | .int x, .int y => if y = 0 then none else some (.int (x - x / y * y))
  | _, _ => none
theorem ob_rem (C : xOK K own cc ini bz fr lo) (hd : decode cc pc = .ok (.irem, 1)) : xBin K pc o_rem := by
  intro env st h v1 v2 v ho k
  unfold o_rem at ho
  split at ho
  · split at ho
    · cases ho
    · rename_i hne
      cases ho
      exact g_irem C hd hne k
  · cases ho
def o_ladd : Value → Value → Option Value
  | .long x, .long y => some (.long (x + y))
  | _, _ => none
theorem ob_ladd (C : xOK K own cc ini bz fr lo) (hd : decode cc pc = .ok (.ladd, 1)) : xBin K pc o_ladd := by
  intro env st h v1 v2 v ho k
  unfold o_ladd at ho
  split at ho
  · cases ho
    exact g_ladd C hd k
  · cases ho
def o_lmul : Value → Value → Option Value
  | .long x, .long y => some (.long (x * y))
  | _, _ => none
theorem ob_lmul (C : xOK K own cc ini bz fr lo) (hd : decode cc pc = .ok (.lmul, 1)) : xBin K pc o_lmul := by
  intro env st h v1 v2 v ho k
  unfold o_lmul at ho
  split at ho
  · cases ho
    exact g_lmul C hd k
  · cases ho
def o_lrem : Value → Value → Option Value
  | .long x, .long y => if y = 0 then none else some (.long (x - x / y * y))
  | _, _ => none
theorem ob_lrem (C : xOK K own cc ini bz fr lo) (hd : decode cc pc = .ok (.lrem, 1)) : xBin K pc o_lrem := by
  intro env st h v1 v2 v ho k
  unfold o_lrem at ho
  split at ho
  · split at ho
    · cases ho
    · rename_i hne
      cases ho
      exact g_lrem C hd hne k
  · cases ho
def o_neg : Value → Option Value
  | .int x => some (.int (-x))
  | _ => none
theorem ob_neg (C : xOK K own cc ini bz fr lo) (hd : decode cc pc = .ok (.ineg, 1)) : xUn K pc o_neg := by
  intro env st h v1 v ho k
  unfold o_neg at ho
  split at ho
  · cases ho
    exact g_ineg C hd k
  · cases ho
def o_i2l : Value → Option Value
  | .int x => some (.long x.toInt64)
  | _ => none
theorem ob_i2l (C : xOK K own cc ini bz fr lo) (hd : decode cc pc = .ok (.i2l, 1)) : xUn K pc o_i2l := by
  intro env st h v1 v ho k
  unfold o_i2l at ho
  split at ho
  · cases ho
    exact g_i2l C hd k
  · cases ho
def o_l2i : Value → Option Value
  | .long x => some (.int x.toInt32)
  | _ => none
theorem ob_l2i (C : xOK K own cc ini bz fr lo) (hd : decode cc pc = .ok (.l2i, 1)) : xUn K pc o_l2i := by
  intro env st h v1 v ho k
  unfold o_l2i at ho
  split at ho
  · cases ho
    exact g_l2i C hd k
  · cases ho
def o_i2c : Value → Option Value
  | .int x => some (.int (x.toUInt32 % 65536).toInt32)
  | _ => none
theorem ob_i2c (C : xOK K own cc ini bz fr lo) (hd : decode cc pc = .ok (.i2c, 1)) : xUn K pc o_i2c := by
  intro env st h v1 v ho k
  unfold o_i2c at ho
  split at ho
  · cases ho
    exact g_i2c C hd k
  · cases ho
-- fields and rows
def x_fld (ci f : Nat) (v : Value) (h : XH) : Option Value := match v with
  | .ref a => match h[a]? with
    | some (.inl (c, fs)) => if c = ci then fs[f]? else none
    | _ => none
  | _ => none
theorem x_fld_spec {ci f : Nat} {v w : Value} {h : XH} (he : x_fld ci f v h = some w) : ∃ (a : Nat) (fs : List Value), v = .ref a ∧ h[a]? = some (.inl (ci, fs)) ∧ fs[f]? = some w := by
  unfold x_fld at he
  split at he
  · rename_i a
    split at he
    · rename_i c fs hh
      split at he
      · rename_i hc
        subst hc
        exact ⟨a, fs, rfl, hh, he⟩
      · cases he
    · cases he
  · cases he
def x_ix (i : Int32) (n : Nat) : Option Nat := if i < 0 ∨ n ≤ i.toNatClampNeg then none else some i.toNatClampNeg
theorem x_ix_spec {i : Int32} {n j : Nat} (h : x_ix i n = some j) : vp_in i n ∧ j = i.toNatClampNeg := by
  unfold x_ix at h
  split at h
  · cases h
  · rename_i hc
    cases h
    exact ⟨hc, rfl⟩
/-- the row of ints at a value, of kind t -/
def x_row (t : Nat) (v : Value) (h : XH) : Option (Nat × List Int32) := match v with
  | .ref a => match h[a]? with
    | some (.inr (.inl (t', xs))) => if t' = t then some (a, xs) else none
    | _ => none
  | _ => none
theorem x_row_spec {t : Nat} {v : Value} {h : XH} {r : Nat × List Int32} (he : x_row t v h = some r) : v = .ref r.1 ∧ h[r.1]? = some (.inr (.inl (t, r.2))) := by
  unfold x_row at he
  split at he
  · rename_i a
    split at he
    · rename_i t' xs hh
      split at he
      · rename_i hc
        subst hc
        cases he
        exact ⟨rfl, hh⟩
      · cases he
    · cases he
  · cases he
def x_rrow (v : Value) (h : XH) : Option (Nat × List (Option Nat)) := match v with
  | .ref a => match h[a]? with
    | some (.inr (.inr rs)) => some (a, rs)
    | _ => none
  | _ => none
theorem x_rrow_spec {v : Value} {h : XH} {r : Nat × List (Option Nat)} (he : x_rrow v h = some r) : v = .ref r.1 ∧ h[r.1]? = some (.inr (.inr r.2)) := by
  unfold x_rrow at he
  split at he
  · rename_i a
    split at he
    · rename_i rs hh
      cases he
      exact ⟨rfl, hh⟩
    · cases he
  · cases he
def x_int : Value → Option Int32
  | .int x => some x
  | _ => none
theorem x_int_spec {v : Value} {x : Int32} (h : x_int v = some x) : v = .int x := by
  cases v <;> simp_all [x_int]
def e_fld (ci f : Nat) (a : XX) : XX := fun env h => (a env h).bind fun r => (x_fld ci f r.1 r.2).map fun v => (v, r.2)
theorem ce_fld {idx ci f : Nat} {a : XX} (C : xOK K own cc ini bz fr lo) (h1 : CE K d pc a p1) (hd : decode cc p1 = .ok (.getfield idx, 3)) (hQ : xFld own idx ci f) : CE K d pc (e_fld ci f a) (p1 + 3) := by
  intro env h v h' he st hst k
  obtain ⟨⟨v1, ha⟩, e1, he⟩ := Option.bind_eq_some_iff.mp he
  obtain ⟨w, e3, he⟩ := Option.map_eq_some_iff.mp he
  cases he
  obtain ⟨x, fs, q1, q2, q3⟩ := x_fld_spec e3
  dsimp only at q1
  subst q1
  exact h1 _ _ _ _ e1 st hst (g_getf C hd hQ q2 q3 k)
def e_ald (t : Nat) (a i : XX) : XX := fun env h => (a env h).bind fun r => (i env r.2).bind fun q => (x_row t r.1 q.2).bind fun w => (x_int q.1).bind fun x => (x_ix x w.2.length).map fun j => (.int (w.2.getD j 0), q.2)
theorem ce_ald_core {t : Nat} {a i : XX} (h1 : CE K d pc a p1) (h2 : CE K (d + 2) p1 i p2) (ho : ∀ (env : XE) (st : List Value) (h : XH) (x : Nat) (xs : List Int32) (j : Int32), h[x]? = some (.inr (.inl (t, xs))) → vp_in j xs.length → xG K (p2 + 1) env (.int (xs.getD j.toNatClampNeg 0) :: st) h → xG K p2 env (.int j :: .ref x :: st) h) : CE K d pc (e_ald t a i) (p2 + 1) := by
  intro env h v h' he st hst k
  obtain ⟨⟨v1, ha⟩, e1, he⟩ := Option.bind_eq_some_iff.mp he
  obtain ⟨⟨v2, hb⟩, e2, he⟩ := Option.bind_eq_some_iff.mp he
  obtain ⟨⟨x, xs⟩, e3, he⟩ := Option.bind_eq_some_iff.mp he
  obtain ⟨j, e4, he⟩ := Option.bind_eq_some_iff.mp he
  obtain ⟨jn, e5, he⟩ := Option.map_eq_some_iff.mp he
  cases he
  obtain ⟨q1, q2⟩ := x_row_spec e3
  have q3 := x_int_spec e4
  obtain ⟨q4, q5⟩ := x_ix_spec e5
  dsimp only at q1 q2 q3
  subst q1; subst q3; subst q5
  exact h1 _ _ _ _ e1 st hst (h2 _ _ _ _ e2 _ (cat_cons _ hst) (ho _ _ _ _ _ _ q2 q4 k))
theorem ce_iald {a i : XX} (C : xOK K own cc ini bz fr lo) (h1 : CE K d pc a p1) (h2 : CE K (d + 2) p1 i p2) (hd : decode cc p2 = .ok (.iaload, 1)) : CE K d pc (e_ald 0 a i) (p2 + 1) := ce_ald_core h1 h2 (fun _ _ _ _ _ _ q2 q4 k => g_iald C hd q2 q4 k)
theorem ce_cald {a i : XX} (C : xOK K own cc ini bz fr lo) (h1 : CE K d pc a p1) (h2 : CE K (d + 2) p1 i p2) (hd : decode cc p2 = .ok (.caload, 1)) : CE K d pc (e_ald 1 a i) (p2 + 1) := ce_ald_core h1 h2 (fun _ _ _ _ _ _ q2 q4 k => g_cald C hd q2 q4 k)
def e_aald (a i : XX) : XX := fun env h => (a env h).bind fun r => (i env r.2).bind fun q => (x_rrow r.1 q.2).bind fun w => (x_int q.1).bind fun x => (x_ix x w.2.length).bind fun j => (w.2.getD j none).map fun y => (.ref y, q.2)
theorem ce_aald {a i : XX} (C : xOK K own cc ini bz fr lo) (h1 : CE K d pc a p1) (h2 : CE K (d + 2) p1 i p2) (hd : decode cc p2 = .ok (.aaload, 1)) : CE K d pc (e_aald a i) (p2 + 1) := by
  intro env h v h' he st hst k
  obtain ⟨⟨v1, ha⟩, e1, he⟩ := Option.bind_eq_some_iff.mp he
  obtain ⟨⟨v2, hb⟩, e2, he⟩ := Option.bind_eq_some_iff.mp he
  obtain ⟨⟨x, xs⟩, e3, he⟩ := Option.bind_eq_some_iff.mp he
  obtain ⟨j, e4, he⟩ := Option.bind_eq_some_iff.mp he
  obtain ⟨jn, e5, he⟩ := Option.bind_eq_some_iff.mp he
  obtain ⟨y, e6, he⟩ := Option.map_eq_some_iff.mp he
  cases he
  obtain ⟨q1, q2⟩ := x_rrow_spec e3
  have q3 := x_int_spec e4
  obtain ⟨q4, q5⟩ := x_ix_spec e5
  dsimp only at q1 q2 q3 e6
  subst q1; subst q3; subst q5
  exact h1 _ _ _ _ e1 st hst (h2 _ _ _ _ e2 _ (cat_cons _ hst) (g_aald C hd q2 q4 e6 k))
def x_len (v : Value) (h : XH) : Option Int32 := match v with
  | .ref a => match h[a]? with
    | some (.inr (.inl (t, xs))) => if t < 2 then some (Int32.ofNat xs.length) else none
    | some (.inr (.inr rs)) => some (Int32.ofNat rs.length)
    | _ => none
  | _ => none
def e_alen (a : XX) : XX := fun env h => (a env h).bind fun r => (x_len r.1 r.2).map fun x => (.int x, r.2)
theorem ce_alen {a : XX} (C : xOK K own cc ini bz fr lo) (h1 : CE K d pc a p1) (hd : decode cc p1 = .ok (.arraylength, 1)) : CE K d pc (e_alen a) (p1 + 1) := by
  intro env h v h' he st hst k
  obtain ⟨⟨v1, ha⟩, e1, he⟩ := Option.bind_eq_some_iff.mp he
  obtain ⟨x, e3, he⟩ := Option.map_eq_some_iff.mp he
  cases he
  dsimp only at e3 k
  unfold x_len at e3
  split at e3
  · split at e3
    · rename_i hh
      split at e3
      · rename_i ht
        cases e3
        exact h1 _ _ _ _ e1 st hst (g_alen C hd hh ht k)
      · cases e3
    · rename_i hh
      cases e3
      exact h1 _ _ _ _ e1 st hst (g_alenR C hd hh k)
    · cases e3
  · cases e3
-- choices
def e_tern (c : XB) (a b : XX) : XX := fun env h => (c env h).bind fun r => if r.1 = true then a env r.2 else b env r.2
theorem ce_tern {c : XB} {a b : XX} {off : Int} {pT pF : Nat} (C : xOK K own cc ini bz fr lo) (hc : CC K d pc c pT pF) (h1 : CE K d pT a p1) (hd : decode cc p1 = .ok (.goto off, 3)) (ht : (p1 : Int) + off = (p2 : Int)) (h2 : CE K d pF b p2) : CE K d pc (e_tern c a b) p2 := by
  intro env h v h' he st hst k
  obtain ⟨⟨bv, ha⟩, e1, he⟩ := Option.bind_eq_some_iff.mp he
  refine hc _ _ _ _ e1 st hst ?_
  cases bv with
  | true => exact h1 _ _ _ _ (by simpa using he) st hst (g_goto C hd ht k)
  | false => exact h2 _ _ _ _ (by simpa using he) st hst k
-- conditions
def b_cmp (r : Int32 → Int32 → Bool) (a b : XX) : XB := fun env h => (a env h).bind fun p => (b env p.2).bind fun q => (x_int p.1).bind fun x => (x_int q.1).map fun y => (r x y, q.2)
def b_cmp0 (r : Int32 → Bool) (a : XX) : XB := fun env h => (a env h).bind fun p => (x_int p.1).map fun x => (r x, p.2)
def x_long : Value → Option Int64
  | .long x => some x
  | _ => none
theorem x_long_spec {v : Value} {x : Int64} (h : x_long v = some x) : v = .long x := by
  cases v <;> simp_all [x_long]
def b_lcmp (r : Int32 → Bool) (a b : XX) : XB := fun env h => (a env h).bind fun p => (b env p.2).bind fun q => (x_long p.1).bind fun x => (x_long q.1).map fun y => (r (lg_cmp x y), q.2)
def b_and (a b : XB) : XB := fun env h => (a env h).bind fun r => if r.1 = true then b env r.2 else some (false, r.2)
def b_or (a b : XB) : XB := fun env h => (a env h).bind fun r => if r.1 = true then some (true, r.2) else b env r.2
def b_not (a : XB) : XB := fun env h => (a env h).map fun r => (!r.1, r.2)
def b_lit (v : Bool) : XB := fun _ h => some (v, h)
theorem cc_and {a b : XB} {pM pT pF : Nat} (h1 : CC K d pc a pM pF) (h2 : CC K d pM b pT pF) : CC K d pc (b_and a b) pT pF := by
  intro env h bv h' he st hst k
  obtain ⟨⟨b1, ha⟩, e1, he⟩ := Option.bind_eq_some_iff.mp he
  refine h1 _ _ _ _ e1 st hst ?_
  cases b1 with
  | true => exact h2 _ _ _ _ (by simpa using he) st hst k
  | false =>
    simp at he
    obtain ⟨q1, q2⟩ := he
    subst q1; subst q2
    exact k
theorem cc_or {a b : XB} {pM pT pF : Nat} (h1 : CC K d pc a pT pM) (h2 : CC K d pM b pT pF) : CC K d pc (b_or a b) pT pF := by
  intro env h bv h' he st hst k
  obtain ⟨⟨b1, ha⟩, e1, he⟩ := Option.bind_eq_some_iff.mp he
  refine h1 _ _ _ _ e1 st hst ?_
  cases b1 with
  | false => exact h2 _ _ _ _ (by simpa using he) st hst k
  | true =>
    simp at he
    obtain ⟨q1, q2⟩ := he
    subst q1; subst q2
    exact k
theorem cc_not {a : XB} {pT pF : Nat} (h1 : CC K d pc a pF pT) : CC K d pc (b_not a) pT pF := by
  intro env h bv h' he st hst k
  obtain ⟨⟨b1, ha⟩, e1, he⟩ := Option.map_eq_some_iff.mp he
  cases he
  refine h1 _ _ _ _ e1 st hst ?_
  cases b1 <;> simpa using k
def r_eq (x y : Int32) : Bool := decide (x = y)
def r_eq0 (x : Int32) : Bool := decide (x = 0)
def r_ne (x y : Int32) : Bool := decide (¬ x = y)
def r_ne0 (x : Int32) : Bool := decide (¬ x = 0)
def r_lt (x y : Int32) : Bool := decide (x < y)
def r_lt0 (x : Int32) : Bool := decide (x < 0)
def r_ge (x y : Int32) : Bool := decide (y ≤ x)
def r_ge0 (x : Int32) : Bool := decide (0 ≤ x)
def r_gt (x y : Int32) : Bool := decide (y < x)
def r_gt0 (x : Int32) : Bool := decide (0 < x)
def r_le (x y : Int32) : Bool := decide (x ≤ y)
def r_le0 (x : Int32) : Bool := decide (x ≤ 0)
theorem cc_eqJ {a b : XX} {off : Int} {pT pF : Nat} (C : xOK K own cc ini bz fr lo) (h1 : CE K d pc a p1) (h2 : CE K (d + 2) p1 b p2) (hd : decode cc p2 = .ok (.if_icmp .eq off, 3)) (ht : (p2 : Int) + off = (pT : Int)) (hp : p2 + 3 = pF) : CC K d pc (b_cmp r_eq a b) pT pF := by
  intro env h bv h' he st hst k
  obtain ⟨⟨v1, ha⟩, e1, he⟩ := Option.bind_eq_some_iff.mp he
  obtain ⟨⟨v2, hb⟩, e2, he⟩ := Option.bind_eq_some_iff.mp he
  obtain ⟨x, e3, he⟩ := Option.bind_eq_some_iff.mp he
  obtain ⟨y, e4, he⟩ := Option.map_eq_some_iff.mp he
  cases he
  have q3 := x_int_spec e3
  have q4 := x_int_spec e4
  dsimp only at q3 q4
  subst q3; subst q4; subst hp
  refine h1 _ _ _ _ e1 st hst (h2 _ _ _ _ e2 _ (cat_cons _ hst) (g_icmp_eq C hd ht ?_))
  unfold r_eq at k
  simp only [decide_eq_true_eq] at k
  exact k
theorem cc_eq0J {a : XX} {off : Int} {pT pF : Nat} (C : xOK K own cc ini bz fr lo) (h1 : CE K d pc a p1) (hd : decode cc p1 = .ok (.ifCond .eq off, 3)) (ht : (p1 : Int) + off = (pT : Int)) (hp : p1 + 3 = pF) : CC K d pc (b_cmp0 r_eq0 a) pT pF := by
  intro env h bv h' he st hst k
  obtain ⟨⟨v1, ha⟩, e1, he⟩ := Option.bind_eq_some_iff.mp he
  obtain ⟨x, e3, he⟩ := Option.map_eq_some_iff.mp he
  cases he
  have q3 := x_int_spec e3
  dsimp only at q3
  subst q3; subst hp
  refine h1 _ _ _ _ e1 st hst (g_if_eq C hd ht ?_)
  unfold r_eq0 at k
  simp only [decide_eq_true_eq] at k
  exact k
theorem cc_leqJ {a b : XX} {off : Int} {pT pF : Nat} (C : xOK K own cc ini bz fr lo) (h1 : CE K d pc a p1) (h2 : CE K (d + 2) p1 b p2) (hd0 : decode cc p2 = .ok (.lcmp, 1)) (hd : decode cc (p2 + 1) = .ok (.ifCond .eq off, 3)) (ht : ((p2 + 1 : Nat) : Int) + off = (pT : Int)) (hp : p2 + 1 + 3 = pF) : CC K d pc (b_lcmp r_eq0 a b) pT pF := by
  intro env h bv h' he st hst k
  obtain ⟨⟨v1, ha⟩, e1, he⟩ := Option.bind_eq_some_iff.mp he
  obtain ⟨⟨v2, hb⟩, e2, he⟩ := Option.bind_eq_some_iff.mp he
  obtain ⟨x, e3, he⟩ := Option.bind_eq_some_iff.mp he
  obtain ⟨y, e4, he⟩ := Option.map_eq_some_iff.mp he
  cases he
  have q3 := x_long_spec e3
  have q4 := x_long_spec e4
  dsimp only at q3 q4
  subst q3; subst q4; subst hp
  refine h1 _ _ _ _ e1 st hst (h2 _ _ _ _ e2 _ (cat_cons _ hst) (g_lcmp C hd0 (g_if_eq C hd ht ?_)))
  unfold r_eq0 at k
  simp only [decide_eq_true_eq] at k
  exact k
theorem cc_eqN {a b : XX} {off : Int} {pT pF : Nat} (C : xOK K own cc ini bz fr lo) (h1 : CE K d pc a p1) (h2 : CE K (d + 2) p1 b p2) (hd : decode cc p2 = .ok (.if_icmp .ne off, 3)) (ht : (p2 : Int) + off = (pF : Int)) (hp : p2 + 3 = pT) : CC K d pc (b_cmp r_eq a b) pT pF := by
  intro env h bv h' he st hst k
  obtain ⟨⟨v1, ha⟩, e1, he⟩ := Option.bind_eq_some_iff.mp he
  obtain ⟨⟨v2, hb⟩, e2, he⟩ := Option.bind_eq_some_iff.mp he
  obtain ⟨x, e3, he⟩ := Option.bind_eq_some_iff.mp he
  obtain ⟨y, e4, he⟩ := Option.map_eq_some_iff.mp he
  cases he
  have q3 := x_int_spec e3
  have q4 := x_int_spec e4
  dsimp only at q3 q4
  subst q3; subst q4; subst hp
  refine h1 _ _ _ _ e1 st hst (h2 _ _ _ _ e2 _ (cat_cons _ hst) (g_icmp_ne C hd ht ?_))
  unfold r_eq at k
  simp only [decide_eq_true_eq] at k
  by_cases hq : x = y
  · rw [if_pos hq] at k; rw [if_neg (by simpa [Int32.not_lt, Int32.not_le] using hq)]; exact k
  · rw [if_neg hq] at k; rw [if_pos (by simpa [Int32.not_lt, Int32.not_le] using hq)]; exact k
theorem cc_eq0N {a : XX} {off : Int} {pT pF : Nat} (C : xOK K own cc ini bz fr lo) (h1 : CE K d pc a p1) (hd : decode cc p1 = .ok (.ifCond .ne off, 3)) (ht : (p1 : Int) + off = (pF : Int)) (hp : p1 + 3 = pT) : CC K d pc (b_cmp0 r_eq0 a) pT pF := by
  intro env h bv h' he st hst k
  obtain ⟨⟨v1, ha⟩, e1, he⟩ := Option.bind_eq_some_iff.mp he
  obtain ⟨x, e3, he⟩ := Option.map_eq_some_iff.mp he
  cases he
  have q3 := x_int_spec e3
  dsimp only at q3
  subst q3; subst hp
  refine h1 _ _ _ _ e1 st hst (g_if_ne C hd ht ?_)
  unfold r_eq0 at k
  simp only [decide_eq_true_eq] at k
  by_cases hq : x = 0
  · rw [if_pos hq] at k; rw [if_neg (by simpa [Int32.not_lt, Int32.not_le] using hq)]; exact k
  · rw [if_neg hq] at k; rw [if_pos (by simpa [Int32.not_lt, Int32.not_le] using hq)]; exact k
theorem cc_leqN {a b : XX} {off : Int} {pT pF : Nat} (C : xOK K own cc ini bz fr lo) (h1 : CE K d pc a p1) (h2 : CE K (d + 2) p1 b p2) (hd0 : decode cc p2 = .ok (.lcmp, 1)) (hd : decode cc (p2 + 1) = .ok (.ifCond .ne off, 3)) (ht : ((p2 + 1 : Nat) : Int) + off = (pF : Int)) (hp : p2 + 1 + 3 = pT) : CC K d pc (b_lcmp r_eq0 a b) pT pF := by
  intro env h bv h' he st hst k
  obtain ⟨⟨v1, ha⟩, e1, he⟩ := Option.bind_eq_some_iff.mp he
  obtain ⟨⟨v2, hb⟩, e2, he⟩ := Option.bind_eq_some_iff.mp he
  obtain ⟨x, e3, he⟩ := Option.bind_eq_some_iff.mp he
  obtain ⟨y, e4, he⟩ := Option.map_eq_some_iff.mp he
  cases he
  have q3 := x_long_spec e3
  have q4 := x_long_spec e4
  dsimp only at q3 q4
  subst q3; subst q4; subst hp
  refine h1 _ _ _ _ e1 st hst (h2 _ _ _ _ e2 _ (cat_cons _ hst) (g_lcmp C hd0 (g_if_ne C hd ht ?_)))
  unfold r_eq0 at k
  simp only [decide_eq_true_eq] at k
  by_cases hq : lg_cmp x y = 0
  · rw [if_pos hq] at k; rw [if_neg (by simpa [Int32.not_lt, Int32.not_le] using hq)]; exact k
  · rw [if_neg hq] at k; rw [if_pos (by simpa [Int32.not_lt, Int32.not_le] using hq)]; exact k
theorem cc_neJ {a b : XX} {off : Int} {pT pF : Nat} (C : xOK K own cc ini bz fr lo) (h1 : CE K d pc a p1) (h2 : CE K (d + 2) p1 b p2) (hd : decode cc p2 = .ok (.if_icmp .ne off, 3)) (ht : (p2 : Int) + off = (pT : Int)) (hp : p2 + 3 = pF) : CC K d pc (b_cmp r_ne a b) pT pF := by
  intro env h bv h' he st hst k
  obtain ⟨⟨v1, ha⟩, e1, he⟩ := Option.bind_eq_some_iff.mp he
  obtain ⟨⟨v2, hb⟩, e2, he⟩ := Option.bind_eq_some_iff.mp he
  obtain ⟨x, e3, he⟩ := Option.bind_eq_some_iff.mp he
  obtain ⟨y, e4, he⟩ := Option.map_eq_some_iff.mp he
  cases he
  have q3 := x_int_spec e3
  have q4 := x_int_spec e4
  dsimp only at q3 q4
  subst q3; subst q4; subst hp
  refine h1 _ _ _ _ e1 st hst (h2 _ _ _ _ e2 _ (cat_cons _ hst) (g_icmp_ne C hd ht ?_))
  unfold r_ne at k
  simp only [decide_eq_true_eq] at k
  exact k
theorem cc_ne0J {a : XX} {off : Int} {pT pF : Nat} (C : xOK K own cc ini bz fr lo) (h1 : CE K d pc a p1) (hd : decode cc p1 = .ok (.ifCond .ne off, 3)) (ht : (p1 : Int) + off = (pT : Int)) (hp : p1 + 3 = pF) : CC K d pc (b_cmp0 r_ne0 a) pT pF := by
  intro env h bv h' he st hst k
  obtain ⟨⟨v1, ha⟩, e1, he⟩ := Option.bind_eq_some_iff.mp he
  obtain ⟨x, e3, he⟩ := Option.map_eq_some_iff.mp he
  cases he
  have q3 := x_int_spec e3
  dsimp only at q3
  subst q3; subst hp
  refine h1 _ _ _ _ e1 st hst (g_if_ne C hd ht ?_)
  unfold r_ne0 at k
  simp only [decide_eq_true_eq] at k
  exact k
theorem cc_lneJ {a b : XX} {off : Int} {pT pF : Nat} (C : xOK K own cc ini bz fr lo) (h1 : CE K d pc a p1) (h2 : CE K (d + 2) p1 b p2) (hd0 : decode cc p2 = .ok (.lcmp, 1)) (hd : decode cc (p2 + 1) = .ok (.ifCond .ne off, 3)) (ht : ((p2 + 1 : Nat) : Int) + off = (pT : Int)) (hp : p2 + 1 + 3 = pF) : CC K d pc (b_lcmp r_ne0 a b) pT pF := by
  intro env h bv h' he st hst k
  obtain ⟨⟨v1, ha⟩, e1, he⟩ := Option.bind_eq_some_iff.mp he
  obtain ⟨⟨v2, hb⟩, e2, he⟩ := Option.bind_eq_some_iff.mp he
  obtain ⟨x, e3, he⟩ := Option.bind_eq_some_iff.mp he
  obtain ⟨y, e4, he⟩ := Option.map_eq_some_iff.mp he
  cases he
  have q3 := x_long_spec e3
  have q4 := x_long_spec e4
  dsimp only at q3 q4
  subst q3; subst q4; subst hp
  refine h1 _ _ _ _ e1 st hst (h2 _ _ _ _ e2 _ (cat_cons _ hst) (g_lcmp C hd0 (g_if_ne C hd ht ?_)))
  unfold r_ne0 at k
  simp only [decide_eq_true_eq] at k
  exact k
theorem cc_neN {a b : XX} {off : Int} {pT pF : Nat} (C : xOK K own cc ini bz fr lo) (h1 : CE K d pc a p1) (h2 : CE K (d + 2) p1 b p2) (hd : decode cc p2 = .ok (.if_icmp .eq off, 3)) (ht : (p2 : Int) + off = (pF : Int)) (hp : p2 + 3 = pT) : CC K d pc (b_cmp r_ne a b) pT pF := by
  intro env h bv h' he st hst k
  obtain ⟨⟨v1, ha⟩, e1, he⟩ := Option.bind_eq_some_iff.mp he
  obtain ⟨⟨v2, hb⟩, e2, he⟩ := Option.bind_eq_some_iff.mp he
  obtain ⟨x, e3, he⟩ := Option.bind_eq_some_iff.mp he
  obtain ⟨y, e4, he⟩ := Option.map_eq_some_iff.mp he
  cases he
  have q3 := x_int_spec e3
  have q4 := x_int_spec e4
  dsimp only at q3 q4
  subst q3; subst q4; subst hp
  refine h1 _ _ _ _ e1 st hst (h2 _ _ _ _ e2 _ (cat_cons _ hst) (g_icmp_eq C hd ht ?_))
  unfold r_ne at k
  simp only [decide_eq_true_eq] at k
  by_cases hq : ¬ x = y
  · rw [if_pos hq] at k; rw [if_neg (by simpa [Int32.not_lt, Int32.not_le] using hq)]; exact k
  · rw [if_neg hq] at k; rw [if_pos (by simpa [Int32.not_lt, Int32.not_le] using hq)]; exact k
theorem cc_ne0N {a : XX} {off : Int} {pT pF : Nat} (C : xOK K own cc ini bz fr lo) (h1 : CE K d pc a p1) (hd : decode cc p1 = .ok (.ifCond .eq off, 3)) (ht : (p1 : Int) + off = (pF : Int)) (hp : p1 + 3 = pT) : CC K d pc (b_cmp0 r_ne0 a) pT pF := by
  intro env h bv h' he st hst k
  obtain ⟨⟨v1, ha⟩, e1, he⟩ := Option.bind_eq_some_iff.mp he
  obtain ⟨x, e3, he⟩ := Option.map_eq_some_iff.mp he
  cases he
  have q3 := x_int_spec e3
  dsimp only at q3
  subst q3; subst hp
  refine h1 _ _ _ _ e1 st hst (g_if_eq C hd ht ?_)
  unfold r_ne0 at k
  simp only [decide_eq_true_eq] at k
  by_cases hq : ¬ x = 0
  · rw [if_pos hq] at k; rw [if_neg (by simpa [Int32.not_lt, Int32.not_le] using hq)]; exact k
  · rw [if_neg hq] at k; rw [if_pos (by simpa [Int32.not_lt, Int32.not_le] using hq)]; exact k
theorem cc_lneN {a b : XX} {off : Int} {pT pF : Nat} (C : xOK K own cc ini bz fr lo) (h1 : CE K d pc a p1) (h2 : CE K (d + 2) p1 b p2) (hd0 : decode cc p2 = .ok (.lcmp, 1)) (hd : decode cc (p2 + 1) = .ok (.ifCond .eq off, 3)) (ht : ((p2 + 1 : Nat) : Int) + off = (pF : Int)) (hp : p2 + 1 + 3 = pT) : CC K d pc (b_lcmp r_ne0 a b) pT pF := by
  intro env h bv h' he st hst k
  obtain ⟨⟨v1, ha⟩, e1, he⟩ := Option.bind_eq_some_iff.mp he
  obtain ⟨⟨v2, hb⟩, e2, he⟩ := Option.bind_eq_some_iff.mp he
  obtain ⟨x, e3, he⟩ := Option.bind_eq_some_iff.mp he
  obtain ⟨y, e4, he⟩ := Option.map_eq_some_iff.mp he
  cases he
  have q3 := x_long_spec e3
  have q4 := x_long_spec e4
  dsimp only at q3 q4
  subst q3; subst q4; subst hp
  refine h1 _ _ _ _ e1 st hst (h2 _ _ _ _ e2 _ (cat_cons _ hst) (g_lcmp C hd0 (g_if_eq C hd ht ?_)))
  unfold r_ne0 at k
  simp only [decide_eq_true_eq] at k
  by_cases hq : ¬ lg_cmp x y = 0
  · rw [if_pos hq] at k; rw [if_neg (by simpa [Int32.not_lt, Int32.not_le] using hq)]; exact k
  · rw [if_neg hq] at k; rw [if_pos (by simpa [Int32.not_lt, Int32.not_le] using hq)]; exact k
theorem cc_ltJ {a b : XX} {off : Int} {pT pF : Nat} (C : xOK K own cc ini bz fr lo) (h1 : CE K d pc a p1) (h2 : CE K (d + 2) p1 b p2) (hd : decode cc p2 = .ok (.if_icmp .lt off, 3)) (ht : (p2 : Int) + off = (pT : Int)) (hp : p2 + 3 = pF) : CC K d pc (b_cmp r_lt a b) pT pF := by
  intro env h bv h' he st hst k
  obtain ⟨⟨v1, ha⟩, e1, he⟩ := Option.bind_eq_some_iff.mp he
  obtain ⟨⟨v2, hb⟩, e2, he⟩ := Option.bind_eq_some_iff.mp he
  obtain ⟨x, e3, he⟩ := Option.bind_eq_some_iff.mp he
  obtain ⟨y, e4, he⟩ := Option.map_eq_some_iff.mp he
  cases he
  have q3 := x_int_spec e3
  have q4 := x_int_spec e4
  dsimp only at q3 q4
  subst q3; subst q4; subst hp
  refine h1 _ _ _ _ e1 st hst (h2 _ _ _ _ e2 _ (cat_cons _ hst) (g_icmp_lt C hd ht ?_))
  unfold r_lt at k
  simp only [decide_eq_true_eq] at k
  exact k
theorem cc_lt0J {a : XX} {off : Int} {pT pF : Nat} (C : xOK K own cc ini bz fr lo) (h1 : CE K d pc a p1) (hd : decode cc p1 = .ok (.ifCond .lt off, 3)) (ht : (p1 : Int) + off = (pT : Int)) (hp : p1 + 3 = pF) : CC K d pc (b_cmp0 r_lt0 a) pT pF := by
  intro env h bv h' he st hst k
  obtain ⟨⟨v1, ha⟩, e1, he⟩ := Option.bind_eq_some_iff.mp he
  obtain ⟨x, e3, he⟩ := Option.map_eq_some_iff.mp he
  cases he
  have q3 := x_int_spec e3
  dsimp only at q3
  subst q3; subst hp
  refine h1 _ _ _ _ e1 st hst (g_if_lt C hd ht ?_)
  unfold r_lt0 at k
  simp only [decide_eq_true_eq] at k
  exact k
theorem cc_lltJ {a b : XX} {off : Int} {pT pF : Nat} (C : xOK K own cc ini bz fr lo) (h1 : CE K d pc a p1) (h2 : CE K (d + 2) p1 b p2) (hd0 : decode cc p2 = .ok (.lcmp, 1)) (hd : decode cc (p2 + 1) = .ok (.ifCond .lt off, 3)) (ht : ((p2 + 1 : Nat) : Int) + off = (pT : Int)) (hp : p2 + 1 + 3 = pF) : CC K d pc (b_lcmp r_lt0 a b) pT pF := by
  intro env h bv h' he st hst k
  obtain ⟨⟨v1, ha⟩, e1, he⟩ := Option.bind_eq_some_iff.mp he
  obtain ⟨⟨v2, hb⟩, e2, he⟩ := Option.bind_eq_some_iff.mp he
  obtain ⟨x, e3, he⟩ := Option.bind_eq_some_iff.mp he
  obtain ⟨y, e4, he⟩ := Option.map_eq_some_iff.mp he
  cases he
  have q3 := x_long_spec e3
  have q4 := x_long_spec e4
  dsimp only at q3 q4
  subst q3; subst q4; subst hp
  refine h1 _ _ _ _ e1 st hst (h2 _ _ _ _ e2 _ (cat_cons _ hst) (g_lcmp C hd0 (g_if_lt C hd ht ?_)))
  unfold r_lt0 at k
  simp only [decide_eq_true_eq] at k
  exact k
theorem cc_ltN {a b : XX} {off : Int} {pT pF : Nat} (C : xOK K own cc ini bz fr lo) (h1 : CE K d pc a p1) (h2 : CE K (d + 2) p1 b p2) (hd : decode cc p2 = .ok (.if_icmp .ge off, 3)) (ht : (p2 : Int) + off = (pF : Int)) (hp : p2 + 3 = pT) : CC K d pc (b_cmp r_lt a b) pT pF := by
  intro env h bv h' he st hst k
  obtain ⟨⟨v1, ha⟩, e1, he⟩ := Option.bind_eq_some_iff.mp he
  obtain ⟨⟨v2, hb⟩, e2, he⟩ := Option.bind_eq_some_iff.mp he
  obtain ⟨x, e3, he⟩ := Option.bind_eq_some_iff.mp he
  obtain ⟨y, e4, he⟩ := Option.map_eq_some_iff.mp he
  cases he
  have q3 := x_int_spec e3
  have q4 := x_int_spec e4
  dsimp only at q3 q4
  subst q3; subst q4; subst hp
  refine h1 _ _ _ _ e1 st hst (h2 _ _ _ _ e2 _ (cat_cons _ hst) (g_icmp_ge C hd ht ?_))
  unfold r_lt at k
  simp only [decide_eq_true_eq] at k
  by_cases hq : x < y
  · rw [if_pos hq] at k; rw [if_neg (by simpa [Int32.not_lt, Int32.not_le] using hq)]; exact k
  · rw [if_neg hq] at k; rw [if_pos (by simpa [Int32.not_lt, Int32.not_le] using hq)]; exact k
theorem cc_lt0N {a : XX} {off : Int} {pT pF : Nat} (C : xOK K own cc ini bz fr lo) (h1 : CE K d pc a p1) (hd : decode cc p1 = .ok (.ifCond .ge off, 3)) (ht : (p1 : Int) + off = (pF : Int)) (hp : p1 + 3 = pT) : CC K d pc (b_cmp0 r_lt0 a) pT pF := by
  intro env h bv h' he st hst k
  obtain ⟨⟨v1, ha⟩, e1, he⟩ := Option.bind_eq_some_iff.mp he
  obtain ⟨x, e3, he⟩ := Option.map_eq_some_iff.mp he
  cases he
  have q3 := x_int_spec e3
  dsimp only at q3
  subst q3; subst hp
  refine h1 _ _ _ _ e1 st hst (g_if_ge C hd ht ?_)
  unfold r_lt0 at k
  simp only [decide_eq_true_eq] at k
  by_cases hq : x < 0
  · rw [if_pos hq] at k; rw [if_neg (by simpa [Int32.not_lt, Int32.not_le] using hq)]; exact k
  · rw [if_neg hq] at k; rw [if_pos (by simpa [Int32.not_lt, Int32.not_le] using hq)]; exact k
theorem cc_lltN {a b : XX} {off : Int} {pT pF : Nat} (C : xOK K own cc ini bz fr lo) (h1 : CE K d pc a p1) (h2 : CE K (d + 2) p1 b p2) (hd0 : decode cc p2 = .ok (.lcmp, 1)) (hd : decode cc (p2 + 1) = .ok (.ifCond .ge off, 3)) (ht : ((p2 + 1 : Nat) : Int) + off = (pF : Int)) (hp : p2 + 1 + 3 = pT) : CC K d pc (b_lcmp r_lt0 a b) pT pF := by
  intro env h bv h' he st hst k
  obtain ⟨⟨v1, ha⟩, e1, he⟩ := Option.bind_eq_some_iff.mp he
  obtain ⟨⟨v2, hb⟩, e2, he⟩ := Option.bind_eq_some_iff.mp he
  obtain ⟨x, e3, he⟩ := Option.bind_eq_some_iff.mp he
  obtain ⟨y, e4, he⟩ := Option.map_eq_some_iff.mp he
  cases he
  have q3 := x_long_spec e3
  have q4 := x_long_spec e4
  dsimp only at q3 q4
  subst q3; subst q4; subst hp
  refine h1 _ _ _ _ e1 st hst (h2 _ _ _ _ e2 _ (cat_cons _ hst) (g_lcmp C hd0 (g_if_ge C hd ht ?_)))
  unfold r_lt0 at k
  simp only [decide_eq_true_eq] at k
  by_cases hq : lg_cmp x y < 0
  · rw [if_pos hq] at k; rw [if_neg (by simpa [Int32.not_lt, Int32.not_le] using hq)]; exact k
  · rw [if_neg hq] at k; rw [if_pos (by simpa [Int32.not_lt, Int32.not_le] using hq)]; exact k
theorem cc_geJ {a b : XX} {off : Int} {pT pF : Nat} (C : xOK K own cc ini bz fr lo) (h1 : CE K d pc a p1) (h2 : CE K (d + 2) p1 b p2) (hd : decode cc p2 = .ok (.if_icmp .ge off, 3)) (ht : (p2 : Int) + off = (pT : Int)) (hp : p2 + 3 = pF) : CC K d pc (b_cmp r_ge a b) pT pF := by
  intro env h bv h' he st hst k
  obtain ⟨⟨v1, ha⟩, e1, he⟩ := Option.bind_eq_some_iff.mp he
  obtain ⟨⟨v2, hb⟩, e2, he⟩ := Option.bind_eq_some_iff.mp he
  obtain ⟨x, e3, he⟩ := Option.bind_eq_some_iff.mp he
  obtain ⟨y, e4, he⟩ := Option.map_eq_some_iff.mp he
  cases he
  have q3 := x_int_spec e3
  have q4 := x_int_spec e4
  dsimp only at q3 q4
  subst q3; subst q4; subst hp
  refine h1 _ _ _ _ e1 st hst (h2 _ _ _ _ e2 _ (cat_cons _ hst) (g_icmp_ge C hd ht ?_))
  unfold r_ge at k
  simp only [decide_eq_true_eq] at k
  exact k
theorem cc_ge0J {a : XX} {off : Int} {pT pF : Nat} (C : xOK K own cc ini bz fr lo) (h1 : CE K d pc a p1) (hd : decode cc p1 = .ok (.ifCond .ge off, 3)) (ht : (p1 : Int) + off = (pT : Int)) (hp : p1 + 3 = pF) : CC K d pc (b_cmp0 r_ge0 a) pT pF := by
  intro env h bv h' he st hst k
  obtain ⟨⟨v1, ha⟩, e1, he⟩ := Option.bind_eq_some_iff.mp he
  obtain ⟨x, e3, he⟩ := Option.map_eq_some_iff.mp he
  cases he
  have q3 := x_int_spec e3
  dsimp only at q3
  subst q3; subst hp
  refine h1 _ _ _ _ e1 st hst (g_if_ge C hd ht ?_)
  unfold r_ge0 at k
  simp only [decide_eq_true_eq] at k
  exact k
theorem cc_lgeJ {a b : XX} {off : Int} {pT pF : Nat} (C : xOK K own cc ini bz fr lo) (h1 : CE K d pc a p1) (h2 : CE K (d + 2) p1 b p2) (hd0 : decode cc p2 = .ok (.lcmp, 1)) (hd : decode cc (p2 + 1) = .ok (.ifCond .ge off, 3)) (ht : ((p2 + 1 : Nat) : Int) + off = (pT : Int)) (hp : p2 + 1 + 3 = pF) : CC K d pc (b_lcmp r_ge0 a b) pT pF := by
  intro env h bv h' he st hst k
  obtain ⟨⟨v1, ha⟩, e1, he⟩ := Option.bind_eq_some_iff.mp he
  obtain ⟨⟨v2, hb⟩, e2, he⟩ := Option.bind_eq_some_iff.mp he
  obtain ⟨x, e3, he⟩ := Option.bind_eq_some_iff.mp he
  obtain ⟨y, e4, he⟩ := Option.map_eq_some_iff.mp he
  cases he
  have q3 := x_long_spec e3
  have q4 := x_long_spec e4
  dsimp only at q3 q4
  subst q3; subst q4; subst hp
  refine h1 _ _ _ _ e1 st hst (h2 _ _ _ _ e2 _ (cat_cons _ hst) (g_lcmp C hd0 (g_if_ge C hd ht ?_)))
  unfold r_ge0 at k
  simp only [decide_eq_true_eq] at k
  exact k
theorem cc_geN {a b : XX} {off : Int} {pT pF : Nat} (C : xOK K own cc ini bz fr lo) (h1 : CE K d pc a p1) (h2 : CE K (d + 2) p1 b p2) (hd : decode cc p2 = .ok (.if_icmp .lt off, 3)) (ht : (p2 : Int) + off = (pF : Int)) (hp : p2 + 3 = pT) : CC K d pc (b_cmp r_ge a b) pT pF := by
  intro env h bv h' he st hst k
  obtain ⟨⟨v1, ha⟩, e1, he⟩ := Option.bind_eq_some_iff.mp he
  obtain ⟨⟨v2, hb⟩, e2, he⟩ := Option.bind_eq_some_iff.mp he
  obtain ⟨x, e3, he⟩ := Option.bind_eq_some_iff.mp he
  obtain ⟨y, e4, he⟩ := Option.map_eq_some_iff.mp he
  cases he
  have q3 := x_int_spec e3
  have q4 := x_int_spec e4
  dsimp only at q3 q4
  subst q3; subst q4; subst hp
  refine h1 _ _ _ _ e1 st hst (h2 _ _ _ _ e2 _ (cat_cons _ hst) (g_icmp_lt C hd ht ?_))
  unfold r_ge at k
  simp only [decide_eq_true_eq] at k
  by_cases hq : y ≤ x
  · rw [if_pos hq] at k; rw [if_neg (by simpa [Int32.not_lt, Int32.not_le] using hq)]; exact k
  · rw [if_neg hq] at k; rw [if_pos (by simpa [Int32.not_lt, Int32.not_le] using hq)]; exact k
theorem cc_ge0N {a : XX} {off : Int} {pT pF : Nat} (C : xOK K own cc ini bz fr lo) (h1 : CE K d pc a p1) (hd : decode cc p1 = .ok (.ifCond .lt off, 3)) (ht : (p1 : Int) + off = (pF : Int)) (hp : p1 + 3 = pT) : CC K d pc (b_cmp0 r_ge0 a) pT pF := by
  intro env h bv h' he st hst k
  obtain ⟨⟨v1, ha⟩, e1, he⟩ := Option.bind_eq_some_iff.mp he
  obtain ⟨x, e3, he⟩ := Option.map_eq_some_iff.mp he
  cases he
  have q3 := x_int_spec e3
  dsimp only at q3
  subst q3; subst hp
  refine h1 _ _ _ _ e1 st hst (g_if_lt C hd ht ?_)
  unfold r_ge0 at k
  simp only [decide_eq_true_eq] at k
  by_cases hq : 0 ≤ x
  · rw [if_pos hq] at k; rw [if_neg (by simpa [Int32.not_lt, Int32.not_le] using hq)]; exact k
  · rw [if_neg hq] at k; rw [if_pos (by simpa [Int32.not_lt, Int32.not_le] using hq)]; exact k
theorem cc_lgeN {a b : XX} {off : Int} {pT pF : Nat} (C : xOK K own cc ini bz fr lo) (h1 : CE K d pc a p1) (h2 : CE K (d + 2) p1 b p2) (hd0 : decode cc p2 = .ok (.lcmp, 1)) (hd : decode cc (p2 + 1) = .ok (.ifCond .lt off, 3)) (ht : ((p2 + 1 : Nat) : Int) + off = (pF : Int)) (hp : p2 + 1 + 3 = pT) : CC K d pc (b_lcmp r_ge0 a b) pT pF := by
  intro env h bv h' he st hst k
  obtain ⟨⟨v1, ha⟩, e1, he⟩ := Option.bind_eq_some_iff.mp he
  obtain ⟨⟨v2, hb⟩, e2, he⟩ := Option.bind_eq_some_iff.mp he
  obtain ⟨x, e3, he⟩ := Option.bind_eq_some_iff.mp he
  obtain ⟨y, e4, he⟩ := Option.map_eq_some_iff.mp he
  cases he
  have q3 := x_long_spec e3
  have q4 := x_long_spec e4
  dsimp only at q3 q4
  subst q3; subst q4; subst hp
  refine h1 _ _ _ _ e1 st hst (h2 _ _ _ _ e2 _ (cat_cons _ hst) (g_lcmp C hd0 (g_if_lt C hd ht ?_)))
  unfold r_ge0 at k
  simp only [decide_eq_true_eq] at k
  by_cases hq : 0 ≤ lg_cmp x y
  · rw [if_pos hq] at k; rw [if_neg (by simpa [Int32.not_lt, Int32.not_le] using hq)]; exact k
  · rw [if_neg hq] at k; rw [if_pos (by simpa [Int32.not_lt, Int32.not_le] using hq)]; exact k
theorem cc_gtJ {a b : XX} {off : Int} {pT pF : Nat} (C : xOK K own cc ini bz fr lo) (h1 : CE K d pc a p1) (h2 : CE K (d + 2) p1 b p2) (hd : decode cc p2 = .ok (.if_icmp .gt off, 3)) (ht : (p2 : Int) + off = (pT : Int)) (hp : p2 + 3 = pF) : CC K d pc (b_cmp r_gt a b) pT pF := by
  intro env h bv h' he st hst k
  obtain ⟨⟨v1, ha⟩, e1, he⟩ := Option.bind_eq_some_iff.mp he
  obtain ⟨⟨v2, hb⟩, e2, he⟩ := Option.bind_eq_some_iff.mp he
  obtain ⟨x, e3, he⟩ := Option.bind_eq_some_iff.mp he
  obtain ⟨y, e4, he⟩ := Option.map_eq_some_iff.mp he
  cases he
  have q3 := x_int_spec e3
  have q4 := x_int_spec e4
  dsimp only at q3 q4
  subst q3; subst q4; subst hp
  refine h1 _ _ _ _ e1 st hst (h2 _ _ _ _ e2 _ (cat_cons _ hst) (g_icmp_gt C hd ht ?_))
  unfold r_gt at k
  simp only [decide_eq_true_eq] at k
  exact k
theorem cc_gt0J {a : XX} {off : Int} {pT pF : Nat} (C : xOK K own cc ini bz fr lo) (h1 : CE K d pc a p1) (hd : decode cc p1 = .ok (.ifCond .gt off, 3)) (ht : (p1 : Int) + off = (pT : Int)) (hp : p1 + 3 = pF) : CC K d pc (b_cmp0 r_gt0 a) pT pF := by
  intro env h bv h' he st hst k
  obtain ⟨⟨v1, ha⟩, e1, he⟩ := Option.bind_eq_some_iff.mp he
  obtain ⟨x, e3, he⟩ := Option.map_eq_some_iff.mp he
  cases he
  have q3 := x_int_spec e3
  dsimp only at q3
  subst q3; subst hp
  refine h1 _ _ _ _ e1 st hst (g_if_gt C hd ht ?_)
  unfold r_gt0 at k
  simp only [decide_eq_true_eq] at k
  exact k
theorem cc_lgtJ {a b : XX} {off : Int} {pT pF : Nat} (C : xOK K own cc ini bz fr lo) (h1 : CE K d pc a p1) (h2 : CE K (d + 2) p1 b p2) (hd0 : decode cc p2 = .ok (.lcmp, 1)) (hd : decode cc (p2 + 1) = .ok (.ifCond .gt off, 3)) (ht : ((p2 + 1 : Nat) : Int) + off = (pT : Int)) (hp : p2 + 1 + 3 = pF) : CC K d pc (b_lcmp r_gt0 a b) pT pF := by
  intro env h bv h' he st hst k
  obtain ⟨⟨v1, ha⟩, e1, he⟩ := Option.bind_eq_some_iff.mp he
  obtain ⟨⟨v2, hb⟩, e2, he⟩ := Option.bind_eq_some_iff.mp he
  obtain ⟨x, e3, he⟩ := Option.bind_eq_some_iff.mp he
  obtain ⟨y, e4, he⟩ := Option.map_eq_some_iff.mp he
  cases he
  have q3 := x_long_spec e3
  have q4 := x_long_spec e4
  dsimp only at q3 q4
  subst q3; subst q4; subst hp
  refine h1 _ _ _ _ e1 st hst (h2 _ _ _ _ e2 _ (cat_cons _ hst) (g_lcmp C hd0 (g_if_gt C hd ht ?_)))
  unfold r_gt0 at k
  simp only [decide_eq_true_eq] at k
  exact k
theorem cc_gtN {a b : XX} {off : Int} {pT pF : Nat} (C : xOK K own cc ini bz fr lo) (h1 : CE K d pc a p1) (h2 : CE K (d + 2) p1 b p2) (hd : decode cc p2 = .ok (.if_icmp .le off, 3)) (ht : (p2 : Int) + off = (pF : Int)) (hp : p2 + 3 = pT) : CC K d pc (b_cmp r_gt a b) pT pF := by
  intro env h bv h' he st hst k
  obtain ⟨⟨v1, ha⟩, e1, he⟩ := Option.bind_eq_some_iff.mp he
  obtain ⟨⟨v2, hb⟩, e2, he⟩ := Option.bind_eq_some_iff.mp he
  obtain ⟨x, e3, he⟩ := Option.bind_eq_some_iff.mp he
  obtain ⟨y, e4, he⟩ := Option.map_eq_some_iff.mp he
  cases he
  have q3 := x_int_spec e3
  have q4 := x_int_spec e4
  dsimp only at q3 q4
  subst q3; subst q4; subst hp
  refine h1 _ _ _ _ e1 st hst (h2 _ _ _ _ e2 _ (cat_cons _ hst) (g_icmp_le C hd ht ?_))
  unfold r_gt at k
  simp only [decide_eq_true_eq] at k
  by_cases hq : y < x
  · rw [if_pos hq] at k; rw [if_neg (by simpa [Int32.not_lt, Int32.not_le] using hq)]; exact k
  · rw [if_neg hq] at k; rw [if_pos (by simpa [Int32.not_lt, Int32.not_le] using hq)]; exact k
theorem cc_gt0N {a : XX} {off : Int} {pT pF : Nat} (C : xOK K own cc ini bz fr lo) (h1 : CE K d pc a p1) (hd : decode cc p1 = .ok (.ifCond .le off, 3)) (ht : (p1 : Int) + off = (pF : Int)) (hp : p1 + 3 = pT) : CC K d pc (b_cmp0 r_gt0 a) pT pF := by
  intro env h bv h' he st hst k
  obtain ⟨⟨v1, ha⟩, e1, he⟩ := Option.bind_eq_some_iff.mp he
  obtain ⟨x, e3, he⟩ := Option.map_eq_some_iff.mp he
  cases he
  have q3 := x_int_spec e3
  dsimp only at q3
  subst q3; subst hp
  refine h1 _ _ _ _ e1 st hst (g_if_le C hd ht ?_)
  unfold r_gt0 at k
  simp only [decide_eq_true_eq] at k
  by_cases hq : 0 < x
  · rw [if_pos hq] at k; rw [if_neg (by simpa [Int32.not_lt, Int32.not_le] using hq)]; exact k
  · rw [if_neg hq] at k; rw [if_pos (by simpa [Int32.not_lt, Int32.not_le] using hq)]; exact k
theorem cc_lgtN {a b : XX} {off : Int} {pT pF : Nat} (C : xOK K own cc ini bz fr lo) (h1 : CE K d pc a p1) (h2 : CE K (d + 2) p1 b p2) (hd0 : decode cc p2 = .ok (.lcmp, 1)) (hd : decode cc (p2 + 1) = .ok (.ifCond .le off, 3)) (ht : ((p2 + 1 : Nat) : Int) + off = (pF : Int)) (hp : p2 + 1 + 3 = pT) : CC K d pc (b_lcmp r_gt0 a b) pT pF := by
  intro env h bv h' he st hst k
  obtain ⟨⟨v1, ha⟩, e1, he⟩ := Option.bind_eq_some_iff.mp he
  obtain ⟨⟨v2, hb⟩, e2, he⟩ := Option.bind_eq_some_iff.mp he
  obtain ⟨x, e3, he⟩ := Option.bind_eq_some_iff.mp he
  obtain ⟨y, e4, he⟩ := Option.map_eq_some_iff.mp he
  cases he
  have q3 := x_long_spec e3
  have q4 := x_long_spec e4
  dsimp only at q3 q4
  subst q3; subst q4; subst hp
  refine h1 _ _ _ _ e1 st hst (h2 _ _ _ _ e2 _ (cat_cons _ hst) (g_lcmp C hd0 (g_if_le C hd ht ?_)))
  unfold r_gt0 at k
  simp only [decide_eq_true_eq] at k
  by_cases hq : 0 < lg_cmp x y
  · rw [if_pos hq] at k; rw [if_neg (by simpa [Int32.not_lt, Int32.not_le] using hq)]; exact k
  · rw [if_neg hq] at k; rw [if_pos (by simpa [Int32.not_lt, Int32.not_le] using hq)]; exact k
theorem cc_leJ {a b : XX} {off : Int} {pT pF : Nat} (C : xOK K own cc ini bz fr lo) (h1 : CE K d pc a p1) (h2 : CE K (d + 2) p1 b p2) (hd : decode cc p2 = .ok (.if_icmp .le off, 3)) (ht : (p2 : Int) + off = (pT : Int)) (hp : p2 + 3 = pF) : CC K d pc (b_cmp r_le a b) pT pF := by
  intro env h bv h' he st hst k
  obtain ⟨⟨v1, ha⟩, e1, he⟩ := Option.bind_eq_some_iff.mp he
  obtain ⟨⟨v2, hb⟩, e2, he⟩ := Option.bind_eq_some_iff.mp he
  obtain ⟨x, e3, he⟩ := Option.bind_eq_some_iff.mp he
  obtain ⟨y, e4, he⟩ := Option.map_eq_some_iff.mp he
  cases he
  have q3 := x_int_spec e3
  have q4 := x_int_spec e4
  dsimp only at q3 q4
  subst q3; subst q4; subst hp
  refine h1 _ _ _ _ e1 st hst (h2 _ _ _ _ e2 _ (cat_cons _ hst) (g_icmp_le C hd ht ?_))
  unfold r_le at k
  simp only [decide_eq_true_eq] at k
  exact k
theorem cc_le0J {a : XX} {off : Int} {pT pF : Nat} (C : xOK K own cc ini bz fr lo) (h1 : CE K d pc a p1) (hd : decode cc p1 = .ok (.ifCond .le off, 3)) (ht : (p1 : Int) + off = (pT : Int)) (hp : p1 + 3 = pF) : CC K d pc (b_cmp0 r_le0 a) pT pF := by
  intro env h bv h' he st hst k
  obtain ⟨⟨v1, ha⟩, e1, he⟩ := Option.bind_eq_some_iff.mp he
  obtain ⟨x, e3, he⟩ := Option.map_eq_some_iff.mp he
  cases he
  have q3 := x_int_spec e3
  dsimp only at q3
  subst q3; subst hp
  refine h1 _ _ _ _ e1 st hst (g_if_le C hd ht ?_)
  unfold r_le0 at k
  simp only [decide_eq_true_eq] at k
  exact k
theorem cc_lleJ {a b : XX} {off : Int} {pT pF : Nat} (C : xOK K own cc ini bz fr lo) (h1 : CE K d pc a p1) (h2 : CE K (d + 2) p1 b p2) (hd0 : decode cc p2 = .ok (.lcmp, 1)) (hd : decode cc (p2 + 1) = .ok (.ifCond .le off, 3)) (ht : ((p2 + 1 : Nat) : Int) + off = (pT : Int)) (hp : p2 + 1 + 3 = pF) : CC K d pc (b_lcmp r_le0 a b) pT pF := by
  intro env h bv h' he st hst k
  obtain ⟨⟨v1, ha⟩, e1, he⟩ := Option.bind_eq_some_iff.mp he
  obtain ⟨⟨v2, hb⟩, e2, he⟩ := Option.bind_eq_some_iff.mp he
  obtain ⟨x, e3, he⟩ := Option.bind_eq_some_iff.mp he
  obtain ⟨y, e4, he⟩ := Option.map_eq_some_iff.mp he
  cases he
  have q3 := x_long_spec e3
  have q4 := x_long_spec e4
  dsimp only at q3 q4
  subst q3; subst q4; subst hp
  refine h1 _ _ _ _ e1 st hst (h2 _ _ _ _ e2 _ (cat_cons _ hst) (g_lcmp C hd0 (g_if_le C hd ht ?_)))
  unfold r_le0 at k
  simp only [decide_eq_true_eq] at k
  exact k
theorem cc_leN {a b : XX} {off : Int} {pT pF : Nat} (C : xOK K own cc ini bz fr lo) (h1 : CE K d pc a p1) (h2 : CE K (d + 2) p1 b p2) (hd : decode cc p2 = .ok (.if_icmp .gt off, 3)) (ht : (p2 : Int) + off = (pF : Int)) (hp : p2 + 3 = pT) : CC K d pc (b_cmp r_le a b) pT pF := by
  intro env h bv h' he st hst k
  obtain ⟨⟨v1, ha⟩, e1, he⟩ := Option.bind_eq_some_iff.mp he
  obtain ⟨⟨v2, hb⟩, e2, he⟩ := Option.bind_eq_some_iff.mp he
  obtain ⟨x, e3, he⟩ := Option.bind_eq_some_iff.mp he
  obtain ⟨y, e4, he⟩ := Option.map_eq_some_iff.mp he
  cases he
  have q3 := x_int_spec e3
  have q4 := x_int_spec e4
  dsimp only at q3 q4
  subst q3; subst q4; subst hp
  refine h1 _ _ _ _ e1 st hst (h2 _ _ _ _ e2 _ (cat_cons _ hst) (g_icmp_gt C hd ht ?_))
  unfold r_le at k
  simp only [decide_eq_true_eq] at k
  by_cases hq : x ≤ y
  · rw [if_pos hq] at k; rw [if_neg (by simpa [Int32.not_lt, Int32.not_le] using hq)]; exact k
  · rw [if_neg hq] at k; rw [if_pos (by simpa [Int32.not_lt, Int32.not_le] using hq)]; exact k
theorem cc_le0N {a : XX} {off : Int} {pT pF : Nat} (C : xOK K own cc ini bz fr lo) (h1 : CE K d pc a p1) (hd : decode cc p1 = .ok (.ifCond .gt off, 3)) (ht : (p1 : Int) + off = (pF : Int)) (hp : p1 + 3 = pT) : CC K d pc (b_cmp0 r_le0 a) pT pF := by
  intro env h bv h' he st hst k
  obtain ⟨⟨v1, ha⟩, e1, he⟩ := Option.bind_eq_some_iff.mp he
  obtain ⟨x, e3, he⟩ := Option.map_eq_some_iff.mp he
  cases he
  have q3 := x_int_spec e3
  dsimp only at q3
  subst q3; subst hp
  refine h1 _ _ _ _ e1 st hst (g_if_gt C hd ht ?_)
  unfold r_le0 at k
  simp only [decide_eq_true_eq] at k
  by_cases hq : x ≤ 0
  · rw [if_pos hq] at k; rw [if_neg (by simpa [Int32.not_lt, Int32.not_le] using hq)]; exact k
  · rw [if_neg hq] at k; rw [if_pos (by simpa [Int32.not_lt, Int32.not_le] using hq)]; exact k
theorem cc_lleN {a b : XX} {off : Int} {pT pF : Nat} (C : xOK K own cc ini bz fr lo) (h1 : CE K d pc a p1) (h2 : CE K (d + 2) p1 b p2) (hd0 : decode cc p2 = .ok (.lcmp, 1)) (hd : decode cc (p2 + 1) = .ok (.ifCond .gt off, 3)) (ht : ((p2 + 1 : Nat) : Int) + off = (pF : Int)) (hp : p2 + 1 + 3 = pT) : CC K d pc (b_lcmp r_le0 a b) pT pF := by
  intro env h bv h' he st hst k
  obtain ⟨⟨v1, ha⟩, e1, he⟩ := Option.bind_eq_some_iff.mp he
  obtain ⟨⟨v2, hb⟩, e2, he⟩ := Option.bind_eq_some_iff.mp he
  obtain ⟨x, e3, he⟩ := Option.bind_eq_some_iff.mp he
  obtain ⟨y, e4, he⟩ := Option.map_eq_some_iff.mp he
  cases he
  have q3 := x_long_spec e3
  have q4 := x_long_spec e4
  dsimp only at q3 q4
  subst q3; subst q4; subst hp
  refine h1 _ _ _ _ e1 st hst (h2 _ _ _ _ e2 _ (cat_cons _ hst) (g_lcmp C hd0 (g_if_gt C hd ht ?_)))
  unfold r_le0 at k
  simp only [decide_eq_true_eq] at k
  by_cases hq : lg_cmp x y ≤ 0
  · rw [if_pos hq] at k; rw [if_neg (by simpa [Int32.not_lt, Int32.not_le] using hq)]; exact k
  · rw [if_neg hq] at k; rw [if_pos (by simpa [Int32.not_lt, Int32.not_le] using hq)]; exact k
end XL
