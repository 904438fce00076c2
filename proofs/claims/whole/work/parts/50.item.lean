/-! the text's items, its first fault; what is laid (the class) -/
theorem ret_Z0 (env : XE) (h : XH) : s_retZ (e_lit 0) env h = some (some (.inr (some (.int 0))), env, h) := by simp only [x_out, s_seq, s_ite, s_ret, s_retZ, s_retV, s_iasg, s_aasg, s_lasg, s_inc, s_put, s_putop, s_ast, s_astop, s_exp, s_call, s_skip, s_brk, s_cont, s_oinit, e_lit, e_long, e_il, e_al, e_ll, e_bin, e_un, e_fld, e_ald, e_tern, e_call, e_alen, b_cmp, b_cmp0, b_lcmp, b_and, b_or, b_not, o_add, o_sub, o_mul, o_and, o_or, o_xor, o_shl, o_shr, o_neg, o_i2l, o_l2i, o_i2c, r_eq, r_ne, r_lt, r_ge, r_gt, r_le, r_eq0, r_ne0, r_lt0, r_ge0, r_gt0, r_le0, x_fld, x_int, x_ref, x_long, x_args, x_nar, xKd, xst1, xst2, xlg, Option.bind_some, Option.bind_none, Option.map_some, Option.map_none, List.getElem?_cons_zero, List.getElem?_cons_succ, List.set_cons_zero, List.set_cons_succ, List.length_cons, List.length_nil, List.length_map, List.length_range, List.length_set, decide_eq_true_eq, if_true, if_false, reduceIte, reduceCtorEq, Bool.not_true, Bool.not_false, Bool.false_eq_true, x_ix_nI, ax_get, ax_set, e_aald, s_aast, true_and, and_true, ite_true, ite_false, ↓bI_01, bI_eq0, bI_eq1, bool_or, tern_pure, and_pure, or_pure, bI_def, bne_t, ndf, decide_not, Bool.decide_eq_true, Bool.decide_and, Bool.decide_or, Nat.reduceEqDiff, Nat.reduceAdd, Nat.reduceMul, Nat.reduceSub, Nat.reduceLT, Nat.reduceLeDiff, or_false, false_or, or_true, true_or, and_false, false_and, Bool.or_eq_true, Bool.and_eq_true, Bool.or_false, Bool.or_true, Bool.true_or, Bool.false_or, Bool.and_true, Bool.and_false, Bool.true_and, Bool.false_and, decide_true, decide_false, not_true_eq_false, not_false_eq_true]
theorem ret_Z1 (env : XE) (h : XH) : s_retZ (e_lit 1) env h = some (some (.inr (some (.int 1))), env, h) := by simp only [x_out, s_seq, s_ite, s_ret, s_retZ, s_retV, s_iasg, s_aasg, s_lasg, s_inc, s_put, s_putop, s_ast, s_astop, s_exp, s_call, s_skip, s_brk, s_cont, s_oinit, e_lit, e_long, e_il, e_al, e_ll, e_bin, e_un, e_fld, e_ald, e_tern, e_call, e_alen, b_cmp, b_cmp0, b_lcmp, b_and, b_or, b_not, o_add, o_sub, o_mul, o_and, o_or, o_xor, o_shl, o_shr, o_neg, o_i2l, o_l2i, o_i2c, r_eq, r_ne, r_lt, r_ge, r_gt, r_le, r_eq0, r_ne0, r_lt0, r_ge0, r_gt0, r_le0, x_fld, x_int, x_ref, x_long, x_args, x_nar, xKd, xst1, xst2, xlg, Option.bind_some, Option.bind_none, Option.map_some, Option.map_none, List.getElem?_cons_zero, List.getElem?_cons_succ, List.set_cons_zero, List.set_cons_succ, List.length_cons, List.length_nil, List.length_map, List.length_range, List.length_set, decide_eq_true_eq, if_true, if_false, reduceIte, reduceCtorEq, Bool.not_true, Bool.not_false, Bool.false_eq_true, x_ix_nI, ax_get, ax_set, e_aald, s_aast, true_and, and_true, ite_true, ite_false, ↓bI_01, bI_eq0, bI_eq1, bool_or, tern_pure, and_pure, or_pure, bI_def, bne_t, ndf, decide_not, Bool.decide_eq_true, Bool.decide_and, Bool.decide_or, Nat.reduceEqDiff, Nat.reduceAdd, Nat.reduceMul, Nat.reduceSub, Nat.reduceLT, Nat.reduceLeDiff, or_false, false_or, or_true, true_or, and_false, false_and, Bool.or_eq_true, Bool.and_eq_true, Bool.or_false, Bool.or_true, Bool.true_or, Bool.false_or, Bool.and_true, Bool.and_false, Bool.true_and, Bool.false_and, decide_true, decide_false, not_true_eq_false, not_false_eq_true]
theorem ret_l (v : Int32) (env : XE) (h : XH) : s_ret (e_lit v) env h = some (some (.inr (some (.int v))), env, h) := rfl
theorem skip_n (env : XE) (h : XH) : s_skip env h = some (none, env, h) := rfl
def pClr (J : XP) : XP := (5, 40, 0, 0, J.2.2.2.2)
def pSetF (P : XP) (v : Nat) : XP := (v, P.2)
def pSetB (P : XP) (v : Nat) : XP := (P.1, v, P.2.2)
def pAddS (P : XP) (k a b : Nat) : XP := (pF P, pB P, pN P + 1, pM P, updN (pK P) (pN P) k, updN (pA P) (pN P) a, updN (pZ P) (pN P) b, wK P, wP P, wG P)
def pAddW (P : XP) (k f g : Nat) : XP := (pF P, pB P, pN P, pM P + 1, pK P, pA P, pZ P, updN (wK P) (pM P) k, updN (wP P) (pM P) f, updN (wG P) (pM P) g)
/-- an item's letter, how many numbers, these -/
def tI (P : XP) (fx : Bool) (c n v0 v1 v2 : Nat) : Option (XP × Bool) :=
  if c = 102 then (if fx = false ∧ n = 1 ∧ 1 ≤ v0 ∧ v0 ≤ 8 then some (pSetF P v0, fx) else none)
  else if c = 115 then (if n = 3 ∧ pN P < 9 ∧ v0 ≤ 3 ∧ v1 < pF P ∧ v2 < pF P ∧ v1 ≠ v2 then some (pAddS P v0 v1 v2, true) else none)
  else if c = 119 then (if n = 3 ∧ pM P < 4 ∧ v0 ≤ 3 ∧ v1 < pF P ∧ 1 ≤ v2 ∧ v2 ≤ 9 then some (pAddW P v0 v1 v2, true) else none)
  else if c = 108 then (if n = 1 ∧ 10 ≤ v0 then some (pSetB P v0, true) else none)
  else none
def itC (l : List Nat) (i : Nat) (P : XP) (fx : Bool) : Option (XP × Bool × Nat) := match rnN l 3 (i + 1) with
  | none => none
  | some (vs, j) => (tI P fx (lt l i) vs.length (vs.getD 0 0) (vs.getD 1 0) (vs.getD 2 0)).map fun r => (r.1, r.2, j)
def pf (l : List Nat) : Nat → Nat → XP → Bool → Option Nat × XP
  | 0, _, P, _ => (none, P)
  | m + 1, i, P, fx => if l.length ≤ i then (none, P) else match itC l i P fx with
    | none => (some i, P)
    | some (P', fx', j) => pf l m j P' fx'
def PK (P : XP) (fx : Bool) : Prop := POK P ∧ (fx = false → pN P = 0 ∧ pM P = 0)
theorem pClr_PK (J : XP) : PK (pClr J) false := ⟨⟨by show 1 ≤ 5; omega, by show 5 ≤ 8; omega, by show 10 ≤ 40; omega, by show 40 ≤ 99; omega, by show 0 ≤ 9; omega, by show 0 ≤ 4; omega, fun s hs => absurd (show s < 0 from hs) (by omega), fun s hs => absurd (show s < 0 from hs) (by omega)⟩, fun _ => ⟨rfl, rfl⟩⟩
theorem tI_PK {P P' : XP} {fx fx' : Bool} {c n v0 v1 v2 : Nat} (K : PK P fx) (h : tI P fx c n v0 v1 v2 = some (P', fx')) (hv : v0 ≤ 99) : PK P' fx' := by
  obtain ⟨⟨o1, o2, o3, o4, o5, o6, o7, o8⟩, k⟩ := K
  unfold tI at h
  split at h
  · split at h
    · rename_i q
      cases h
      obtain ⟨k1, k2⟩ := k q.1
      refine ⟨⟨q.2.2.1, q.2.2.2, o3, o4, o5, o6, fun s hs => ?_, fun s hs => ?_⟩, k⟩
      · have : s < pN P := hs
        omega
      · have : s < pM P := hs
        omega
    · cases h
  · split at h
    · split at h
      · rename_i q
        cases h
        obtain ⟨q1, q2, q3, q4, q5, q6⟩ := q
        refine ⟨⟨o1, o2, o3, o4, by show pN P + 1 ≤ 9; omega, o6, fun s hs => ?_, o8⟩, fun z => by cases z⟩
        have hs : s < pN P + 1 := hs
        show updN (pK P) (pN P) v0 s ≤ 3 ∧ updN (pA P) (pN P) v1 s < pF P ∧ updN (pZ P) (pN P) v2 s < pF P ∧ updN (pA P) (pN P) v1 s ≠ updN (pZ P) (pN P) v2 s
        unfold updN
        by_cases e : s = pN P
        · simp only [if_pos e]; exact ⟨q3, q4, q5, q6⟩
        · simp only [if_neg e]; exact o7 s (by omega)
      · cases h
    · split at h
      · split at h
        · rename_i q
          cases h
          obtain ⟨q1, q2, q3, q4, q5, q6⟩ := q
          refine ⟨⟨o1, o2, o3, o4, o5, by show pM P + 1 ≤ 4; omega, o7, fun s hs => ?_⟩, fun z => by cases z⟩
          have hs : s < pM P + 1 := hs
          show updN (wK P) (pM P) v0 s ≤ 3 ∧ updN (wP P) (pM P) v1 s < pF P ∧ 1 ≤ updN (wG P) (pM P) v2 s ∧ updN (wG P) (pM P) v2 s ≤ 9
          unfold updN
          by_cases e : s = pM P
          · simp only [if_pos e]; exact ⟨q3, q4, q5, q6⟩
          · simp only [if_neg e]; exact o8 s (by omega)
        · cases h
      · split at h
        · split at h
          · rename_i q
            cases h
            exact ⟨⟨o1, o2, q.2, hv, o5, o6, o7, o8⟩, fun z => by cases z⟩
          · cases h
        · cases h
theorem itC_spec {l : List Nat} {i j : Nat} {P P' : XP} {fx fx' : Bool} (K : PK P fx) (h : itC l i P fx = some (P', fx', j)) : PK P' fx' ∧ i < j ∧ j ≤ l.length := by
  unfold itC at h
  split at h
  · cases h
  · rename_i vs j' e
    obtain ⟨r, hr, h⟩ := Option.map_eq_some_iff.mp h
    cases h
    obtain ⟨h1, h2, h3, h4, h5⟩ := rnN_spec e
    refine ⟨tI_PK K hr ?_, by omega, h2⟩
    cases vs with
    | nil => simp at h4
    | cons a t => exact h5 a (by simp)
theorem pf_K {l : List Nat} : ∀ {m i : Nat} {P : XP} {fx : Bool}, PK P fx → POK (pf l m i P fx).2 := by
  intro m
  induction m with
  | zero => intro i P fx K; exact K.1
  | succ m ih =>
    intro i P fx K
    simp only [pf]
    split
    · exact K.1
    · split
      · exact K.1
      · rename_i P' fx' j e
        exact ih (itC_spec K e).1
theorem pf_le {l : List Nat} : ∀ {m i k : Nat} {P : XP} {fx : Bool}, (pf l m i P fx).1 = some k → k < l.length := by
  intro m
  induction m with
  | zero => intro i k P fx h; cases h
  | succ m ih =>
    intro i k P fx h
    simp only [pf] at h
    split at h
    · cases h
    · split at h
      · cases h; omega
      · exact ih h
theorem nI_all (x : Int32) : ∃ k : Nat, x = nI k := ⟨x.toBitVec.toNat, Int32.toBitVec_inj.mp (by show x.toBitVec = BitVec.ofNat 32 _; rw [BitVec.ofNat_toNat, BitVec.setWidth_eq])⟩
theorem arr_all (n : Nat) (f : Nat → Int32) : ∃ g : Nat → Nat, arr n f = arr n fun i => nI (g i) := ⟨fun i => (f i).toBitVec.toNat, ax_ext fun i _ => Int32.toBitVec_inj.mp (by show (f i).toBitVec = BitVec.ofNat 32 _; rw [BitVec.ofNat_toNat, BitVec.setWidth_eq])⟩
theorem PAny.at {h : XH} {p : Nat} (H : PAny h p) : ∃ P, PAt h p P := by
  obtain ⟨⟨x1, x2, x3, x4, g0⟩, ⟨f1, g1⟩, ⟨f2, g2⟩, ⟨f3, g3⟩, ⟨f4, g4⟩, ⟨f5, g5⟩, f6, g6⟩ := H
  obtain ⟨k1, rfl⟩ := nI_all x1
  obtain ⟨k2, rfl⟩ := nI_all x2
  obtain ⟨k3, rfl⟩ := nI_all x3
  obtain ⟨k4, rfl⟩ := nI_all x4
  obtain ⟨e1, w1⟩ := arr_all 9 f1
  obtain ⟨e2, w2⟩ := arr_all 9 f2
  obtain ⟨e3, w3⟩ := arr_all 9 f3
  obtain ⟨e4, w4⟩ := arr_all 4 f4
  obtain ⟨e5, w5⟩ := arr_all 4 f5
  obtain ⟨e6, w6⟩ := arr_all 4 f6
  exact ⟨(k1, k2, k3, k4, e1, e2, e3, e4, e5, e6), g0, g1.trans (congrArg some w1), g2.trans (congrArg some w2), g3.trans (congrArg some w3), g4.trans (congrArg some w4), g5.trans (congrArg some w5), g6.trans (congrArg some w6)⟩
theorem PAt.any {h : XH} {p : Nat} {P : XP} (H : PAt h p P) : PAny h p := by
  obtain ⟨h0, h1, h2, h3, h4, h5, h6⟩ := H
  exact ⟨⟨_, _, _, _, h0⟩, ⟨_, h1⟩, ⟨_, h2⟩, ⟨_, h3⟩, ⟨_, h4⟩, ⟨_, h5⟩, _, h6⟩
section PS
variable {h : XH} {p : Nat} {P : XP}
theorem PAt.len (H : PAt h p P) : p + 6 < h.length := (List.getElem?_eq_some_iff.mp H.2.2.2.2.2.2).1
def pObj (p F B N M : Nat) : XC := .inl (4, [.int (nI F), .int (nI B), .int (nI N), .int (nI M), .ref (p + 1), .ref (p + 2), .ref (p + 3), .ref (p + 4), .ref (p + 5), .ref (p + 6)])
theorem PAt.set0 (H : PAt h p P) (F B N M : Nat) : PAt (h.set p (pObj p F B N M)) p (F, B, N, M, P.2.2.2.2) ∧ xFr (pCells p) h (h.set p (pObj p F B N M)) := by
  obtain ⟨h0, h1, h2, h3, h4, h5, h6⟩ := H
  refine ⟨⟨set_at h0, ?_, ?_, ?_, ?_, ?_, ?_⟩, (xFr.set h0 (by rfl)).mono fun b hb => by subst hb; exact ⟨by omega, by omega⟩⟩ <;> (rw [set_ne (by omega)]; assumption)
theorem updN_nI (f : Nat → Nat) (k v : Nat) (n : Nat) : arr n (upd (fun i => nI (f i)) k (nI v)) = arr n fun i => nI (updN f k v i) := ax_ext fun i _ => by unfold upd updN; split <;> rfl
theorem addS1 (H : PAt h p P) (k a b : Nat) : ∃ h3, ((h.set (p + 1) (arr 9 (upd (fun i => nI (pK P i)) (pN P) (nI k)))).set (p + 2) (arr 9 (upd (fun i => nI (pA P i)) (pN P) (nI a)))).set (p + 3) (arr 9 (upd (fun i => nI (pZ P i)) (pN P) (nI b))) = h3 ∧ PAt h3 p (pF P, pB P, pN P, pM P, updN (pK P) (pN P) k, updN (pA P) (pN P) a, updN (pZ P) (pN P) b, wK P, wP P, wG P) ∧ xFr (pCells p) h h3 := by
  obtain ⟨h0, h1, h2, h3, h4, h5, h6⟩ := H
  rw [updN_nI, updN_nI, updN_nI]
  have F1 := xFr.set h1 (c' := arr 9 fun i => nI (updN (pK P) (pN P) k i)) (by simp [arr, xSz])
  have g2 := (set_ne (c' := arr 9 fun i => nI (updN (pK P) (pN P) k i)) (show p + 1 ≠ p + 2 by omega)).trans h2
  have F2 := xFr.set g2 (c' := arr 9 fun i => nI (updN (pA P) (pN P) a i)) (by simp [arr, xSz])
  have g3 := (set_ne (c' := arr 9 fun i => nI (updN (pA P) (pN P) a i)) (show p + 2 ≠ p + 3 by omega)).trans ((set_ne (c' := arr 9 fun i => nI (updN (pK P) (pN P) k i)) (show p + 1 ≠ p + 3 by omega)).trans h3)
  have F3 := xFr.set g3 (c' := arr 9 fun i => nI (updN (pZ P) (pN P) b i)) (by simp [arr, xSz])
  refine ⟨_, rfl, ⟨?_, ?_, ?_, set_at g3, ?_, ?_, ?_⟩, ((F1.trans F2).trans F3).mono fun b hb => ?_⟩
  · rw [set_ne (by omega), set_ne (by omega), set_ne (by omega)]; exact h0
  · rw [set_ne (by omega), set_ne (by omega), set_at h1]; rfl
  · rw [set_ne (by omega), set_at g2]; rfl
  · rw [set_ne (by omega), set_ne (by omega), set_ne (by omega)]; exact h4
  · rw [set_ne (by omega), set_ne (by omega), set_ne (by omega)]; exact h5
  · rw [set_ne (by omega), set_ne (by omega), set_ne (by omega)]; exact h6
  · rcases hb with (hb | hb) | hb <;> subst hb <;> exact ⟨by omega, by omega⟩
theorem addW1 (H : PAt h p P) (k a b : Nat) : ∃ h3, ((h.set (p + 4) (arr 4 (upd (fun i => nI (wK P i)) (pM P) (nI k)))).set (p + 5) (arr 4 (upd (fun i => nI (wP P i)) (pM P) (nI a)))).set (p + 6) (arr 4 (upd (fun i => nI (wG P i)) (pM P) (nI b))) = h3 ∧ PAt h3 p (pF P, pB P, pN P, pM P, pK P, pA P, pZ P, updN (wK P) (pM P) k, updN (wP P) (pM P) a, updN (wG P) (pM P) b) ∧ xFr (pCells p) h h3 := by
  obtain ⟨h0, h1, h2, h3, h4, h5, h6⟩ := H
  rw [updN_nI, updN_nI, updN_nI]
  have F1 := xFr.set h4 (c' := arr 4 fun i => nI (updN (wK P) (pM P) k i)) (by simp [arr, xSz])
  have g2 := (set_ne (c' := arr 4 fun i => nI (updN (wK P) (pM P) k i)) (show p + 4 ≠ p + 5 by omega)).trans h5
  have F2 := xFr.set g2 (c' := arr 4 fun i => nI (updN (wP P) (pM P) a i)) (by simp [arr, xSz])
  have g3 := (set_ne (c' := arr 4 fun i => nI (updN (wP P) (pM P) a i)) (show p + 5 ≠ p + 6 by omega)).trans ((set_ne (c' := arr 4 fun i => nI (updN (wK P) (pM P) k i)) (show p + 4 ≠ p + 6 by omega)).trans h6)
  have F3 := xFr.set g3 (c' := arr 4 fun i => nI (updN (wG P) (pM P) b i)) (by simp [arr, xSz])
  refine ⟨_, rfl, ⟨?_, ?_, ?_, ?_, ?_, ?_, set_at g3⟩, ((F1.trans F2).trans F3).mono fun b hb => ?_⟩
  · rw [set_ne (by omega), set_ne (by omega), set_ne (by omega)]; exact h0
  · rw [set_ne (by omega), set_ne (by omega), set_ne (by omega)]; exact h1
  · rw [set_ne (by omega), set_ne (by omega), set_ne (by omega)]; exact h2
  · rw [set_ne (by omega), set_ne (by omega), set_ne (by omega)]; exact h3
  · rw [set_ne (by omega), set_ne (by omega), set_at h4]; rfl
  · rw [set_ne (by omega), set_at g2]; rfl
  · rcases hb with (hb | hb) | hb <;> subst hb <;> exact ⟨by omega, by omega⟩
def cS (P : XP) (k a b : Nat) : Bool := !((((decide (9 ≤ pN P) || decide (3 < k)) || !decide (a < pF P)) || !decide (b < pF P)) || decide (a = b))
def cWk (P : XP) (k f g : Nat) : Bool := !((((decide (4 ≤ pM P) || decide (3 < k)) || !decide (f < pF P)) || decide (g < 1)) || decide (9 < g))
theorem hasField_n (H : PAt h p P) (O : POK P) {a : Nat} (ha : a ≤ 99) : (b_not (b_cmp0 r_ne0 (e_call m_X4_hasField [(e_al 0), (e_il 2)]))) = (b_not (b_cmp0 r_ne0 (e_call m_X4_hasField [(e_al 0), (e_il 2)]))) ∧ m_X4_hasField [.ref p, .int (nI a)] h = some (some (.int (bI (decide (a < pF P)))), h) := by
  have e := hasField_x H (nI a)
  have o2 := O.2.1
  have e1 : decide (0 ≤ nI a) = true := decide_eq_true (nI_pos' (by omega))
  have e2 : decide (nI a < nI (pF P)) = decide (a < pF P) := by simp only [nI_ltI (show a < 2 ^ 31 by omega) (show pF P < 2 ^ 31 by omega)]
  rw [e1, e2, Bool.true_and] at e
  exact ⟨rfl, e⟩
theorem addStile_x (H : PAt h p P) (O : POK P) {k a b : Nat} (hk : k ≤ 99) (ha : a ≤ 99) (hb : b ≤ 99) : ∃ h', m_X4_addStile [.ref p, .int (nI k), .int (nI a), .int (nI b)] h = some (some (.int (bI (cS P k a b))), h') ∧ PAt h' p (if cS P k a b = true then pAddS P k a b else P) ∧ xFr (pCells p) h h' := by
  have o5 := O.2.2.2.2.1
  have h0 := H.1
  have f1 := (hasField_n H O ha).2
  have f2 := (hasField_n H O hb).2
  have c1 : (b_or (b_or (b_or (b_or (b_cmp r_ge (e_fld 4 2 (e_al 0)) (e_lit 9)) (b_cmp r_gt (e_il 1) (e_lit 3))) (b_not (b_cmp0 r_ne0 (e_call m_X4_hasField [(e_al 0), (e_il 2)])))) (b_not (b_cmp0 r_ne0 (e_call m_X4_hasField [(e_al 0), (e_il 3)])))) (b_cmp r_eq (e_il 2) (e_il 3))) [some (.ref p), some (.int (nI k)), some (.int (nI a)), some (.int (nI b))] h = some (!cS P k a b, h) := by
    unfold cS
    rw [Bool.not_not]
    exact b_or_p (b_or_p (b_or_p (b_or_p (by simp (disch := omega) only [x_out, s_seq, s_ite, s_ret, s_retZ, s_retV, s_iasg, s_aasg, s_lasg, s_inc, s_put, s_putop, s_ast, s_astop, s_exp, s_call, s_skip, s_brk, s_cont, s_oinit, e_lit, e_long, e_il, e_al, e_ll, e_bin, e_un, e_fld, e_ald, e_tern, e_call, e_alen, b_cmp, b_cmp0, b_lcmp, b_and, b_or, b_not, o_add, o_sub, o_mul, o_and, o_or, o_xor, o_shl, o_shr, o_neg, o_i2l, o_l2i, o_i2c, r_eq, r_ne, r_lt, r_ge, r_gt, r_le, r_eq0, r_ne0, r_lt0, r_ge0, r_gt0, r_le0, x_fld, x_int, x_ref, x_long, x_args, x_nar, xKd, xst1, xst2, xlg, Option.bind_some, Option.bind_none, Option.map_some, Option.map_none, List.getElem?_cons_zero, List.getElem?_cons_succ, List.set_cons_zero, List.set_cons_succ, List.length_cons, List.length_nil, List.length_map, List.length_range, List.length_set, decide_eq_true_eq, if_true, if_false, reduceIte, reduceCtorEq, Bool.not_true, Bool.not_false, Bool.false_eq_true, x_ix_nI, ax_get, ax_set, e_aald, s_aast, true_and, and_true, ite_true, ite_false, ↓bI_01, bI_eq0, bI_eq1, bool_or, tern_pure, and_pure, or_pure, bI_def, bne_t, ndf, decide_not, Bool.decide_eq_true, Bool.decide_and, Bool.decide_or, Nat.reduceEqDiff, Nat.reduceAdd, Nat.reduceMul, Nat.reduceSub, Nat.reduceLT, Nat.reduceLeDiff, or_false, false_or, or_true, true_or, and_false, false_and, Bool.or_eq_true, Bool.and_eq_true, Bool.or_false, Bool.or_true, Bool.true_or, Bool.false_or, Bool.and_true, Bool.and_false, Bool.true_and, Bool.false_and, decide_true, decide_false, not_true_eq_false, not_false_eq_true, l9, nI_leI, h0]) (fun _ => by simp (disch := omega) only [x_out, s_seq, s_ite, s_ret, s_retZ, s_retV, s_iasg, s_aasg, s_lasg, s_inc, s_put, s_putop, s_ast, s_astop, s_exp, s_call, s_skip, s_brk, s_cont, s_oinit, e_lit, e_long, e_il, e_al, e_ll, e_bin, e_un, e_fld, e_ald, e_tern, e_call, e_alen, b_cmp, b_cmp0, b_lcmp, b_and, b_or, b_not, o_add, o_sub, o_mul, o_and, o_or, o_xor, o_shl, o_shr, o_neg, o_i2l, o_l2i, o_i2c, r_eq, r_ne, r_lt, r_ge, r_gt, r_le, r_eq0, r_ne0, r_lt0, r_ge0, r_gt0, r_le0, x_fld, x_int, x_ref, x_long, x_args, x_nar, xKd, xst1, xst2, xlg, Option.bind_some, Option.bind_none, Option.map_some, Option.map_none, List.getElem?_cons_zero, List.getElem?_cons_succ, List.set_cons_zero, List.set_cons_succ, List.length_cons, List.length_nil, List.length_map, List.length_range, List.length_set, decide_eq_true_eq, if_true, if_false, reduceIte, reduceCtorEq, Bool.not_true, Bool.not_false, Bool.false_eq_true, x_ix_nI, ax_get, ax_set, e_aald, s_aast, true_and, and_true, ite_true, ite_false, ↓bI_01, bI_eq0, bI_eq1, bool_or, tern_pure, and_pure, or_pure, bI_def, bne_t, ndf, decide_not, Bool.decide_eq_true, Bool.decide_and, Bool.decide_or, Nat.reduceEqDiff, Nat.reduceAdd, Nat.reduceMul, Nat.reduceSub, Nat.reduceLT, Nat.reduceLeDiff, or_false, false_or, or_true, true_or, and_false, false_and, Bool.or_eq_true, Bool.and_eq_true, Bool.or_false, Bool.or_true, Bool.true_or, Bool.false_or, Bool.and_true, Bool.and_false, Bool.true_and, Bool.false_and, decide_true, decide_false, not_true_eq_false, not_false_eq_true, l3, nI_ltI])) (fun _ => by simp only [x_out, s_seq, s_ite, s_ret, s_retZ, s_retV, s_iasg, s_aasg, s_lasg, s_inc, s_put, s_putop, s_ast, s_astop, s_exp, s_call, s_skip, s_brk, s_cont, s_oinit, e_lit, e_long, e_il, e_al, e_ll, e_bin, e_un, e_fld, e_ald, e_tern, e_call, e_alen, b_cmp, b_cmp0, b_lcmp, b_and, b_or, b_not, o_add, o_sub, o_mul, o_and, o_or, o_xor, o_shl, o_shr, o_neg, o_i2l, o_l2i, o_i2c, r_eq, r_ne, r_lt, r_ge, r_gt, r_le, r_eq0, r_ne0, r_lt0, r_ge0, r_gt0, r_le0, x_fld, x_int, x_ref, x_long, x_args, x_nar, xKd, xst1, xst2, xlg, Option.bind_some, Option.bind_none, Option.map_some, Option.map_none, List.getElem?_cons_zero, List.getElem?_cons_succ, List.set_cons_zero, List.set_cons_succ, List.length_cons, List.length_nil, List.length_map, List.length_range, List.length_set, decide_eq_true_eq, if_true, if_false, reduceIte, reduceCtorEq, Bool.not_true, Bool.not_false, Bool.false_eq_true, x_ix_nI, ax_get, ax_set, e_aald, s_aast, true_and, and_true, ite_true, ite_false, ↓bI_01, bI_eq0, bI_eq1, bool_or, tern_pure, and_pure, or_pure, bI_def, bne_t, ndf, decide_not, Bool.decide_eq_true, Bool.decide_and, Bool.decide_or, Nat.reduceEqDiff, Nat.reduceAdd, Nat.reduceMul, Nat.reduceSub, Nat.reduceLT, Nat.reduceLeDiff, or_false, false_or, or_true, true_or, and_false, false_and, Bool.or_eq_true, Bool.and_eq_true, Bool.or_false, Bool.or_true, Bool.true_or, Bool.false_or, Bool.and_true, Bool.and_false, Bool.true_and, Bool.false_and, decide_true, decide_false, not_true_eq_false, not_false_eq_true, f1])) (fun _ => by simp only [x_out, s_seq, s_ite, s_ret, s_retZ, s_retV, s_iasg, s_aasg, s_lasg, s_inc, s_put, s_putop, s_ast, s_astop, s_exp, s_call, s_skip, s_brk, s_cont, s_oinit, e_lit, e_long, e_il, e_al, e_ll, e_bin, e_un, e_fld, e_ald, e_tern, e_call, e_alen, b_cmp, b_cmp0, b_lcmp, b_and, b_or, b_not, o_add, o_sub, o_mul, o_and, o_or, o_xor, o_shl, o_shr, o_neg, o_i2l, o_l2i, o_i2c, r_eq, r_ne, r_lt, r_ge, r_gt, r_le, r_eq0, r_ne0, r_lt0, r_ge0, r_gt0, r_le0, x_fld, x_int, x_ref, x_long, x_args, x_nar, xKd, xst1, xst2, xlg, Option.bind_some, Option.bind_none, Option.map_some, Option.map_none, List.getElem?_cons_zero, List.getElem?_cons_succ, List.set_cons_zero, List.set_cons_succ, List.length_cons, List.length_nil, List.length_map, List.length_range, List.length_set, decide_eq_true_eq, if_true, if_false, reduceIte, reduceCtorEq, Bool.not_true, Bool.not_false, Bool.false_eq_true, x_ix_nI, ax_get, ax_set, e_aald, s_aast, true_and, and_true, ite_true, ite_false, ↓bI_01, bI_eq0, bI_eq1, bool_or, tern_pure, and_pure, or_pure, bI_def, bne_t, ndf, decide_not, Bool.decide_eq_true, Bool.decide_and, Bool.decide_or, Nat.reduceEqDiff, Nat.reduceAdd, Nat.reduceMul, Nat.reduceSub, Nat.reduceLT, Nat.reduceLeDiff, or_false, false_or, or_true, true_or, and_false, false_and, Bool.or_eq_true, Bool.and_eq_true, Bool.or_false, Bool.or_true, Bool.true_or, Bool.false_or, Bool.and_true, Bool.and_false, Bool.true_and, Bool.false_and, decide_true, decide_false, not_true_eq_false, not_false_eq_true, f2])) (fun _ => by simp (disch := omega) only [x_out, s_seq, s_ite, s_ret, s_retZ, s_retV, s_iasg, s_aasg, s_lasg, s_inc, s_put, s_putop, s_ast, s_astop, s_exp, s_call, s_skip, s_brk, s_cont, s_oinit, e_lit, e_long, e_il, e_al, e_ll, e_bin, e_un, e_fld, e_ald, e_tern, e_call, e_alen, b_cmp, b_cmp0, b_lcmp, b_and, b_or, b_not, o_add, o_sub, o_mul, o_and, o_or, o_xor, o_shl, o_shr, o_neg, o_i2l, o_l2i, o_i2c, r_eq, r_ne, r_lt, r_ge, r_gt, r_le, r_eq0, r_ne0, r_lt0, r_ge0, r_gt0, r_le0, x_fld, x_int, x_ref, x_long, x_args, x_nar, xKd, xst1, xst2, xlg, Option.bind_some, Option.bind_none, Option.map_some, Option.map_none, List.getElem?_cons_zero, List.getElem?_cons_succ, List.set_cons_zero, List.set_cons_succ, List.length_cons, List.length_nil, List.length_map, List.length_range, List.length_set, decide_eq_true_eq, if_true, if_false, reduceIte, reduceCtorEq, Bool.not_true, Bool.not_false, Bool.false_eq_true, x_ix_nI, ax_get, ax_set, e_aald, s_aast, true_and, and_true, ite_true, ite_false, ↓bI_01, bI_eq0, bI_eq1, bool_or, tern_pure, and_pure, or_pure, bI_def, bne_t, ndf, decide_not, Bool.decide_eq_true, Bool.decide_and, Bool.decide_or, Nat.reduceEqDiff, Nat.reduceAdd, Nat.reduceMul, Nat.reduceSub, Nat.reduceLT, Nat.reduceLeDiff, or_false, false_or, or_true, true_or, and_false, false_and, Bool.or_eq_true, Bool.and_eq_true, Bool.or_false, Bool.or_true, Bool.true_or, Bool.false_or, Bool.and_true, Bool.and_false, Bool.true_and, Bool.false_and, decide_true, decide_false, not_true_eq_false, not_false_eq_true, nI_eq])
  cases q : cS P k a b with
  | false =>
    rw [q] at c1
    refine ⟨h, ?_, by rw [if_neg (by simp)]; exact H, xFr.rf _ _⟩
    refine xM_run (env := [some (.ref p), some (.int (nI k)), some (.int (nI a)), some (.int (nI b))]) h0 rfl rfl (Nat.le_of_ble_eq_true rfl) rfl ?_ rfl
    unfold bd_X4_addStile
    rw [s_seq_r ((s_ite_t c1).trans (ret_Z0 _ _))]
    rfl
  | true =>
    rw [q] at c1
    obtain ⟨h3, e3, H3, F3⟩ := addS1 H k a b
    obtain ⟨H4, F4⟩ := H3.set0 (pF P) (pB P) (pN P + 1) (pM P)
    have hn : pN P < 9 := by
      unfold cS at q
      simp only [Bool.not_eq_true', Bool.or_eq_false_iff, decide_eq_false_iff_not] at q
      omega
    have r1 := ax_row H.2.1
    have r2 := ax_row H.2.2.1
    have r3 := ax_row H.2.2.2.1
    have h30 := H3.1
    have sS : (s_seq (s_ast 0 (e_fld 4 4 (e_al 0)) (e_fld 4 2 (e_al 0)) (e_il 1)) (s_seq (s_ast 0 (e_fld 4 5 (e_al 0)) (e_fld 4 2 (e_al 0)) (e_il 2)) (s_ast 0 (e_fld 4 6 (e_al 0)) (e_fld 4 2 (e_al 0)) (e_il 3)))) [some (.ref p), some (.int (nI k)), some (.int (nI a)), some (.int (nI b))] h = some (none, [some (.ref p), some (.int (nI k)), some (.int (nI a)), some (.int (nI b))], h3) := by
      rw [← e3]
      simp (disch := omega) only [x_out, s_seq, s_ite, s_ret, s_retZ, s_retV, s_iasg, s_aasg, s_lasg, s_inc, s_put, s_putop, s_ast, s_astop, s_exp, s_call, s_skip, s_brk, s_cont, s_oinit, e_lit, e_long, e_il, e_al, e_ll, e_bin, e_un, e_fld, e_ald, e_tern, e_call, e_alen, b_cmp, b_cmp0, b_lcmp, b_and, b_or, b_not, o_add, o_sub, o_mul, o_and, o_or, o_xor, o_shl, o_shr, o_neg, o_i2l, o_l2i, o_i2c, r_eq, r_ne, r_lt, r_ge, r_gt, r_le, r_eq0, r_ne0, r_lt0, r_ge0, r_gt0, r_le0, x_fld, x_int, x_ref, x_long, x_args, x_nar, xKd, xst1, xst2, xlg, Option.bind_some, Option.bind_none, Option.map_some, Option.map_none, List.getElem?_cons_zero, List.getElem?_cons_succ, List.set_cons_zero, List.set_cons_succ, List.length_cons, List.length_nil, List.length_map, List.length_range, List.length_set, decide_eq_true_eq, if_true, if_false, reduceIte, reduceCtorEq, Bool.not_true, Bool.not_false, Bool.false_eq_true, x_ix_nI, ax_get, ax_set, e_aald, s_aast, true_and, and_true, ite_true, ite_false, ↓bI_01, bI_eq0, bI_eq1, bool_or, tern_pure, and_pure, or_pure, bI_def, bne_t, ndf, decide_not, Bool.decide_eq_true, Bool.decide_and, Bool.decide_or, Nat.reduceEqDiff, Nat.reduceAdd, Nat.reduceMul, Nat.reduceSub, Nat.reduceLT, Nat.reduceLeDiff, or_false, false_or, or_true, true_or, and_false, false_and, Bool.or_eq_true, Bool.and_eq_true, Bool.or_false, Bool.or_true, Bool.true_or, Bool.false_or, Bool.and_true, Bool.and_false, Bool.true_and, Bool.false_and, decide_true, decide_false, not_true_eq_false, not_false_eq_true, h0, hn, r1, r2, r3, x_row_ne, List.getElem?_set_ne, ax_def]
    refine ⟨_, ?_, by rw [if_pos rfl]; exact H4, (F3.trans F4).mono fun b hb => hb.elim id id⟩
    refine xM_run (env := [some (.ref p), some (.int (nI k)), some (.int (nI a)), some (.int (nI b))]) h0 rfl rfl (Nat.le_of_ble_eq_true rfl) rfl ?_ rfl
    have sS2 : ∀ rest : XS, (s_seq (s_ast 0 (e_fld 4 4 (e_al 0)) (e_fld 4 2 (e_al 0)) (e_il 1)) (s_seq (s_ast 0 (e_fld 4 5 (e_al 0)) (e_fld 4 2 (e_al 0)) (e_il 2)) (s_seq (s_ast 0 (e_fld 4 6 (e_al 0)) (e_fld 4 2 (e_al 0)) (e_il 3)) rest))) [some (.ref p), some (.int (nI k)), some (.int (nI a)), some (.int (nI b))] h = rest [some (.ref p), some (.int (nI k)), some (.int (nI a)), some (.int (nI b))] h3 := fun rest => by
      rw [← e3]
      simp (disch := omega) only [x_out, s_seq, s_ite, s_ret, s_retZ, s_retV, s_iasg, s_aasg, s_lasg, s_inc, s_put, s_putop, s_ast, s_astop, s_exp, s_call, s_skip, s_brk, s_cont, s_oinit, e_lit, e_long, e_il, e_al, e_ll, e_bin, e_un, e_fld, e_ald, e_tern, e_call, e_alen, b_cmp, b_cmp0, b_lcmp, b_and, b_or, b_not, o_add, o_sub, o_mul, o_and, o_or, o_xor, o_shl, o_shr, o_neg, o_i2l, o_l2i, o_i2c, r_eq, r_ne, r_lt, r_ge, r_gt, r_le, r_eq0, r_ne0, r_lt0, r_ge0, r_gt0, r_le0, x_fld, x_int, x_ref, x_long, x_args, x_nar, xKd, xst1, xst2, xlg, Option.bind_some, Option.bind_none, Option.map_some, Option.map_none, List.getElem?_cons_zero, List.getElem?_cons_succ, List.set_cons_zero, List.set_cons_succ, List.length_cons, List.length_nil, List.length_map, List.length_range, List.length_set, decide_eq_true_eq, if_true, if_false, reduceIte, reduceCtorEq, Bool.not_true, Bool.not_false, Bool.false_eq_true, x_ix_nI, ax_get, ax_set, e_aald, s_aast, true_and, and_true, ite_true, ite_false, ↓bI_01, bI_eq0, bI_eq1, bool_or, tern_pure, and_pure, or_pure, bI_def, bne_t, ndf, decide_not, Bool.decide_eq_true, Bool.decide_and, Bool.decide_or, Nat.reduceEqDiff, Nat.reduceAdd, Nat.reduceMul, Nat.reduceSub, Nat.reduceLT, Nat.reduceLeDiff, or_false, false_or, or_true, true_or, and_false, false_and, Bool.or_eq_true, Bool.and_eq_true, Bool.or_false, Bool.or_true, Bool.true_or, Bool.false_or, Bool.and_true, Bool.and_false, Bool.true_and, Bool.false_and, decide_true, decide_false, not_true_eq_false, not_false_eq_true, h0, hn, r1, r2, r3, x_row_ne, List.getElem?_set_ne, ax_def]
    unfold bd_X4_addStile
    rw [s_seq_n ((s_ite_f c1).trans (show s_skip _ h = some (none, _, h) from rfl)), sS2]
    simp (disch := omega) only [x_out, s_seq, s_ite, s_ret, s_retZ, s_retV, s_iasg, s_aasg, s_lasg, s_inc, s_put, s_putop, s_ast, s_astop, s_exp, s_call, s_skip, s_brk, s_cont, s_oinit, e_lit, e_long, e_il, e_al, e_ll, e_bin, e_un, e_fld, e_ald, e_tern, e_call, e_alen, b_cmp, b_cmp0, b_lcmp, b_and, b_or, b_not, o_add, o_sub, o_mul, o_and, o_or, o_xor, o_shl, o_shr, o_neg, o_i2l, o_l2i, o_i2c, r_eq, r_ne, r_lt, r_ge, r_gt, r_le, r_eq0, r_ne0, r_lt0, r_ge0, r_gt0, r_le0, x_fld, x_int, x_ref, x_long, x_args, x_nar, xKd, xst1, xst2, xlg, Option.bind_some, Option.bind_none, Option.map_some, Option.map_none, List.getElem?_cons_zero, List.getElem?_cons_succ, List.set_cons_zero, List.set_cons_succ, List.length_cons, List.length_nil, List.length_map, List.length_range, List.length_set, decide_eq_true_eq, if_true, if_false, reduceIte, reduceCtorEq, Bool.not_true, Bool.not_false, Bool.false_eq_true, x_ix_nI, ax_get, ax_set, e_aald, s_aast, true_and, and_true, ite_true, ite_false, ↓bI_01, bI_eq0, bI_eq1, bool_or, tern_pure, and_pure, or_pure, bI_def, bne_t, ndf, decide_not, Bool.decide_eq_true, Bool.decide_and, Bool.decide_or, Nat.reduceEqDiff, Nat.reduceAdd, Nat.reduceMul, Nat.reduceSub, Nat.reduceLT, Nat.reduceLeDiff, or_false, false_or, or_true, true_or, and_false, false_and, Bool.or_eq_true, Bool.and_eq_true, Bool.or_false, Bool.or_true, Bool.true_or, Bool.false_or, Bool.and_true, Bool.and_false, Bool.true_and, Bool.false_and, decide_true, decide_false, not_true_eq_false, not_false_eq_true, h30, nI_1]
    rfl
theorem addWalker_x (H : PAt h p P) (O : POK P) {k a b : Nat} (hk : k ≤ 99) (ha : a ≤ 99) (hb : b ≤ 99) : ∃ h', m_X4_addWalker [.ref p, .int (nI k), .int (nI a), .int (nI b)] h = some (some (.int (bI (cWk P k a b))), h') ∧ PAt h' p (if cWk P k a b = true then pAddW P k a b else P) ∧ xFr (pCells p) h h' := by
  have o6 := O.2.2.2.2.2.1
  have h0 := H.1
  have f1 := (hasField_n H O ha).2
  have c1 : (b_or (b_or (b_or (b_or (b_cmp r_ge (e_fld 4 3 (e_al 0)) (e_lit 4)) (b_cmp r_gt (e_il 1) (e_lit 3))) (b_not (b_cmp0 r_ne0 (e_call m_X4_hasField [(e_al 0), (e_il 2)])))) (b_cmp r_lt (e_il 3) (e_lit 1))) (b_cmp r_gt (e_il 3) (e_lit 9))) [some (.ref p), some (.int (nI k)), some (.int (nI a)), some (.int (nI b))] h = some (!cWk P k a b, h) := by
    unfold cWk
    rw [Bool.not_not]
    exact b_or_p (b_or_p (b_or_p (b_or_p (by simp (disch := omega) only [x_out, s_seq, s_ite, s_ret, s_retZ, s_retV, s_iasg, s_aasg, s_lasg, s_inc, s_put, s_putop, s_ast, s_astop, s_exp, s_call, s_skip, s_brk, s_cont, s_oinit, e_lit, e_long, e_il, e_al, e_ll, e_bin, e_un, e_fld, e_ald, e_tern, e_call, e_alen, b_cmp, b_cmp0, b_lcmp, b_and, b_or, b_not, o_add, o_sub, o_mul, o_and, o_or, o_xor, o_shl, o_shr, o_neg, o_i2l, o_l2i, o_i2c, r_eq, r_ne, r_lt, r_ge, r_gt, r_le, r_eq0, r_ne0, r_lt0, r_ge0, r_gt0, r_le0, x_fld, x_int, x_ref, x_long, x_args, x_nar, xKd, xst1, xst2, xlg, Option.bind_some, Option.bind_none, Option.map_some, Option.map_none, List.getElem?_cons_zero, List.getElem?_cons_succ, List.set_cons_zero, List.set_cons_succ, List.length_cons, List.length_nil, List.length_map, List.length_range, List.length_set, decide_eq_true_eq, if_true, if_false, reduceIte, reduceCtorEq, Bool.not_true, Bool.not_false, Bool.false_eq_true, x_ix_nI, ax_get, ax_set, e_aald, s_aast, true_and, and_true, ite_true, ite_false, ↓bI_01, bI_eq0, bI_eq1, bool_or, tern_pure, and_pure, or_pure, bI_def, bne_t, ndf, decide_not, Bool.decide_eq_true, Bool.decide_and, Bool.decide_or, Nat.reduceEqDiff, Nat.reduceAdd, Nat.reduceMul, Nat.reduceSub, Nat.reduceLT, Nat.reduceLeDiff, or_false, false_or, or_true, true_or, and_false, false_and, Bool.or_eq_true, Bool.and_eq_true, Bool.or_false, Bool.or_true, Bool.true_or, Bool.false_or, Bool.and_true, Bool.and_false, Bool.true_and, Bool.false_and, decide_true, decide_false, not_true_eq_false, not_false_eq_true, l4, nI_leI, h0]) (fun _ => by simp (disch := omega) only [x_out, s_seq, s_ite, s_ret, s_retZ, s_retV, s_iasg, s_aasg, s_lasg, s_inc, s_put, s_putop, s_ast, s_astop, s_exp, s_call, s_skip, s_brk, s_cont, s_oinit, e_lit, e_long, e_il, e_al, e_ll, e_bin, e_un, e_fld, e_ald, e_tern, e_call, e_alen, b_cmp, b_cmp0, b_lcmp, b_and, b_or, b_not, o_add, o_sub, o_mul, o_and, o_or, o_xor, o_shl, o_shr, o_neg, o_i2l, o_l2i, o_i2c, r_eq, r_ne, r_lt, r_ge, r_gt, r_le, r_eq0, r_ne0, r_lt0, r_ge0, r_gt0, r_le0, x_fld, x_int, x_ref, x_long, x_args, x_nar, xKd, xst1, xst2, xlg, Option.bind_some, Option.bind_none, Option.map_some, Option.map_none, List.getElem?_cons_zero, List.getElem?_cons_succ, List.set_cons_zero, List.set_cons_succ, List.length_cons, List.length_nil, List.length_map, List.length_range, List.length_set, decide_eq_true_eq, if_true, if_false, reduceIte, reduceCtorEq, Bool.not_true, Bool.not_false, Bool.false_eq_true, x_ix_nI, ax_get, ax_set, e_aald, s_aast, true_and, and_true, ite_true, ite_false, ↓bI_01, bI_eq0, bI_eq1, bool_or, tern_pure, and_pure, or_pure, bI_def, bne_t, ndf, decide_not, Bool.decide_eq_true, Bool.decide_and, Bool.decide_or, Nat.reduceEqDiff, Nat.reduceAdd, Nat.reduceMul, Nat.reduceSub, Nat.reduceLT, Nat.reduceLeDiff, or_false, false_or, or_true, true_or, and_false, false_and, Bool.or_eq_true, Bool.and_eq_true, Bool.or_false, Bool.or_true, Bool.true_or, Bool.false_or, Bool.and_true, Bool.and_false, Bool.true_and, Bool.false_and, decide_true, decide_false, not_true_eq_false, not_false_eq_true, l3, nI_ltI])) (fun _ => by simp only [x_out, s_seq, s_ite, s_ret, s_retZ, s_retV, s_iasg, s_aasg, s_lasg, s_inc, s_put, s_putop, s_ast, s_astop, s_exp, s_call, s_skip, s_brk, s_cont, s_oinit, e_lit, e_long, e_il, e_al, e_ll, e_bin, e_un, e_fld, e_ald, e_tern, e_call, e_alen, b_cmp, b_cmp0, b_lcmp, b_and, b_or, b_not, o_add, o_sub, o_mul, o_and, o_or, o_xor, o_shl, o_shr, o_neg, o_i2l, o_l2i, o_i2c, r_eq, r_ne, r_lt, r_ge, r_gt, r_le, r_eq0, r_ne0, r_lt0, r_ge0, r_gt0, r_le0, x_fld, x_int, x_ref, x_long, x_args, x_nar, xKd, xst1, xst2, xlg, Option.bind_some, Option.bind_none, Option.map_some, Option.map_none, List.getElem?_cons_zero, List.getElem?_cons_succ, List.set_cons_zero, List.set_cons_succ, List.length_cons, List.length_nil, List.length_map, List.length_range, List.length_set, decide_eq_true_eq, if_true, if_false, reduceIte, reduceCtorEq, Bool.not_true, Bool.not_false, Bool.false_eq_true, x_ix_nI, ax_get, ax_set, e_aald, s_aast, true_and, and_true, ite_true, ite_false, ↓bI_01, bI_eq0, bI_eq1, bool_or, tern_pure, and_pure, or_pure, bI_def, bne_t, ndf, decide_not, Bool.decide_eq_true, Bool.decide_and, Bool.decide_or, Nat.reduceEqDiff, Nat.reduceAdd, Nat.reduceMul, Nat.reduceSub, Nat.reduceLT, Nat.reduceLeDiff, or_false, false_or, or_true, true_or, and_false, false_and, Bool.or_eq_true, Bool.and_eq_true, Bool.or_false, Bool.or_true, Bool.true_or, Bool.false_or, Bool.and_true, Bool.and_false, Bool.true_and, Bool.false_and, decide_true, decide_false, not_true_eq_false, not_false_eq_true, f1])) (fun _ => by simp (disch := omega) only [x_out, s_seq, s_ite, s_ret, s_retZ, s_retV, s_iasg, s_aasg, s_lasg, s_inc, s_put, s_putop, s_ast, s_astop, s_exp, s_call, s_skip, s_brk, s_cont, s_oinit, e_lit, e_long, e_il, e_al, e_ll, e_bin, e_un, e_fld, e_ald, e_tern, e_call, e_alen, b_cmp, b_cmp0, b_lcmp, b_and, b_or, b_not, o_add, o_sub, o_mul, o_and, o_or, o_xor, o_shl, o_shr, o_neg, o_i2l, o_l2i, o_i2c, r_eq, r_ne, r_lt, r_ge, r_gt, r_le, r_eq0, r_ne0, r_lt0, r_ge0, r_gt0, r_le0, x_fld, x_int, x_ref, x_long, x_args, x_nar, xKd, xst1, xst2, xlg, Option.bind_some, Option.bind_none, Option.map_some, Option.map_none, List.getElem?_cons_zero, List.getElem?_cons_succ, List.set_cons_zero, List.set_cons_succ, List.length_cons, List.length_nil, List.length_map, List.length_range, List.length_set, decide_eq_true_eq, if_true, if_false, reduceIte, reduceCtorEq, Bool.not_true, Bool.not_false, Bool.false_eq_true, x_ix_nI, ax_get, ax_set, e_aald, s_aast, true_and, and_true, ite_true, ite_false, ↓bI_01, bI_eq0, bI_eq1, bool_or, tern_pure, and_pure, or_pure, bI_def, bne_t, ndf, decide_not, Bool.decide_eq_true, Bool.decide_and, Bool.decide_or, Nat.reduceEqDiff, Nat.reduceAdd, Nat.reduceMul, Nat.reduceSub, Nat.reduceLT, Nat.reduceLeDiff, or_false, false_or, or_true, true_or, and_false, false_and, Bool.or_eq_true, Bool.and_eq_true, Bool.or_false, Bool.or_true, Bool.true_or, Bool.false_or, Bool.and_true, Bool.and_false, Bool.true_and, Bool.false_and, decide_true, decide_false, not_true_eq_false, not_false_eq_true, l1, nI_ltI])) (fun _ => by simp (disch := omega) only [x_out, s_seq, s_ite, s_ret, s_retZ, s_retV, s_iasg, s_aasg, s_lasg, s_inc, s_put, s_putop, s_ast, s_astop, s_exp, s_call, s_skip, s_brk, s_cont, s_oinit, e_lit, e_long, e_il, e_al, e_ll, e_bin, e_un, e_fld, e_ald, e_tern, e_call, e_alen, b_cmp, b_cmp0, b_lcmp, b_and, b_or, b_not, o_add, o_sub, o_mul, o_and, o_or, o_xor, o_shl, o_shr, o_neg, o_i2l, o_l2i, o_i2c, r_eq, r_ne, r_lt, r_ge, r_gt, r_le, r_eq0, r_ne0, r_lt0, r_ge0, r_gt0, r_le0, x_fld, x_int, x_ref, x_long, x_args, x_nar, xKd, xst1, xst2, xlg, Option.bind_some, Option.bind_none, Option.map_some, Option.map_none, List.getElem?_cons_zero, List.getElem?_cons_succ, List.set_cons_zero, List.set_cons_succ, List.length_cons, List.length_nil, List.length_map, List.length_range, List.length_set, decide_eq_true_eq, if_true, if_false, reduceIte, reduceCtorEq, Bool.not_true, Bool.not_false, Bool.false_eq_true, x_ix_nI, ax_get, ax_set, e_aald, s_aast, true_and, and_true, ite_true, ite_false, ↓bI_01, bI_eq0, bI_eq1, bool_or, tern_pure, and_pure, or_pure, bI_def, bne_t, ndf, decide_not, Bool.decide_eq_true, Bool.decide_and, Bool.decide_or, Nat.reduceEqDiff, Nat.reduceAdd, Nat.reduceMul, Nat.reduceSub, Nat.reduceLT, Nat.reduceLeDiff, or_false, false_or, or_true, true_or, and_false, false_and, Bool.or_eq_true, Bool.and_eq_true, Bool.or_false, Bool.or_true, Bool.true_or, Bool.false_or, Bool.and_true, Bool.and_false, Bool.true_and, Bool.false_and, decide_true, decide_false, not_true_eq_false, not_false_eq_true, l9, nI_ltI])
  cases q : cWk P k a b with
  | false =>
    rw [q] at c1
    refine ⟨h, ?_, by rw [if_neg (by simp)]; exact H, xFr.rf _ _⟩
    refine xM_run (env := [some (.ref p), some (.int (nI k)), some (.int (nI a)), some (.int (nI b))]) h0 rfl rfl (Nat.le_of_ble_eq_true rfl) rfl ?_ rfl
    unfold bd_X4_addWalker
    rw [s_seq_r ((s_ite_t c1).trans (ret_Z0 _ _))]
    rfl
  | true =>
    rw [q] at c1
    obtain ⟨h3, e3, H3, F3⟩ := addW1 H k a b
    obtain ⟨H4, F4⟩ := H3.set0 (pF P) (pB P) (pN P) (pM P + 1)
    have hn : pM P < 4 := by
      unfold cWk at q
      simp only [Bool.not_eq_true', Bool.or_eq_false_iff, decide_eq_false_iff_not] at q
      omega
    have r1 := ax_row H.2.2.2.2.1
    have r2 := ax_row H.2.2.2.2.2.1
    have r3 := ax_row H.2.2.2.2.2.2
    have h30 := H3.1
    refine ⟨_, ?_, by rw [if_pos rfl]; exact H4, (F3.trans F4).mono fun b hb => hb.elim id id⟩
    refine xM_run (env := [some (.ref p), some (.int (nI k)), some (.int (nI a)), some (.int (nI b))]) h0 rfl rfl (Nat.le_of_ble_eq_true rfl) rfl ?_ rfl
    have sS2 : ∀ rest : XS, (s_seq (s_ast 0 (e_fld 4 7 (e_al 0)) (e_fld 4 3 (e_al 0)) (e_il 1)) (s_seq (s_ast 0 (e_fld 4 8 (e_al 0)) (e_fld 4 3 (e_al 0)) (e_il 2)) (s_seq (s_ast 0 (e_fld 4 9 (e_al 0)) (e_fld 4 3 (e_al 0)) (e_il 3)) rest))) [some (.ref p), some (.int (nI k)), some (.int (nI a)), some (.int (nI b))] h = rest [some (.ref p), some (.int (nI k)), some (.int (nI a)), some (.int (nI b))] h3 := fun rest => by
      rw [← e3]
      simp (disch := omega) only [x_out, s_seq, s_ite, s_ret, s_retZ, s_retV, s_iasg, s_aasg, s_lasg, s_inc, s_put, s_putop, s_ast, s_astop, s_exp, s_call, s_skip, s_brk, s_cont, s_oinit, e_lit, e_long, e_il, e_al, e_ll, e_bin, e_un, e_fld, e_ald, e_tern, e_call, e_alen, b_cmp, b_cmp0, b_lcmp, b_and, b_or, b_not, o_add, o_sub, o_mul, o_and, o_or, o_xor, o_shl, o_shr, o_neg, o_i2l, o_l2i, o_i2c, r_eq, r_ne, r_lt, r_ge, r_gt, r_le, r_eq0, r_ne0, r_lt0, r_ge0, r_gt0, r_le0, x_fld, x_int, x_ref, x_long, x_args, x_nar, xKd, xst1, xst2, xlg, Option.bind_some, Option.bind_none, Option.map_some, Option.map_none, List.getElem?_cons_zero, List.getElem?_cons_succ, List.set_cons_zero, List.set_cons_succ, List.length_cons, List.length_nil, List.length_map, List.length_range, List.length_set, decide_eq_true_eq, if_true, if_false, reduceIte, reduceCtorEq, Bool.not_true, Bool.not_false, Bool.false_eq_true, x_ix_nI, ax_get, ax_set, e_aald, s_aast, true_and, and_true, ite_true, ite_false, ↓bI_01, bI_eq0, bI_eq1, bool_or, tern_pure, and_pure, or_pure, bI_def, bne_t, ndf, decide_not, Bool.decide_eq_true, Bool.decide_and, Bool.decide_or, Nat.reduceEqDiff, Nat.reduceAdd, Nat.reduceMul, Nat.reduceSub, Nat.reduceLT, Nat.reduceLeDiff, or_false, false_or, or_true, true_or, and_false, false_and, Bool.or_eq_true, Bool.and_eq_true, Bool.or_false, Bool.or_true, Bool.true_or, Bool.false_or, Bool.and_true, Bool.and_false, Bool.true_and, Bool.false_and, decide_true, decide_false, not_true_eq_false, not_false_eq_true, h0, hn, r1, r2, r3, x_row_ne, List.getElem?_set_ne, ax_def]
    unfold bd_X4_addWalker
    rw [s_seq_n ((s_ite_f c1).trans (show s_skip _ h = some (none, _, h) from rfl)), sS2]
    simp (disch := omega) only [x_out, s_seq, s_ite, s_ret, s_retZ, s_retV, s_iasg, s_aasg, s_lasg, s_inc, s_put, s_putop, s_ast, s_astop, s_exp, s_call, s_skip, s_brk, s_cont, s_oinit, e_lit, e_long, e_il, e_al, e_ll, e_bin, e_un, e_fld, e_ald, e_tern, e_call, e_alen, b_cmp, b_cmp0, b_lcmp, b_and, b_or, b_not, o_add, o_sub, o_mul, o_and, o_or, o_xor, o_shl, o_shr, o_neg, o_i2l, o_l2i, o_i2c, r_eq, r_ne, r_lt, r_ge, r_gt, r_le, r_eq0, r_ne0, r_lt0, r_ge0, r_gt0, r_le0, x_fld, x_int, x_ref, x_long, x_args, x_nar, xKd, xst1, xst2, xlg, Option.bind_some, Option.bind_none, Option.map_some, Option.map_none, List.getElem?_cons_zero, List.getElem?_cons_succ, List.set_cons_zero, List.set_cons_succ, List.length_cons, List.length_nil, List.length_map, List.length_range, List.length_set, decide_eq_true_eq, if_true, if_false, reduceIte, reduceCtorEq, Bool.not_true, Bool.not_false, Bool.false_eq_true, x_ix_nI, ax_get, ax_set, e_aald, s_aast, true_and, and_true, ite_true, ite_false, ↓bI_01, bI_eq0, bI_eq1, bool_or, tern_pure, and_pure, or_pure, bI_def, bne_t, ndf, decide_not, Bool.decide_eq_true, Bool.decide_and, Bool.decide_or, Nat.reduceEqDiff, Nat.reduceAdd, Nat.reduceMul, Nat.reduceSub, Nat.reduceLT, Nat.reduceLeDiff, or_false, false_or, or_true, true_or, and_false, false_and, Bool.or_eq_true, Bool.and_eq_true, Bool.or_false, Bool.or_true, Bool.true_or, Bool.false_or, Bool.and_true, Bool.and_false, Bool.true_and, Bool.false_and, decide_true, decide_false, not_true_eq_false, not_false_eq_true, h30, nI_1]
    rfl
theorem clear_x (H : PAt h p P) : ∃ h', m_X4_clear [.ref p] h = some (none, h') ∧ PAt h' p (pClr P) ∧ xFr (pCells p) h h' := by
  have h0 := H.1
  have s1 : (s_put 4 0 0 (e_al 0) (e_lit 5)) [some (.ref p)] h = some (none, [some (.ref p)], h.set p (pObj p 5 (pB P) (pN P) (pM P))) := by
    simp (disch := omega) only [x_out, s_seq, s_ite, s_ret, s_retZ, s_retV, s_iasg, s_aasg, s_lasg, s_inc, s_put, s_putop, s_ast, s_astop, s_exp, s_call, s_skip, s_brk, s_cont, s_oinit, e_lit, e_long, e_il, e_al, e_ll, e_bin, e_un, e_fld, e_ald, e_tern, e_call, e_alen, b_cmp, b_cmp0, b_lcmp, b_and, b_or, b_not, o_add, o_sub, o_mul, o_and, o_or, o_xor, o_shl, o_shr, o_neg, o_i2l, o_l2i, o_i2c, r_eq, r_ne, r_lt, r_ge, r_gt, r_le, r_eq0, r_ne0, r_lt0, r_ge0, r_gt0, r_le0, x_fld, x_int, x_ref, x_long, x_args, x_nar, xKd, xst1, xst2, xlg, Option.bind_some, Option.bind_none, Option.map_some, Option.map_none, List.getElem?_cons_zero, List.getElem?_cons_succ, List.set_cons_zero, List.set_cons_succ, List.length_cons, List.length_nil, List.length_map, List.length_range, List.length_set, decide_eq_true_eq, if_true, if_false, reduceIte, reduceCtorEq, Bool.not_true, Bool.not_false, Bool.false_eq_true, x_ix_nI, ax_get, ax_set, e_aald, s_aast, true_and, and_true, ite_true, ite_false, ↓bI_01, bI_eq0, bI_eq1, bool_or, tern_pure, and_pure, or_pure, bI_def, bne_t, ndf, decide_not, Bool.decide_eq_true, Bool.decide_and, Bool.decide_or, Nat.reduceEqDiff, Nat.reduceAdd, Nat.reduceMul, Nat.reduceSub, Nat.reduceLT, Nat.reduceLeDiff, or_false, false_or, or_true, true_or, and_false, false_and, Bool.or_eq_true, Bool.and_eq_true, Bool.or_false, Bool.or_true, Bool.true_or, Bool.false_or, Bool.and_true, Bool.and_false, Bool.true_and, Bool.false_and, decide_true, decide_false, not_true_eq_false, not_false_eq_true, h0]; rfl
  obtain ⟨H1, F1⟩ := H.set0 5 (pB P) (pN P) (pM P)
  generalize h.set p (pObj p 5 (pB P) (pN P) (pM P)) = h1 at s1 H1 F1
  have h1' := H1.1
  have s2 : (s_put 4 1 0 (e_al 0) (e_lit 40)) [some (.ref p)] h1 = some (none, [some (.ref p)], h1.set p (pObj p 5 40 (pN P) (pM P))) := by
    simp (disch := omega) only [x_out, s_seq, s_ite, s_ret, s_retZ, s_retV, s_iasg, s_aasg, s_lasg, s_inc, s_put, s_putop, s_ast, s_astop, s_exp, s_call, s_skip, s_brk, s_cont, s_oinit, e_lit, e_long, e_il, e_al, e_ll, e_bin, e_un, e_fld, e_ald, e_tern, e_call, e_alen, b_cmp, b_cmp0, b_lcmp, b_and, b_or, b_not, o_add, o_sub, o_mul, o_and, o_or, o_xor, o_shl, o_shr, o_neg, o_i2l, o_l2i, o_i2c, r_eq, r_ne, r_lt, r_ge, r_gt, r_le, r_eq0, r_ne0, r_lt0, r_ge0, r_gt0, r_le0, x_fld, x_int, x_ref, x_long, x_args, x_nar, xKd, xst1, xst2, xlg, Option.bind_some, Option.bind_none, Option.map_some, Option.map_none, List.getElem?_cons_zero, List.getElem?_cons_succ, List.set_cons_zero, List.set_cons_succ, List.length_cons, List.length_nil, List.length_map, List.length_range, List.length_set, decide_eq_true_eq, if_true, if_false, reduceIte, reduceCtorEq, Bool.not_true, Bool.not_false, Bool.false_eq_true, x_ix_nI, ax_get, ax_set, e_aald, s_aast, true_and, and_true, ite_true, ite_false, ↓bI_01, bI_eq0, bI_eq1, bool_or, tern_pure, and_pure, or_pure, bI_def, bne_t, ndf, decide_not, Bool.decide_eq_true, Bool.decide_and, Bool.decide_or, Nat.reduceEqDiff, Nat.reduceAdd, Nat.reduceMul, Nat.reduceSub, Nat.reduceLT, Nat.reduceLeDiff, or_false, false_or, or_true, true_or, and_false, false_and, Bool.or_eq_true, Bool.and_eq_true, Bool.or_false, Bool.or_true, Bool.true_or, Bool.false_or, Bool.and_true, Bool.and_false, Bool.true_and, Bool.false_and, decide_true, decide_false, not_true_eq_false, not_false_eq_true, h1']; rfl
  obtain ⟨H2, F2⟩ := H1.set0 5 40 (pN P) (pM P)
  generalize h1.set p (pObj p 5 40 (pN P) (pM P)) = h2 at s2 H2 F2
  have h2' := H2.1
  have s3 : (s_put 4 2 0 (e_al 0) (e_lit 0)) [some (.ref p)] h2 = some (none, [some (.ref p)], h2.set p (pObj p 5 40 0 (pM P))) := by
    simp (disch := omega) only [x_out, s_seq, s_ite, s_ret, s_retZ, s_retV, s_iasg, s_aasg, s_lasg, s_inc, s_put, s_putop, s_ast, s_astop, s_exp, s_call, s_skip, s_brk, s_cont, s_oinit, e_lit, e_long, e_il, e_al, e_ll, e_bin, e_un, e_fld, e_ald, e_tern, e_call, e_alen, b_cmp, b_cmp0, b_lcmp, b_and, b_or, b_not, o_add, o_sub, o_mul, o_and, o_or, o_xor, o_shl, o_shr, o_neg, o_i2l, o_l2i, o_i2c, r_eq, r_ne, r_lt, r_ge, r_gt, r_le, r_eq0, r_ne0, r_lt0, r_ge0, r_gt0, r_le0, x_fld, x_int, x_ref, x_long, x_args, x_nar, xKd, xst1, xst2, xlg, Option.bind_some, Option.bind_none, Option.map_some, Option.map_none, List.getElem?_cons_zero, List.getElem?_cons_succ, List.set_cons_zero, List.set_cons_succ, List.length_cons, List.length_nil, List.length_map, List.length_range, List.length_set, decide_eq_true_eq, if_true, if_false, reduceIte, reduceCtorEq, Bool.not_true, Bool.not_false, Bool.false_eq_true, x_ix_nI, ax_get, ax_set, e_aald, s_aast, true_and, and_true, ite_true, ite_false, ↓bI_01, bI_eq0, bI_eq1, bool_or, tern_pure, and_pure, or_pure, bI_def, bne_t, ndf, decide_not, Bool.decide_eq_true, Bool.decide_and, Bool.decide_or, Nat.reduceEqDiff, Nat.reduceAdd, Nat.reduceMul, Nat.reduceSub, Nat.reduceLT, Nat.reduceLeDiff, or_false, false_or, or_true, true_or, and_false, false_and, Bool.or_eq_true, Bool.and_eq_true, Bool.or_false, Bool.or_true, Bool.true_or, Bool.false_or, Bool.and_true, Bool.and_false, Bool.true_and, Bool.false_and, decide_true, decide_false, not_true_eq_false, not_false_eq_true, h2']; rfl
  obtain ⟨H3, F3⟩ := H2.set0 5 40 0 (pM P)
  generalize h2.set p (pObj p 5 40 0 (pM P)) = h3 at s3 H3 F3
  have h3' := H3.1
  have s4 : (s_put 4 3 0 (e_al 0) (e_lit 0)) [some (.ref p)] h3 = some (none, [some (.ref p)], h3.set p (pObj p 5 40 0 0)) := by
    simp (disch := omega) only [x_out, s_seq, s_ite, s_ret, s_retZ, s_retV, s_iasg, s_aasg, s_lasg, s_inc, s_put, s_putop, s_ast, s_astop, s_exp, s_call, s_skip, s_brk, s_cont, s_oinit, e_lit, e_long, e_il, e_al, e_ll, e_bin, e_un, e_fld, e_ald, e_tern, e_call, e_alen, b_cmp, b_cmp0, b_lcmp, b_and, b_or, b_not, o_add, o_sub, o_mul, o_and, o_or, o_xor, o_shl, o_shr, o_neg, o_i2l, o_l2i, o_i2c, r_eq, r_ne, r_lt, r_ge, r_gt, r_le, r_eq0, r_ne0, r_lt0, r_ge0, r_gt0, r_le0, x_fld, x_int, x_ref, x_long, x_args, x_nar, xKd, xst1, xst2, xlg, Option.bind_some, Option.bind_none, Option.map_some, Option.map_none, List.getElem?_cons_zero, List.getElem?_cons_succ, List.set_cons_zero, List.set_cons_succ, List.length_cons, List.length_nil, List.length_map, List.length_range, List.length_set, decide_eq_true_eq, if_true, if_false, reduceIte, reduceCtorEq, Bool.not_true, Bool.not_false, Bool.false_eq_true, x_ix_nI, ax_get, ax_set, e_aald, s_aast, true_and, and_true, ite_true, ite_false, ↓bI_01, bI_eq0, bI_eq1, bool_or, tern_pure, and_pure, or_pure, bI_def, bne_t, ndf, decide_not, Bool.decide_eq_true, Bool.decide_and, Bool.decide_or, Nat.reduceEqDiff, Nat.reduceAdd, Nat.reduceMul, Nat.reduceSub, Nat.reduceLT, Nat.reduceLeDiff, or_false, false_or, or_true, true_or, and_false, false_and, Bool.or_eq_true, Bool.and_eq_true, Bool.or_false, Bool.or_true, Bool.true_or, Bool.false_or, Bool.and_true, Bool.and_false, Bool.true_and, Bool.false_and, decide_true, decide_false, not_true_eq_false, not_false_eq_true, h3']; rfl
  obtain ⟨H4, F4⟩ := H3.set0 5 40 0 0
  refine ⟨_, ?_, H4, (((F1.trans F2).trans F3).trans F4).mono fun b hb => ?_⟩
  · refine xM_run (env := [some (.ref p)]) h0 rfl rfl (Nat.le_of_ble_eq_true rfl) rfl ?_ rfl
    unfold bd_X4_clear
    rw [s_seq_n s1, s_seq_n s2, s_seq_n s3, s_seq_n s4]
    rfl
  · rcases hb with ((hb | hb) | hb) | hb <;> exact hb
end PS
