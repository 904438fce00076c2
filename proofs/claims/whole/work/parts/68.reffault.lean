/-! the reference: an item, the first fault -/
theorem tk_excl' {l : List Nat} {i : Nat} {r : Nat × Nat} (h : tk l i 59 = some r) : tk l i 44 = none := by
  cases e : tk l i 44 with
  | none => rfl
  | some q =>
    obtain ⟨v, j⟩ := q
    rw [tk_excl e] at h
    cases h
theorem rnN_3 (l : List Nat) (p : Nat) : rnN l 3 p = match tk l p 59 with
    | some (v, j) => some ([v], j)
    | none => match tk l p 44 with
      | none => none
      | some (v1, j1) => match tk l j1 59 with
        | some (v2, j2) => some ([v1, v2], j2)
        | none => match tk l j1 44 with
          | none => none
          | some (v2, j2) => match tk l j2 59 with
            | some (v3, j3) => some ([v1, v2, v3], j3)
            | none => none := by
  simp only [rnN]
  cases tk l p 59 with
  | some r => rfl
  | none =>
    cases tk l p 44 with
    | none => rfl
    | some r1 =>
      obtain ⟨v1, j1⟩ := r1
      dsimp only
      cases tk l j1 59 with
      | some r => rfl
      | none =>
        cases tk l j1 44 with
        | none => rfl
        | some r2 =>
          obtain ⟨v2, j2⟩ := r2
          dsimp only
          cases tk l j2 59 with
          | some r => rfl
          | none =>
            cases tk l j2 44 with
            | some r => rfl
            | none => rfl
theorem tI_102 (P : XP) (fx : Bool) (n a b c : Nat) : tI P fx 102 n a b c = if fx = false ∧ n = 1 ∧ 1 ≤ a ∧ a ≤ 8 then some (pSetF P a, fx) else none := by
  unfold tI; rw [if_pos rfl]
theorem tI_115 (P : XP) (fx : Bool) (n a b c : Nat) : tI P fx 115 n a b c = if n = 3 ∧ pN P < 9 ∧ a ≤ 3 ∧ b < pF P ∧ c < pF P ∧ b ≠ c then some (pAddS P a b c, true) else none := by
  unfold tI; rw [if_neg (by omega), if_pos rfl]
theorem tI_119 (P : XP) (fx : Bool) (n a b c : Nat) : tI P fx 119 n a b c = if n = 3 ∧ pM P < 4 ∧ a ≤ 3 ∧ b < pF P ∧ 1 ≤ c ∧ c ≤ 9 then some (pAddW P a b c, true) else none := by
  unfold tI; rw [if_neg (by omega), if_neg (by omega), if_pos rfl]
theorem tI_108 (P : XP) (fx : Bool) (n a b c : Nat) : tI P fx 108 n a b c = if n = 1 ∧ 10 ≤ a then some (pSetB P a, true) else none := by
  unfold tI; rw [if_neg (by omega), if_neg (by omega), if_neg (by omega), if_pos rfl]
theorem tI_115_n {P : XP} {fx : Bool} {n a b c : Nat} (h : n ≠ 3) : tI P fx 115 n a b c = none := by
  rw [tI_115, if_neg (fun z => h z.1)]
theorem tI_115_x {P : XP} {fx : Bool} {a b c : Nat} (h : ¬ (pN P < 9 ∧ a ≤ 3 ∧ b < pF P ∧ c < pF P ∧ b ≠ c)) : tI P fx 115 3 a b c = none := by
  rw [tI_115, if_neg (fun z => h z.2)]
theorem tI_115_y {P : XP} {fx : Bool} {a b c : Nat} (h : pN P < 9 ∧ a ≤ 3 ∧ b < pF P ∧ c < pF P ∧ b ≠ c) : tI P fx 115 3 a b c = some (pAddS P a b c, true) := by
  rw [tI_115, if_pos ⟨rfl, h⟩]
theorem tI_119_n {P : XP} {fx : Bool} {n a b c : Nat} (h : n ≠ 3) : tI P fx 119 n a b c = none := by
  rw [tI_119, if_neg (fun z => h z.1)]
theorem tI_119_x {P : XP} {fx : Bool} {a b c : Nat} (h : ¬ (pM P < 4 ∧ a ≤ 3 ∧ b < pF P ∧ 1 ≤ c ∧ c ≤ 9)) : tI P fx 119 3 a b c = none := by
  rw [tI_119, if_neg (fun z => h z.2)]
theorem tI_119_y {P : XP} {fx : Bool} {a b c : Nat} (h : pM P < 4 ∧ a ≤ 3 ∧ b < pF P ∧ 1 ≤ c ∧ c ≤ 9) : tI P fx 119 3 a b c = some (pAddW P a b c, true) := by
  rw [tI_119, if_pos ⟨rfl, h⟩]
theorem tI_no (P : XP) (fx : Bool) {x : Nat} (n a b c : Nat) (h1 : x ≠ 102) (h2 : x ≠ 115) (h3 : x ≠ 119) (h4 : x ≠ 108) : tI P fx x n a b c = none := by
  unfold tI; rw [if_neg h1, if_neg h2, if_neg h3, if_neg h4]
theorem itF_C (l : List Nat) (p : Nat) (T : XP) (ot : Bool) : (itF l p T ot).map (fun r => (r.1, ot, r.2)) = match rnN l 3 p with
    | none => none
    | some (vs, j) => (tI T ot 102 vs.length (vs.getD 0 0) (vs.getD 1 0) (vs.getD 2 0)).map fun r => (r.1, r.2, j) := by
  rw [rnN_3]
  unfold itF tkB
  cases ot with
  | true =>
    rw [if_pos rfl]
    repeat' split
    all_goals first
      | rfl
      | (rename_i e; first
        | cases e; done
        | (cases e; rw [tI_102, if_neg (fun z => by cases z.1)]; rfl))
  | false =>
    rw [if_neg (by simp)]
    cases e1 : tk l p 59 with
    | some r =>
      obtain ⟨v, j⟩ := r
      dsimp only
      rw [tI_102]
      by_cases y : 1 ≤ v ∧ v ≤ 8
      · rw [if_pos y, if_pos ⟨rfl, rfl, y.1, y.2⟩]; rfl
      · rw [if_neg y, if_neg (fun z => y z.2.2)]; rfl
    | none =>
      dsimp only
      cases tk l p 44 with
      | none => rfl
      | some r1 =>
        obtain ⟨v1, j1⟩ := r1
        dsimp only
        cases tk l j1 59 with
        | some r =>
          dsimp only
          rw [tI_102, if_neg (fun z => by have := z.2.1; simp at this)]; rfl
        | none =>
          dsimp only
          cases tk l j1 44 with
          | none => rfl
          | some r2 =>
            obtain ⟨v2, j2⟩ := r2
            dsimp only
            cases tk l j2 59 with
            | some r =>
              dsimp only
              rw [tI_102, if_neg (fun z => by have := z.2.1; simp at this)]; rfl
            | none => rfl
theorem itB_C (l : List Nat) (p : Nat) (T : XP) (ot : Bool) : (itB l p T).map (fun r => (r.1, true, r.2)) = match rnN l 3 p with
    | none => none
    | some (vs, j) => (tI T ot 108 vs.length (vs.getD 0 0) (vs.getD 1 0) (vs.getD 2 0)).map fun r => (r.1, r.2, j) := by
  rw [rnN_3]
  unfold itB tkB
  cases e1 : tk l p 59 with
  | some r =>
    obtain ⟨v, j⟩ := r
    have hv := (tk_spec (by decide) e1).2.2
    dsimp only
    rw [tI_108]
    by_cases y : 10 ≤ v
    · rw [if_pos ⟨y, hv⟩, if_pos ⟨rfl, y⟩]; rfl
    · rw [if_neg (fun z => y z.1), if_neg (fun z => y z.2)]; rfl
  | none =>
    dsimp only
    cases tk l p 44 with
    | none => rfl
    | some r1 =>
      obtain ⟨v1, j1⟩ := r1
      dsimp only
      cases tk l j1 59 with
      | some r =>
        dsimp only
        rw [tI_108, if_neg (fun z => by have := z.1; simp at this)]; rfl
      | none =>
        dsimp only
        cases tk l j1 44 with
        | none => rfl
        | some r2 =>
          obtain ⟨v2, j2⟩ := r2
          dsimp only
          cases tk l j2 59 with
          | some r =>
            dsimp only
            rw [tI_108, if_neg (fun z => by have := z.1; simp at this)]; rfl
          | none => rfl
theorem itS_C {l : List Nat} {p : Nat} {T : XP} {ot : Bool} (O : POK T) : (itS l p T).map (fun r => (r.1, true, r.2)) = match rnN l 3 p with
    | none => none
    | some (vs, j) => (tI T ot 115 vs.length (vs.getD 0 0) (vs.getD 1 0) (vs.getD 2 0)).map fun r => (r.1, r.2, j) := by
  have o1 := O.1
  have o5 := O.2.2.2.2.1
  rw [rnN_3]
  unfold itS tkB
  cases e1 : tk l p 59 with
  | some r =>
    obtain ⟨v, j⟩ := r
    rw [tk_excl' e1]
    dsimp only
    rw [tI_115_n (by simp)]
    split <;> rfl
  | none =>
    dsimp only
    cases tk l p 44 with
    | none => dsimp only; split <;> rfl
    | some r1 =>
      obtain ⟨v1, j1⟩ := r1
      dsimp only
      cases e2 : tk l j1 59 with
      | some r =>
        obtain ⟨v2, j2⟩ := r
        dsimp only
        rw [tI_115_n (by simp)]
        by_cases y0 : pN T = 9
        · rw [if_pos y0]; rfl
        · rw [if_neg y0]
          by_cases y1 : 0 ≤ v1 ∧ v1 ≤ 3
          · rw [if_pos y1]
            dsimp only
            rw [tk_excl' e2]; rfl
          · rw [if_neg y1]; rfl
      | none =>
        dsimp only
        cases e3 : tk l j1 44 with
        | none =>
          dsimp only
          by_cases y0 : pN T = 9
          · rw [if_pos y0]; rfl
          · rw [if_neg y0]
            by_cases y1 : 0 ≤ v1 ∧ v1 ≤ 3
            · rw [if_pos y1]
              dsimp only
              rw [e3]; rfl
            · rw [if_neg y1]; rfl
        | some r2 =>
          obtain ⟨v2, j2⟩ := r2
          dsimp only
          cases e4 : tk l j2 59 with
          | none =>
            dsimp only
            by_cases y0 : pN T = 9
            · rw [if_pos y0]; rfl
            · rw [if_neg y0]
              by_cases y1 : 0 ≤ v1 ∧ v1 ≤ 3
              · rw [if_pos y1]
                dsimp only
                rw [e3]
                dsimp only
                by_cases y2 : 0 ≤ v2 ∧ v2 ≤ pF T - 1
                · rw [if_pos y2]
                  dsimp only
                  rw [e4]; rfl
                · rw [if_neg y2]; rfl
              · rw [if_neg y1]; rfl
          | some r3 =>
            obtain ⟨v3, j3⟩ := r3
            dsimp only
            show _ = (tI T ot 115 3 v1 v2 v3).map _
            by_cases y0 : pN T = 9
            · rw [if_pos y0, tI_115_x (fun z => by have := z.1; omega)]; rfl
            · rw [if_neg y0]
              by_cases y1 : 0 ≤ v1 ∧ v1 ≤ 3
              · rw [if_pos y1]
                dsimp only
                rw [e3]
                dsimp only
                by_cases y2 : 0 ≤ v2 ∧ v2 ≤ pF T - 1
                · rw [if_pos y2]
                  dsimp only
                  rw [e4]
                  dsimp only
                  by_cases y3 : 0 ≤ v3 ∧ v3 ≤ pF T - 1
                  · rw [if_pos y3]
                    dsimp only
                    by_cases y4 : v3 = v2
                    · rw [if_pos y4, tI_115_x (fun z => z.2.2.2.2 y4.symm)]; rfl
                    · rw [if_neg y4, tI_115_y ⟨by omega, y1.2, by omega, by omega, fun z => y4 z.symm⟩]; rfl
                  · rw [if_neg y3, tI_115_x (fun z => y3 ⟨Nat.zero_le _, by have := z.2.2.2.1; omega⟩)]; rfl
                · rw [if_neg y2, tI_115_x (fun z => y2 ⟨Nat.zero_le _, by have := z.2.2.1; omega⟩)]; rfl
              · rw [if_neg y1, tI_115_x (fun z => y1 ⟨Nat.zero_le _, z.2.1⟩)]; rfl
theorem itW_C {l : List Nat} {p : Nat} {T : XP} {ot : Bool} (O : POK T) : (itW l p T).map (fun r => (r.1, true, r.2)) = match rnN l 3 p with
    | none => none
    | some (vs, j) => (tI T ot 119 vs.length (vs.getD 0 0) (vs.getD 1 0) (vs.getD 2 0)).map fun r => (r.1, r.2, j) := by
  have o1 := O.1
  have o6 := O.2.2.2.2.2.1
  rw [rnN_3]
  unfold itW tkB
  cases e1 : tk l p 59 with
  | some r =>
    obtain ⟨v, j⟩ := r
    rw [tk_excl' e1]
    dsimp only
    rw [tI_119_n (by simp)]
    split <;> rfl
  | none =>
    dsimp only
    cases tk l p 44 with
    | none => dsimp only; split <;> rfl
    | some r1 =>
      obtain ⟨v1, j1⟩ := r1
      dsimp only
      cases e2 : tk l j1 59 with
      | some r =>
        obtain ⟨v2, j2⟩ := r
        dsimp only
        rw [tI_119_n (by simp)]
        by_cases y0 : pM T = 4
        · rw [if_pos y0]; rfl
        · rw [if_neg y0]
          by_cases y1 : 0 ≤ v1 ∧ v1 ≤ 3
          · rw [if_pos y1]
            dsimp only
            rw [tk_excl' e2]; rfl
          · rw [if_neg y1]; rfl
      | none =>
        dsimp only
        cases e3 : tk l j1 44 with
        | none =>
          dsimp only
          by_cases y0 : pM T = 4
          · rw [if_pos y0]; rfl
          · rw [if_neg y0]
            by_cases y1 : 0 ≤ v1 ∧ v1 ≤ 3
            · rw [if_pos y1]
              dsimp only
              rw [e3]; rfl
            · rw [if_neg y1]; rfl
        | some r2 =>
          obtain ⟨v2, j2⟩ := r2
          dsimp only
          cases e4 : tk l j2 59 with
          | none =>
            dsimp only
            by_cases y0 : pM T = 4
            · rw [if_pos y0]; rfl
            · rw [if_neg y0]
              by_cases y1 : 0 ≤ v1 ∧ v1 ≤ 3
              · rw [if_pos y1]
                dsimp only
                rw [e3]
                dsimp only
                by_cases y2 : 0 ≤ v2 ∧ v2 ≤ pF T - 1
                · rw [if_pos y2]
                  dsimp only
                  rw [e4]; rfl
                · rw [if_neg y2]; rfl
              · rw [if_neg y1]; rfl
          | some r3 =>
            obtain ⟨v3, j3⟩ := r3
            dsimp only
            show _ = (tI T ot 119 3 v1 v2 v3).map _
            by_cases y0 : pM T = 4
            · rw [if_pos y0, tI_119_x (fun z => by have := z.1; omega)]; rfl
            · rw [if_neg y0]
              by_cases y1 : 0 ≤ v1 ∧ v1 ≤ 3
              · rw [if_pos y1]
                dsimp only
                rw [e3]
                dsimp only
                by_cases y2 : 0 ≤ v2 ∧ v2 ≤ pF T - 1
                · rw [if_pos y2]
                  dsimp only
                  rw [e4]
                  dsimp only
                  by_cases y3 : 1 ≤ v3 ∧ v3 ≤ 9
                  · rw [if_pos y3, tI_119_y ⟨by omega, y1.2, by omega, y3.1, y3.2⟩]; rfl
                  · rw [if_neg y3, tI_119_x (fun z => y3 ⟨z.2.2.2.1, z.2.2.2.2⟩)]; rfl
                · rw [if_neg y2, tI_119_x (fun z => y2 ⟨Nat.zero_le _, by have := z.2.2.1; omega⟩)]; rfl
              · rw [if_neg y1, tI_119_x (fun z => y1 ⟨Nat.zero_le _, z.2.1⟩)]; rfl
/-- both read the same item -/
theorem itR_C {l : List Nat} {i : Nat} {T : XP} {ot : Bool} (O : POK T) : itR l i T ot = itC l i T ot := by
  unfold itR itC
  by_cases q1 : lt l i = 102
  · rw [if_pos q1, q1]; exact itF_C _ _ _ _
  · rw [if_neg q1]
    by_cases q2 : lt l i = 115
    · rw [if_pos q2, q2]; exact itS_C O
    · rw [if_neg q2]
      by_cases q3 : lt l i = 119
      · rw [if_pos q3, q3]; exact itW_C O
      · rw [if_neg q3]
        by_cases q4 : lt l i = 108
        · rw [if_pos q4, q4]; exact itB_C _ _ _ _
        · rw [if_neg q4]
          cases rnN l 3 (i + 1) with
          | none => rfl
          | some r =>
            dsimp only
            rw [tI_no _ _ _ _ _ _ q1 q2 q3 q4]
            rfl
theorem retZ_b {e : XX} {env : XE} {h h' : XH} {b : Bool} (he : e env h = some (.int (bI b), h')) : s_retZ e env h = some (some (.inr (some (.int (bI b)))), env, h') := by
  simp only [s_retZ, he, Option.bind_some, x_int, bI_01, if_true]
theorem call0 {f : XF} {env : XE} {h h' : XH} {v : Value} (a0 : (e_al 0) env h = some (.ref 106, h)) (hm : f [.ref 106] h = some (some v, h')) : (e_call f [e_al 0]) env h = some (v, h') := by
  simp only [e_call, x_args, a0, hm, Option.bind_some, Option.map_some]
/-- what an item leaves, with its mark -/
def RQ2 (h h' : XH) (q k : Nat) (P : XP) (sn : Nat) (l : List Nat) (r : Option (XP × Bool × Nat)) : Prop := xFr rZ h h' ∧ match r with
  | some (T', ot', j) => ∃ nm', RPa h' q k P sn l j nm' T' ot'
  | none => ∃ pl' nm' T' ot', RPa h' q k P sn l pl' nm' T' ot'
theorem RQ.up {h h1 h' : XH} {q k : Nat} {P : XP} {sn : Nat} {l : List Nat} {T : XP} {ot : Bool} {r : Option (XP × Nat)} (H : RQ h1 h' q k P sn l T ot r) (F : xFr rZ h h1) : RQ2 h h' q k P sn l (r.map fun x => (x.1, ot, x.2)) := by
  obtain ⟨a, b⟩ := H
  refine ⟨(F.trans a).mono fun b hb => hb.elim id id, ?_⟩
  cases r with
  | none => obtain ⟨x1, x2, x3, x4⟩ := b; exact ⟨x1, x2, x3, ot, x4⟩
  | some r => obtain ⟨T', j⟩ := r; exact b
theorem oS {r : Option (XP × Nat)} {ot : Bool} : (r.map fun x => (x.1, ot, x.2)).isSome = r.isSome := by cases r <;> rfl
section RJ
variable {h : XH} {q k sn pl nm : Nat} {P T : XP} {l : List Nat} {ot : Bool}
theorem takesItem_r (H : RPa h q k P sn l pl nm T ot) (K : PK T ot) (hl : l.length ≤ 200) (ha : ∀ x, x ∈ l → 32 ≤ x ∧ x ≤ 126) (hp : pl < l.length) : ∃ h', m_X10_takesItem [.ref 106] h = some (some (.int (bI (itR l pl T ot).isSome)), h') ∧ RQ2 h h' q k P sn l (itR l pl T ot) := by
  have h00 : h[106]? = some (.inl (10, _)) := H.1
  have la : lA l pl = nI (lt l pl) := by unfold lA; rw [if_pos hp]
  have e1 := letterAt_r H hl (p := pl) (by omega)
  rw [la] at e1
  obtain ⟨h1, d1, H1, F1⟩ := H.put (pl + 1) nm ot
  have s1 : (s_iasg 1 (e_call m_X10_letterAt [(e_al 0), (e_fld 10 17 (e_al 0))])) [some (.ref 106), none] h = some (none, [some (.ref 106), some (.int (nI (lt l pl)))], h) := by
    obtain ⟨xf0, xf1, xf2, xf3, xf4, xf5, xf6, xf7, xf8, xf9, xf10, xf11, xf12, xf13, xf14, xf15, xf16, xf17, xf18, xf19, xf20, xf21, xf22, xf23, xf24, xf25, xf26, xf27⟩ := rfs h00
    simp only [x_out, s_seq, s_ite, s_ret, s_retZ, s_retV, s_iasg, s_aasg, s_lasg, s_inc, s_put, s_putop, s_ast, s_astop, s_exp, s_call, s_skip, s_brk, s_cont, s_oinit, e_lit, e_long, e_il, e_al, e_ll, e_bin, e_un, e_fld, e_ald, e_tern, e_call, e_alen, b_cmp, b_cmp0, b_lcmp, b_and, b_or, b_not, o_add, o_sub, o_mul, o_and, o_or, o_xor, o_shl, o_shr, o_neg, o_i2l, o_l2i, o_i2c, r_eq, r_ne, r_lt, r_ge, r_gt, r_le, r_eq0, r_ne0, r_lt0, r_ge0, r_gt0, r_le0, x_int, x_ref, x_long, x_args, x_nar, xKd, xst1, xst2, xlg, Option.bind_some, Option.bind_none, Option.map_some, Option.map_none, List.getElem?_cons_zero, List.getElem?_cons_succ, List.set_cons_zero, List.set_cons_succ, List.length_cons, List.length_nil, List.length_map, List.length_range, List.length_set, decide_eq_true_eq, if_true, if_false, reduceIte, reduceCtorEq, Bool.not_true, Bool.not_false, Bool.false_eq_true, x_ix_nI, ax_get, ax_set, e_aald, s_aast, true_and, and_true, ite_true, ite_false, ↓bI_01, bI_eq0, bI_eq1, bool_or, tern_pure, and_pure, or_pure, bI_def, bne_t, ndf, decide_not, Bool.decide_eq_true, Bool.decide_and, Bool.decide_or, Nat.reduceEqDiff, Nat.reduceAdd, Nat.reduceMul, Nat.reduceSub, Nat.reduceLT, Nat.reduceLeDiff, or_false, false_or, or_true, true_or, and_false, false_and, Bool.or_eq_true, Bool.and_eq_true, Bool.or_false, Bool.or_true, Bool.true_or, Bool.false_or, Bool.and_true, Bool.and_false, Bool.true_and, Bool.false_and, decide_true, decide_false, not_true_eq_false, not_false_eq_true, xf0, xf1, xf2, xf3, xf4, xf5, xf6, xf7, xf8, xf9, xf10, xf11, xf12, xf13, xf14, xf15, xf16, xf17, xf18, xf19, xf20, xf21, xf22, xf23, xf24, xf25, xf26, xf27, e1]
  have s2 : (s_putop 10 17 o_add (e_al 0) (e_lit 1)) [some (.ref 106), some (.int (nI (lt l pl)))] h = some (none, [some (.ref 106), some (.int (nI (lt l pl)))], h1) := by
    obtain ⟨xf0, xf1, xf2, xf3, xf4, xf5, xf6, xf7, xf8, xf9, xf10, xf11, xf12, xf13, xf14, xf15, xf16, xf17, xf18, xf19, xf20, xf21, xf22, xf23, xf24, xf25, xf26, xf27⟩ := rfs h00
    rw [d1]
    simp (disch := omega) only [x_out, s_seq, s_ite, s_ret, s_retZ, s_retV, s_iasg, s_aasg, s_lasg, s_inc, s_put, s_putop, s_ast, s_astop, s_exp, s_call, s_skip, s_brk, s_cont, s_oinit, e_lit, e_long, e_il, e_al, e_ll, e_bin, e_un, e_fld, e_ald, e_tern, e_call, e_alen, b_cmp, b_cmp0, b_lcmp, b_and, b_or, b_not, o_add, o_sub, o_mul, o_and, o_or, o_xor, o_shl, o_shr, o_neg, o_i2l, o_l2i, o_i2c, r_eq, r_ne, r_lt, r_ge, r_gt, r_le, r_eq0, r_ne0, r_lt0, r_ge0, r_gt0, r_le0, x_int, x_ref, x_long, x_args, x_nar, xKd, xst1, xst2, xlg, Option.bind_some, Option.bind_none, Option.map_some, Option.map_none, List.getElem?_cons_zero, List.getElem?_cons_succ, List.set_cons_zero, List.set_cons_succ, List.length_cons, List.length_nil, List.length_map, List.length_range, List.length_set, decide_eq_true_eq, if_true, if_false, reduceIte, reduceCtorEq, Bool.not_true, Bool.not_false, Bool.false_eq_true, x_ix_nI, ax_get, ax_set, e_aald, s_aast, true_and, and_true, ite_true, ite_false, ↓bI_01, bI_eq0, bI_eq1, bool_or, tern_pure, and_pure, or_pure, bI_def, bne_t, ndf, decide_not, Bool.decide_eq_true, Bool.decide_and, Bool.decide_or, Nat.reduceEqDiff, Nat.reduceAdd, Nat.reduceMul, Nat.reduceSub, Nat.reduceLT, Nat.reduceLeDiff, or_false, false_or, or_true, true_or, and_false, false_and, Bool.or_eq_true, Bool.and_eq_true, Bool.or_false, Bool.or_true, Bool.true_or, Bool.false_or, Bool.and_true, Bool.and_false, Bool.true_and, Bool.false_and, decide_true, decide_false, not_true_eq_false, not_false_eq_true, xf0, xf1, xf2, xf3, xf4, xf5, xf6, xf7, xf8, xf9, xf10, xf11, xf12, xf13, xf14, xf15, xf16, xf17, xf18, xf19, xf20, xf21, xf22, xf23, xf24, xf25, xf26, xf27, h00, nI_1]
    rfl
  have h01 : h1[106]? = some (.inl (10, _)) := H1.1
  have hle := lt_le ha pl
  have cc : ∀ kk : Nat, kk ≤ 126 → (nI (lt l pl) = nI kk) = (lt l pl = kk) := fun kk hk => propext (nI_eq (by omega) (by omega))
  have k102 : ((nI (lt l pl) : Int32) = 102) = (lt l pl = 102) := cc 102 (by omega)
  have k115 : ((nI (lt l pl) : Int32) = 115) = (lt l pl = 115) := cc 115 (by omega)
  have k119 : ((nI (lt l pl) : Int32) = 119) = (lt l pl = 119) := cc 119 (by omega)
  have k108 : ((nI (lt l pl) : Int32) = 108) = (lt l pl = 108) := cc 108 (by omega)
  have cq : ∀ (g : XH) (v : Int32), (b_cmp r_eq (e_il 1) (e_lit v)) [some (.ref 106), some (.int (nI (lt l pl)))] g = some (decide (nI (lt l pl) = v), g) := fun g v => by simp only [x_out, s_seq, s_ite, s_ret, s_retZ, s_retV, s_iasg, s_aasg, s_lasg, s_inc, s_put, s_putop, s_ast, s_astop, s_exp, s_call, s_skip, s_brk, s_cont, s_oinit, e_lit, e_long, e_il, e_al, e_ll, e_bin, e_un, e_fld, e_ald, e_tern, e_call, e_alen, b_cmp, b_cmp0, b_lcmp, b_and, b_or, b_not, o_add, o_sub, o_mul, o_and, o_or, o_xor, o_shl, o_shr, o_neg, o_i2l, o_l2i, o_i2c, r_eq, r_ne, r_lt, r_ge, r_gt, r_le, r_eq0, r_ne0, r_lt0, r_ge0, r_gt0, r_le0, x_fld, x_int, x_ref, x_long, x_args, x_nar, xKd, xst1, xst2, xlg, Option.bind_some, Option.bind_none, Option.map_some, Option.map_none, List.getElem?_cons_zero, List.getElem?_cons_succ, List.set_cons_zero, List.set_cons_succ, List.length_cons, List.length_nil, List.length_map, List.length_range, List.length_set, decide_eq_true_eq, if_true, if_false, reduceIte, reduceCtorEq, Bool.not_true, Bool.not_false, Bool.false_eq_true, x_ix_nI, ax_get, ax_set, e_aald, s_aast, true_and, and_true, ite_true, ite_false, ↓bI_01, bI_eq0, bI_eq1, bool_or, tern_pure, and_pure, or_pure, bI_def, bne_t, ndf, decide_not, Bool.decide_eq_true, Bool.decide_and, Bool.decide_or, Nat.reduceEqDiff, Nat.reduceAdd, Nat.reduceMul, Nat.reduceSub, Nat.reduceLT, Nat.reduceLeDiff, or_false, false_or, or_true, true_or, and_false, false_and, Bool.or_eq_true, Bool.and_eq_true, Bool.or_false, Bool.or_true, Bool.true_or, Bool.false_or, Bool.and_true, Bool.and_false, Bool.true_and, Bool.false_and, decide_true, decide_false, not_true_eq_false, not_false_eq_true]
  unfold itR
  by_cases q1 : lt l pl = 102
  · rw [if_pos q1]
    obtain ⟨h', a1, a2⟩ := takesFields_r H1 hl ha (by omega)
    refine ⟨h', ?_, a2.up (f6Z F1)⟩
    rw [oS]
    have c1 := cq h1 102
    rw [decide_eq_true (k102.mpr q1)] at c1
    refine xM_run (env := [some (.ref 106), none]) h00 rfl rfl (Nat.le_of_ble_eq_true rfl) rfl ?_ rfl
    unfold bd_X10_takesItem
    rw [s_seq_n s1, s_seq_n s2, s_seq_r ((s_ite_t c1).trans (retZ_b (call0 rfl a1)))]
    rfl
  · rw [if_neg q1]
    have c1 := cq h1 102
    rw [decide_eq_false (fun z => q1 (k102.mp z))] at c1
    obtain ⟨h2', d2, H2, F2⟩ := H1.put (pl + 1) nm true
    have Fr2 : xFr rZ h h2' := f6Z ((F1.trans F2).mono fun b hb => hb.elim id id)
    have s3 : (s_put 10 25 1 (e_al 0) (e_lit 1)) [some (.ref 106), some (.int (nI (lt l pl)))] h1 = some (none, [some (.ref 106), some (.int (nI (lt l pl)))], h2') := by
      rw [d2]
      simp (disch := omega) only [x_out, s_seq, s_ite, s_ret, s_retZ, s_retV, s_iasg, s_aasg, s_lasg, s_inc, s_put, s_putop, s_ast, s_astop, s_exp, s_call, s_skip, s_brk, s_cont, s_oinit, e_lit, e_long, e_il, e_al, e_ll, e_bin, e_un, e_fld, e_ald, e_tern, e_call, e_alen, b_cmp, b_cmp0, b_lcmp, b_and, b_or, b_not, o_add, o_sub, o_mul, o_and, o_or, o_xor, o_shl, o_shr, o_neg, o_i2l, o_l2i, o_i2c, r_eq, r_ne, r_lt, r_ge, r_gt, r_le, r_eq0, r_ne0, r_lt0, r_ge0, r_gt0, r_le0, x_fld, x_int, x_ref, x_long, x_args, x_nar, xKd, xst1, xst2, xlg, Option.bind_some, Option.bind_none, Option.map_some, Option.map_none, List.getElem?_cons_zero, List.getElem?_cons_succ, List.set_cons_zero, List.set_cons_succ, List.length_cons, List.length_nil, List.length_map, List.length_range, List.length_set, decide_eq_true_eq, if_true, if_false, reduceIte, reduceCtorEq, Bool.not_true, Bool.not_false, Bool.false_eq_true, x_ix_nI, ax_get, ax_set, e_aald, s_aast, true_and, and_true, ite_true, ite_false, ↓bI_01, bI_eq0, bI_eq1, bool_or, tern_pure, and_pure, or_pure, bI_def, bne_t, ndf, decide_not, Bool.decide_eq_true, Bool.decide_and, Bool.decide_or, Nat.reduceEqDiff, Nat.reduceAdd, Nat.reduceMul, Nat.reduceSub, Nat.reduceLT, Nat.reduceLeDiff, or_false, false_or, or_true, true_or, and_false, false_and, Bool.or_eq_true, Bool.and_eq_true, Bool.or_false, Bool.or_true, Bool.true_or, Bool.false_or, Bool.and_true, Bool.and_false, Bool.true_and, Bool.false_and, decide_true, decide_false, not_true_eq_false, not_false_eq_true, h01, bq10, bq11]
      rfl
    have fin : ∀ (b : Bool) (h' : XH), (e_tern (b_cmp r_eq (e_il 1) (e_lit 115)) (e_call m_X10_takesStile [(e_al 0)]) (e_tern (b_cmp r_eq (e_il 1) (e_lit 119)) (e_call m_X10_takesWalker [(e_al 0)]) (e_tern (b_and (b_cmp r_eq (e_il 1) (e_lit 108)) (b_cmp0 r_ne0 (e_call m_X10_takesBreaks [(e_al 0)]))) (e_lit 1) (e_lit 0)))) [some (.ref 106), some (.int (nI (lt l pl)))] h2' = some (.int (bI b), h') → m_X10_takesItem [.ref 106] h = some (some (.int (bI b)), h') := fun b h' ht => by
      refine xM_run (env := [some (.ref 106), none]) h00 rfl rfl (Nat.le_of_ble_eq_true rfl) rfl ?_ rfl
      unfold bd_X10_takesItem
      rw [s_seq_n s1, s_seq_n s2, s_seq_n ((s_ite_f c1).trans (skip_n _ _)), s_seq_n s3, retZ_b ht]
      rfl
    have c2 := cq h2' 115
    have c3 := cq h2' 119
    have c4 := cq h2' 108
    by_cases q2 : lt l pl = 115
    · rw [if_pos q2]
      rw [decide_eq_true (k115.mpr q2)] at c2
      obtain ⟨h', a1, a2⟩ := takesStile_r H2 K.1 hl ha (by omega)
      refine ⟨h', fin _ _ ?_, a2.up Fr2⟩
      rw [e_tern_p c2, if_pos rfl, oS]
      exact call0 rfl a1
    · rw [if_neg q2]
      rw [decide_eq_false (fun z => q2 (k115.mp z))] at c2
      by_cases q3 : lt l pl = 119
      · rw [if_pos q3]
        rw [decide_eq_true (k119.mpr q3)] at c3
        obtain ⟨h', a1, a2⟩ := takesWalker_r H2 K.1 hl ha (by omega)
        refine ⟨h', fin _ _ ?_, a2.up Fr2⟩
        rw [e_tern_p c2, if_neg (by simp), e_tern_p c3, if_pos rfl, oS]
        exact call0 rfl a1
      · rw [if_neg q3]
        rw [decide_eq_false (fun z => q3 (k119.mp z))] at c3
        by_cases q4 : lt l pl = 108
        · rw [if_pos q4]
          rw [decide_eq_true (k108.mpr q4)] at c4
          obtain ⟨h', a1, a2⟩ := takesBreaks_r H2 hl ha (by omega)
          refine ⟨h', fin _ _ ?_, a2.up Fr2⟩
          have c5 : (b_and (b_cmp r_eq (e_il 1) (e_lit 108)) (b_cmp0 r_ne0 (e_call m_X10_takesBreaks [(e_al 0)]))) [some (.ref 106), some (.int (nI (lt l pl)))] h2' = some ((itB l (pl + 1) T).isSome, h') := by
            have c6 := call0 (env := [some (.ref 106), some (.int (nI (lt l pl)))]) rfl a1
            simp only [b_and, c4, Option.bind_some, if_true]
            cases hb : (itB l (pl + 1) T).isSome <;> (rw [hb] at c6; simp only [b_cmp0, c6, Option.bind_some, Option.map_some, x_int, r_ne0]; rfl)
          rw [e_tern_p c2, if_neg (by simp), e_tern_p c3, if_neg (by simp), e_tern_p c5, oS]
          cases (itB l (pl + 1) T).isSome <;> rfl
        · rw [if_neg q4]
          rw [decide_eq_false (fun z => q4 (k108.mp z))] at c4
          refine ⟨h2', fin false _ ?_, Fr2, _, _, _, _, H2⟩
          have c5 : (b_and (b_cmp r_eq (e_il 1) (e_lit 108)) (b_cmp0 r_ne0 (e_call m_X10_takesBreaks [(e_al 0)]))) [some (.ref 106), some (.int (nI (lt l pl)))] h2' = some (false, h2') := by
            simp only [b_and, c4, Option.bind_some, Bool.false_eq_true, if_false]
          rw [e_tern_p c2, if_neg (by simp), e_tern_p c3, if_neg (by simp), e_tern_p c5]
          rfl
/-- the round over the items -/
theorem fo_x (hl : l.length ≤ 200) (ha : ∀ x, x ∈ l → 32 ≤ x ∧ x ≤ 126) : ∀ (m i : Nat) (T : XP) (ot : Bool) (nm : Nat) (h : XH) (u : Option Value), l.length < m + i → i ≤ l.length → PK T ot → RPa h q k P sn l i nm T ot → ∃ o env' h', s_loop m lc_X10_faultOf_1 la_X10_faultOf_1 lu_X10_faultOf_1 [some (.ref 106), u] h = some (o, env', h') ∧ o = (match (pf l m i T ot).1 with
    | none => none
    | some kk => some (.inr (some (.int (nI kk))))) ∧ ((pf l m i T ot).1 = none → ∃ pl nm ot', RPa h' q k P sn l pl nm (pf l m i T ot).2 ot') ∧ (∃ pl nm T ot, RPa h' q k P sn l pl nm T ot) ∧ xFr rZ h h' := by
  intro m
  induction m with
  | zero => intro i T ot nm h u h1 h2; omega
  | succ m ih =>
    intro i T ot nm h u h1 h2 K H
    have h00 : h[106]? = some (.inl (10, _)) := H.1
    have c0 : lc_X10_faultOf_1 [some (.ref 106), u] h = some (decide (i < l.length), h) := by
      obtain ⟨xf0, xf1, xf2, xf3, xf4, xf5, xf6, xf7, xf8, xf9, xf10, xf11, xf12, xf13, xf14, xf15, xf16, xf17, xf18, xf19, xf20, xf21, xf22, xf23, xf24, xf25, xf26, xf27⟩ := rfs h00
      simp (disch := omega) only [lc_X10_faultOf_1, x_out, s_seq, s_ite, s_ret, s_retZ, s_retV, s_iasg, s_aasg, s_lasg, s_inc, s_put, s_putop, s_ast, s_astop, s_exp, s_call, s_skip, s_brk, s_cont, s_oinit, e_lit, e_long, e_il, e_al, e_ll, e_bin, e_un, e_fld, e_ald, e_tern, e_call, e_alen, b_cmp, b_cmp0, b_lcmp, b_and, b_or, b_not, o_add, o_sub, o_mul, o_and, o_or, o_xor, o_shl, o_shr, o_neg, o_i2l, o_l2i, o_i2c, r_eq, r_ne, r_lt, r_ge, r_gt, r_le, r_eq0, r_ne0, r_lt0, r_ge0, r_gt0, r_le0, x_int, x_ref, x_long, x_args, x_nar, xKd, xst1, xst2, xlg, Option.bind_some, Option.bind_none, Option.map_some, Option.map_none, List.getElem?_cons_zero, List.getElem?_cons_succ, List.set_cons_zero, List.set_cons_succ, List.length_cons, List.length_nil, List.length_map, List.length_range, List.length_set, decide_eq_true_eq, if_true, if_false, reduceIte, reduceCtorEq, Bool.not_true, Bool.not_false, Bool.false_eq_true, x_ix_nI, ax_get, ax_set, e_aald, s_aast, true_and, and_true, ite_true, ite_false, ↓bI_01, bI_eq0, bI_eq1, bool_or, tern_pure, and_pure, or_pure, bI_def, bne_t, ndf, decide_not, Bool.decide_eq_true, Bool.decide_and, Bool.decide_or, Nat.reduceEqDiff, Nat.reduceAdd, Nat.reduceMul, Nat.reduceSub, Nat.reduceLT, Nat.reduceLeDiff, or_false, false_or, or_true, true_or, and_false, false_and, Bool.or_eq_true, Bool.and_eq_true, Bool.or_false, Bool.or_true, Bool.true_or, Bool.false_or, Bool.and_true, Bool.and_false, Bool.true_and, Bool.false_and, decide_true, decide_false, not_true_eq_false, not_false_eq_true, xf0, xf1, xf2, xf3, xf4, xf5, xf6, xf7, xf8, xf9, xf10, xf11, xf12, xf13, xf14, xf15, xf16, xf17, xf18, xf19, xf20, xf21, xf22, xf23, xf24, xf25, xf26, xf27, nI_ltI]
    simp only [pf]
    by_cases y : l.length ≤ i
    · rw [if_pos y]
      rw [decide_eq_false (by omega)] at c0
      refine ⟨none, [some (.ref 106), u], h, ?_, rfl, fun _ => ⟨_, _, _, H⟩, ⟨_, _, _, _, H⟩, xFr.rf _ _⟩
      rw [s_loop_step, s_step_end c0]
      rfl
    · rw [if_neg y]
      have y : i < l.length := by omega
      rw [decide_eq_true y] at c0
      obtain ⟨h1', a1, a2, a3⟩ := takesItem_r H K hl ha y
      have s1 : (s_iasg 1 (e_fld 10 17 (e_al 0))) [some (.ref 106), u] h = some (none, [some (.ref 106), some (.int (nI i))], h) := by
        obtain ⟨xf0, xf1, xf2, xf3, xf4, xf5, xf6, xf7, xf8, xf9, xf10, xf11, xf12, xf13, xf14, xf15, xf16, xf17, xf18, xf19, xf20, xf21, xf22, xf23, xf24, xf25, xf26, xf27⟩ := rfs h00
        simp only [x_out, s_seq, s_ite, s_ret, s_retZ, s_retV, s_iasg, s_aasg, s_lasg, s_inc, s_put, s_putop, s_ast, s_astop, s_exp, s_call, s_skip, s_brk, s_cont, s_oinit, e_lit, e_long, e_il, e_al, e_ll, e_bin, e_un, e_fld, e_ald, e_tern, e_call, e_alen, b_cmp, b_cmp0, b_lcmp, b_and, b_or, b_not, o_add, o_sub, o_mul, o_and, o_or, o_xor, o_shl, o_shr, o_neg, o_i2l, o_l2i, o_i2c, r_eq, r_ne, r_lt, r_ge, r_gt, r_le, r_eq0, r_ne0, r_lt0, r_ge0, r_gt0, r_le0, x_int, x_ref, x_long, x_args, x_nar, xKd, xst1, xst2, xlg, Option.bind_some, Option.bind_none, Option.map_some, Option.map_none, List.getElem?_cons_zero, List.getElem?_cons_succ, List.set_cons_zero, List.set_cons_succ, List.length_cons, List.length_nil, List.length_map, List.length_range, List.length_set, decide_eq_true_eq, if_true, if_false, reduceIte, reduceCtorEq, Bool.not_true, Bool.not_false, Bool.false_eq_true, x_ix_nI, ax_get, ax_set, e_aald, s_aast, true_and, and_true, ite_true, ite_false, ↓bI_01, bI_eq0, bI_eq1, bool_or, tern_pure, and_pure, or_pure, bI_def, bne_t, ndf, decide_not, Bool.decide_eq_true, Bool.decide_and, Bool.decide_or, Nat.reduceEqDiff, Nat.reduceAdd, Nat.reduceMul, Nat.reduceSub, Nat.reduceLT, Nat.reduceLeDiff, or_false, false_or, or_true, true_or, and_false, false_and, Bool.or_eq_true, Bool.and_eq_true, Bool.or_false, Bool.or_true, Bool.true_or, Bool.false_or, Bool.and_true, Bool.and_false, Bool.true_and, Bool.false_and, decide_true, decide_false, not_true_eq_false, not_false_eq_true, xf0, xf1, xf2, xf3, xf4, xf5, xf6, xf7, xf8, xf9, xf10, xf11, xf12, xf13, xf14, xf15, xf16, xf17, xf18, xf19, xf20, xf21, xf22, xf23, xf24, xf25, xf26, xf27]
      have c1 := call0 (env := [some (.ref 106), some (.int (nI i))]) rfl a1
      rw [itR_C K.1] at a1 a3 c1
      cases e : itC l i T ot with
      | none =>
        rw [e] at a3 c1
        dsimp only at a3 ⊢
        refine ⟨some (.inr (some (.int (nI i)))), [some (.ref 106), some (.int (nI i))], h1', ?_, rfl, fun z => absurd z (by simp), a3, a2⟩
        have c2 : (b_not (b_cmp0 r_ne0 (e_call m_X10_takesItem [(e_al 0)]))) [some (.ref 106), some (.int (nI i))] h = some (true, h1') := by
          simp only [b_not, b_cmp0, c1, Option.bind_some, Option.map_some, x_int, r_ne0]
          rfl
        have s2 : la_X10_faultOf_1 [some (.ref 106), u] h = some (some (.inr (some (.int (nI i)))), [some (.ref 106), some (.int (nI i))], h1') := by
          unfold la_X10_faultOf_1
          rw [s_seq_n s1, s_ite_t c2]
          simp only [x_out, s_seq, s_ite, s_ret, s_retZ, s_retV, s_iasg, s_aasg, s_lasg, s_inc, s_put, s_putop, s_ast, s_astop, s_exp, s_call, s_skip, s_brk, s_cont, s_oinit, e_lit, e_long, e_il, e_al, e_ll, e_bin, e_un, e_fld, e_ald, e_tern, e_call, e_alen, b_cmp, b_cmp0, b_lcmp, b_and, b_or, b_not, o_add, o_sub, o_mul, o_and, o_or, o_xor, o_shl, o_shr, o_neg, o_i2l, o_l2i, o_i2c, r_eq, r_ne, r_lt, r_ge, r_gt, r_le, r_eq0, r_ne0, r_lt0, r_ge0, r_gt0, r_le0, x_fld, x_int, x_ref, x_long, x_args, x_nar, xKd, xst1, xst2, xlg, Option.bind_some, Option.bind_none, Option.map_some, Option.map_none, List.getElem?_cons_zero, List.getElem?_cons_succ, List.set_cons_zero, List.set_cons_succ, List.length_cons, List.length_nil, List.length_map, List.length_range, List.length_set, decide_eq_true_eq, if_true, if_false, reduceIte, reduceCtorEq, Bool.not_true, Bool.not_false, Bool.false_eq_true, x_ix_nI, ax_get, ax_set, e_aald, s_aast, true_and, and_true, ite_true, ite_false, ↓bI_01, bI_eq0, bI_eq1, bool_or, tern_pure, and_pure, or_pure, bI_def, bne_t, ndf, decide_not, Bool.decide_eq_true, Bool.decide_and, Bool.decide_or, Nat.reduceEqDiff, Nat.reduceAdd, Nat.reduceMul, Nat.reduceSub, Nat.reduceLT, Nat.reduceLeDiff, or_false, false_or, or_true, true_or, and_false, false_and, Bool.or_eq_true, Bool.and_eq_true, Bool.or_false, Bool.or_true, Bool.true_or, Bool.false_or, Bool.and_true, Bool.and_false, Bool.true_and, Bool.false_and, decide_true, decide_false, not_true_eq_false, not_false_eq_true]
        rw [s_loop_step, s_step_ret c0 s2]
        rfl
      | some r =>
        obtain ⟨T', ot', j⟩ := r
        rw [e] at a3 c1
        obtain ⟨K', i1, i2⟩ := itC_spec K e
        obtain ⟨nm', H'⟩ := a3
        dsimp only
        obtain ⟨o, env', h', x1, x2, x3, x4, x5⟩ := ih j T' ot' nm' h1' (some (.int (nI i))) (by omega) i2 K' H'
        refine ⟨o, env', h', ?_, x2, x3, x4, (a2.trans x5).mono fun b hb => hb.elim id id⟩
        have c2 : (b_not (b_cmp0 r_ne0 (e_call m_X10_takesItem [(e_al 0)]))) [some (.ref 106), some (.int (nI i))] h = some (false, h1') := by
          simp only [b_not, b_cmp0, c1, Option.bind_some, Option.map_some, x_int, r_ne0]
          rfl
        have s2 : la_X10_faultOf_1 [some (.ref 106), u] h = some (none, [some (.ref 106), some (.int (nI i))], h1') := by
          unfold la_X10_faultOf_1
          rw [s_seq_n s1, s_ite_f c2, skip_n]
        rw [s_loop_step, s_step_on c0 s2 (show lu_X10_faultOf_1 _ h1' = some (none, _, h1') from rfl)]
        exact x1
end RJ
