/-! A ROUND OF THE LAW: both halves answer the same -/
theorem xa_nil {env : XE} {g : XH} : x_args [] env g = some ([], g) := rfl
theorem xa_cons {e : XX} {es : List XX} {env : XE} {g : XH} {v : Value} {vs : List Value} (h1 : e env g = some (v, g)) (h2 : x_args es env g = some (vs, g)) : x_args (e :: es) env g = some (v :: vs, g) := by
  simp only [x_args, h1, h2, Option.bind_some, Option.map_some]
/-- what a case of the law's choice leaves -/
def Arm (n : Nat) (env : XE) (h : XH) (s : XS) : Prop := ∃ o Y' h', s env h = some (o, env, h') ∧ (o = some (.inl true) ∨ o = none) ∧ DAt h' Y' ∧ YOK (n + 1) Y' ∧ RAt h' Y' ∧ xFr (fun _ => True) h h'
theorem sel_all {P : XS → Prop} {d : XS} (hd : P d) {ks : List (Int × XS)} (hk : ∀ q, q ∈ ks → P q.2) (x : Int32) : P (s_sel ks d x) := by
  unfold s_sel
  cases e : ks.find? (fun (q : Int × XS) => decide (q.1 = x.toInt)) with
  | none => exact hd
  | some q => exact hk q (List.mem_of_find?_eq_some e)
theorem arm {n : Nat} {env : XE} {h : XH} {Y Y' : XSy} {fd fm : XF} {ad am : List XX} {vs : List Value} {a : Int32} (R : RAt h Y) (K' : YOK (n + 1) Y') (hd : ∃ h1, fd (.ref 0 :: vs) h = some (some (.int a), h1) ∧ DAt h1 Y' ∧ xFr dC h h1) (hm : ∀ g, RAt g Y → ∃ g', fm (.ref 106 :: vs) g = some (some (.int a), g') ∧ RAt g' Y' ∧ xFr rC g g') (xd : ∀ g, x_args ad env g = some (.ref 0 :: vs, g)) (xm : ∀ g, x_args am env g = some (.ref 106 :: vs, g)) : Arm n env h (s_ite (b_cmp r_ne (e_call fd ad) (e_call fm am)) (s_retZ (e_lit 0)) s_brk) := by
  obtain ⟨h1, e1, D1, F1⟩ := hd
  have R1 : RAt h1 Y := R.same fun b hb => F1.2.2 b (by unfold rC at hb; unfold dC; omega)
  obtain ⟨h2, e2, R2, F2⟩ := hm h1 R1
  have D2 : DAt h2 Y' := D1.same fun b hb => F2.2.2 b (by unfold dC at hb; unfold rC; omega)
  refine ⟨_, Y', h2, ?_, Or.inl rfl, D2, K', R2, (F1.trans F2).mono fun _ _ => trivial⟩
  have c1 : (e_call fd ad) env h = some (.int a, h1) := by
    simp only [e_call, xd, e1, Option.bind_some, Option.map_some]
  have c2 : (e_call fm am) env h1 = some (.int a, h2) := by
    simp only [e_call, xm, e2, Option.bind_some, Option.map_some]
  have c3 : (b_cmp r_ne (e_call fd ad) (e_call fm am)) env h = some (false, h2) := by
    simp only [b_cmp, c1, c2, Option.bind_some, Option.map_some, x_int, r_ne]
    simp
  rw [s_ite_f c3]
  rfl
/-- the law's frame of locals -/
def lE (b n : Nat) : XE := [some (.retAddr b), some (.ref 0), some (.ref 106), some (.int (nI (6 * n)))]
theorem sc_k {b L n : Nat} {xs : Nat → Int32} {k : Nat} {v : Int32} (hv : v = nI k) (hk : 6 * n + k < L) (hL : L ≤ 384) (g : XH) : (e_scr b L xs (e_bin o_add (e_il 3) (e_lit v))) (lE b n) g = some (.int (xs (6 * n + k)), g) := by
  subst hv
  have e : (e_bin o_add (e_il 3) (e_lit (nI k))) (lE b n) g = some (.int (nI (6 * n + k)), g) := by
    show (some (Value.int (nI (6 * n) + nI k), g)) = _
    rw [nI_add]
  have ix : x_ix (nI (6 * n + k)) L = some (6 * n + k) := x_ix_nI hk (by omega)
  show (if b = b then _ else _) = _
  rw [if_pos rfl]
  simp only [e, ix, x_int, Option.bind_some, Option.map_some]
theorem sc_0 {b L n : Nat} {xs : Nat → Int32} (hk : 6 * n < L) (hL : L ≤ 384) (g : XH) : (e_scr b L xs (e_il 3)) (lE b n) g = some (.int (xs (6 * n)), g) := by
  have e : (e_il 3) (lE b n) g = some (.int (nI (6 * n)), g) := rfl
  have ix : x_ix (nI (6 * n)) L = some (6 * n) := x_ix_nI hk (by omega)
  show (if b = b then _ else _) = _
  rw [if_pos rfl]
  simp only [e, ix, x_int, Option.bind_some, Option.map_some]
theorem fm_nil {P : XS → Prop} : ∀ q, q ∈ ([] : List (Int × XS)) → P q.2 := fun q hq => by cases hq
theorem fm_cons {P : XS → Prop} {k : Int} {s : XS} {l : List (Int × XS)} (h1 : P s) (h2 : ∀ q, q ∈ l → P q.2) : ∀ q, q ∈ (k, s) :: l → P q.2 := fun q hq => by
  rcases List.mem_cons.mp hq with rfl | hq
  · exact h1
  · exact h2 q hq
theorem sw_arm {n : Nat} {env : XE} {h : XH} {e : XX} {ks : List (Int × XS)} {d : XS} {x : Int32} (he : e env h = some (.int x, h)) (H : Arm n env h (s_sel ks d x)) : ∃ Y' h', s_sw e ks d env h = some (none, env, h') ∧ DAt h' Y' ∧ YOK (n + 1) Y' ∧ RAt h' Y' ∧ xFr (fun _ => True) h h' := by
  obtain ⟨o, Y', h', e1, e2, e3⟩ := H
  refine ⟨Y', h', ?_, e3⟩
  simp only [s_sw, he, Option.bind_some, x_int, e1, Option.map_some]
  rcases e2 with rfl | rfl <;> rfl
theorem law_arms {b L n : Nat} {xs : Nat → Int32} {h : XH} {Y : XSy} (hn : 6 * n + 6 ≤ L) (hL : L ≤ 384) (D : DAt h Y) (K : YOK n Y) (R : RAt h Y) : ∃ Y' h', la_L_law_1 b L xs (lE b n) h = some (none, lE b n, h') ∧ DAt h' Y' ∧ YOK (n + 1) Y' ∧ RAt h' Y' ∧ xFr (fun _ => True) h h' := by
  have hc : n < 1000 := by omega
  have s1 := sc_k (b := b) (L := L) (n := n) (xs := xs) (k := 1) (v := 1) rfl (by omega) hL
  have s2 := sc_k (b := b) (L := L) (n := n) (xs := xs) (k := 2) (v := 2) rfl (by omega) hL
  have s3 := sc_k (b := b) (L := L) (n := n) (xs := xs) (k := 3) (v := 3) rfl (by omega) hL
  have s4 := sc_k (b := b) (L := L) (n := n) (xs := xs) (k := 4) (v := 4) rfl (by omega) hL
  have s5 := sc_k (b := b) (L := L) (n := n) (xs := xs) (k := 5) (v := 5) rfl (by omega) hL
  generalize xs (6 * n + 1) = v1 at s1
  generalize xs (6 * n + 2) = v2 at s2
  generalize xs (6 * n + 3) = v3 at s3
  generalize xs (6 * n + 4) = v4 at s4
  generalize xs (6 * n + 5) = v5 at s5
  have a1 : ∀ g, (e_al 1) (lE b n) g = some (.ref 0, g) := fun g => rfl
  have a2 : ∀ g, (e_al 2) (lE b n) g = some (.ref 106, g) := fun g => rfl
  have sv : (e_bin o_and (e_scr b L xs (e_il 3)) (e_lit 31)) (lE b n) h = some (.int (xs (6 * n) &&& 31), h) := by
    have := sc_0 (b := b) (L := L) (n := n) (xs := xs) (by omega) hL h
    simp only [e_bin, this, e_lit, o_and, Option.bind_some, Option.map_some]
  have U := K.up hc
  unfold la_L_law_1
  refine sw_arm sv (sel_all ⟨none, Y, h, rfl, Or.inr rfl, D, U, R, xFr.rf _ _⟩ (fm_cons ?_ (fm_cons ?_ (fm_cons ?_ (fm_cons ?_ (fm_cons ?_ (fm_cons ?_ (fm_cons ?_ (fm_cons ?_ (fm_cons ?_ (fm_cons ?_ (fm_cons ?_ (fm_cons ?_ (fm_cons ?_ (fm_cons ?_ (fm_cons ?_ (fm_cons ?_ (fm_cons ?_ (fm_cons ?_ (fm_cons ?_ (fm_cons ?_ (fm_cons ?_ (fm_cons ?_ (fm_cons ?_ (fm_cons ?_ (fm_cons ?_ (fm_cons ?_ fm_nil)))))))))))))))))))))))))) _)
  · exact arm R (K.write hc v1) (write_d D K v1) (fun g G => write_m G K v1) (fun g => xa_cons (a1 g) (xa_cons (s1 g) xa_nil)) (fun g => xa_cons (a2 g) (xa_cons (s1 g) xa_nil))
  · exact arm R (K.wipe hc) (wipe_d D K) (fun g G => wipe_m G) (fun g => xa_cons (a1 g) xa_nil) (fun g => xa_cons (a2 g) xa_nil)
  · obtain ⟨J, e⟩ := fault_d D K
    exact arm R U e (fun g G => fault_m G K J) (fun g => xa_cons (a1 g) xa_nil) (fun g => xa_cons (a2 g) xa_nil)
  · obtain ⟨J, e⟩ := lay_d D K
    exact arm R (K.lay hc J) e (fun g G => lay_m G K J) (fun g => xa_cons (a1 g) xa_nil) (fun g => xa_cons (a2 g) xa_nil)
  · exact arm R U ⟨h, stile_d D K v1 v2, D, xFr.rf _ _⟩ (fun g G => ⟨g, stile_m G K v1 v2, G, xFr.rf _ _⟩) (fun g => xa_cons (a1 g) (xa_cons (s1 g) (xa_cons (s2 g) xa_nil))) (fun g => xa_cons (a2 g) (xa_cons (s1 g) (xa_cons (s2 g) xa_nil)))
  · exact arm R U ⟨h, walker_d D K v1 v2, D, xFr.rf _ _⟩ (fun g G => ⟨g, walker_m G K v1 v2, G, xFr.rf _ _⟩) (fun g => xa_cons (a1 g) (xa_cons (s1 g) (xa_cons (s2 g) xa_nil))) (fun g => xa_cons (a2 g) (xa_cons (s1 g) (xa_cons (s2 g) xa_nil)))
  · exact arm R U ⟨h, account_d D K v1 v2, D, xFr.rf _ _⟩ (fun g G => ⟨g, account_m G K v1 v2, G, xFr.rf _ _⟩) (fun g => xa_cons (a1 g) (xa_cons (s1 g) (xa_cons (s2 g) xa_nil))) (fun g => xa_cons (a2 g) (xa_cons (s1 g) (xa_cons (s2 g) xa_nil)))
  · exact arm R (K.tread hc v1 v2) (tread_d D K v1 v2) (fun g G => tread_m G K v1 v2) (fun g => xa_cons (a1 g) (xa_cons (s1 g) (xa_cons (s2 g) xa_nil))) (fun g => xa_cons (a2 g) (xa_cons (s1 g) (xa_cons (s2 g) xa_nil)))
  · exact arm R (K.replace hc v1) (replace_d D K v1) (fun g G => replace_m G K v1) (fun g => xa_cons (a1 g) (xa_cons (s1 g) xa_nil)) (fun g => xa_cons (a2 g) (xa_cons (s1 g) xa_nil))
  · exact arm R (K.sand hc v1) (sand_d D K v1) (fun g G => sand_m G K v1) (fun g => xa_cons (a1 g) (xa_cons (s1 g) xa_nil)) (fun g => xa_cons (a2 g) (xa_cons (s1 g) xa_nil))
  · exact arm R (K.undo hc) (undo_d D K) (fun g G => undo_m G K) (fun g => xa_cons (a1 g) xa_nil) (fun g => xa_cons (a2 g) xa_nil)
  · exact arm R U (way_d D K v1 v2 v3) (fun g G => way_m G K v1 v2 v3) (fun g => xa_cons (a1 g) (xa_cons (s1 g) (xa_cons (s2 g) (xa_cons (s3 g) xa_nil)))) (fun g => xa_cons (a2 g) (xa_cons (s1 g) (xa_cons (s2 g) (xa_cons (s3 g) xa_nil))))
  · exact arm R U (even_d D K v1) (fun g G => even_m G K v1) (fun g => xa_cons (a1 g) (xa_cons (s1 g) xa_nil)) (fun g => xa_cons (a2 g) (xa_cons (s1 g) xa_nil))
  · exact arm R U (measure_d D K v1) (fun g G => ⟨g, measure_m G K v1, G, xFr.rf _ _⟩) (fun g => xa_cons (a1 g) (xa_cons (s1 g) xa_nil)) (fun g => xa_cons (a2 g) (xa_cons (s1 g) xa_nil))
  · exact arm R U (fresh_d D K v1) (fun g G => fresh_m G K v1) (fun g => xa_cons (a1 g) (xa_cons (s1 g) xa_nil)) (fun g => xa_cons (a2 g) (xa_cons (s1 g) xa_nil))
  · exact arm R U ⟨h, lasts_d D K v1 v2, D, xFr.rf _ _⟩ (fun g G => ⟨g, lasts_m G K v1 v2, G, xFr.rf _ _⟩) (fun g => xa_cons (a1 g) (xa_cons (s1 g) (xa_cons (s2 g) xa_nil))) (fun g => xa_cons (a2 g) (xa_cons (s1 g) (xa_cons (s2 g) xa_nil)))
  · exact arm R U ⟨h, richest_d D K, D, xFr.rf _ _⟩ (fun g G => ⟨g, richest_m G K, G, xFr.rf _ _⟩) (fun g => xa_cons (a1 g) xa_nil) (fun g => xa_cons (a2 g) xa_nil)
  · exact arm R (K.see hc v1 v2) (see_d D K v1 v2) (fun g G => see_m G K v1 v2) (fun g => xa_cons (a1 g) (xa_cons (s1 g) (xa_cons (s2 g) xa_nil))) (fun g => xa_cons (a2 g) (xa_cons (s1 g) (xa_cons (s2 g) xa_nil)))
  · exact arm R (K.forget hc) (forget_d D K) (fun g G => forget_m G) (fun g => xa_cons (a1 g) xa_nil) (fun g => xa_cons (a2 g) xa_nil)
  · exact arm R U ⟨h, whose_d D K v1, D, xFr.rf _ _⟩ (fun g G => ⟨g, whose_m G K v1, G, xFr.rf _ _⟩) (fun g => xa_cons (a1 g) (xa_cons (s1 g) xa_nil)) (fun g => xa_cons (a2 g) (xa_cons (s1 g) xa_nil))
  · exact arm R U ⟨h, often_d D K v1 v2 v3, D, xFr.rf _ _⟩ (fun g G => ⟨g, often_m G K v1 v2 v3, G, xFr.rf _ _⟩) (fun g => xa_cons (a1 g) (xa_cons (s1 g) (xa_cons (s2 g) (xa_cons (s3 g) xa_nil)))) (fun g => xa_cons (a2 g) (xa_cons (s1 g) (xa_cons (s2 g) (xa_cons (s3 g) xa_nil))))
  · exact arm R U (drunk_d D K v1 v2 v3 v4 v5) (fun g G => ⟨g, drunk_m G K v1 v2 v3 v4 v5, G, xFr.rf _ _⟩) (fun g => xa_cons (a1 g) (xa_cons (s1 g) (xa_cons (s2 g) (xa_cons (s3 g) (xa_cons (s4 g) (xa_cons (s5 g) xa_nil)))))) (fun g => xa_cons (a2 g) (xa_cons (s1 g) (xa_cons (s2 g) (xa_cons (s3 g) (xa_cons (s4 g) (xa_cons (s5 g) xa_nil))))))
  · exact arm R U (year_d D K v1 v2 v3) (fun g G => year_m G K v1 v2 v3) (fun g => xa_cons (a1 g) (xa_cons (s1 g) (xa_cons (s2 g) (xa_cons (s3 g) xa_nil)))) (fun g => xa_cons (a2 g) (xa_cons (s1 g) (xa_cons (s2 g) (xa_cons (s3 g) xa_nil))))
  · exact arm R (K.keep hc) (keep_d D K) (fun g G => keep_m G K) (fun g => xa_cons (a1 g) xa_nil) (fun g => xa_cons (a2 g) xa_nil)
  · exact arm R (K.back hc) (back_d D K) (fun g G => back_m G K) (fun g => xa_cons (a1 g) xa_nil) (fun g => xa_cons (a2 g) xa_nil)
  · exact arm R U ⟨h, count_d D K v1, D, xFr.rf _ _⟩ (fun g G => ⟨g, count_m G K v1, G, xFr.rf _ _⟩) (fun g => xa_cons (a1 g) (xa_cons (s1 g) xa_nil)) (fun g => xa_cons (a2 g) (xa_cons (s1 g) xa_nil))
/-- the law's test, in numbers -/
theorem law_test {b L n : Nat} (hn : n ≤ 64) (hL : L ≤ 384) (xs : Nat → Int32) (h : XH) : lc_L_law_1 b L xs (lE b n) h = some (decide (6 * n + 6 ≤ L), h) := by
  have e1 : (e_il 3) (lE b n) h = some (.int (nI (6 * n)), h) := rfl
  have e2 : (e_bin o_sub (e_sclen b L) (e_lit 6)) (lE b n) h = some (.int (nI L - 6), h) := by
    have : (e_sclen b L) (lE b n) h = some (.int (nI L), h) := by
      show (if b = b then _ else _) = _
      rw [if_pos rfl]
      rfl
    simp only [e_bin, this, e_lit, o_sub, Option.bind_some, Option.map_some]
  unfold lc_L_law_1
  simp only [b_cmp, e1, e2, Option.bind_some, Option.map_some, x_int, r_le]
  have key : (nI (6 * n) ≤ nI L - 6) = (6 * n + 6 ≤ L) := by
    by_cases y : 6 ≤ L
    · rw [show (6 : Int32) = nI 6 from rfl, pk_sub y, nI_leI (by omega) (by omega)]
      apply propext
      omega
    · have z : ∀ l, l < 6 → nI l - 6 < 0 := by decide
      have z1 := z L (by omega)
      have z2 : (0 : Int32) ≤ nI (6 * n) := nI_pos' (by omega)
      apply propext
      refine ⟨fun w => ?_, fun w => by omega⟩
      exact absurd (Int32.lt_of_le_of_lt (Int32.le_trans z2 w) z1) (Int32.lt_irrefl)
  simp only [key]
/-- the whole law answers 1, at every script -/
theorem law_runs (b L : Nat) (xs : Nat → Int32) (hL : L ≤ 384) : ∃ (env' : XE) (h' : XH), bd_L_law b L xs [some (.retAddr b), none, none, none] [] = some (some (.inr (some (.int 1))), env', h') ∧ h'.length ≤ 600000 ∧ xsl h' ≤ 7302250 := by
  obtain ⟨l0, l1, l2⟩ := H0_len
  have s1 : (s_aasg 1 (e_new 9 m_X9_init [])) [some (.retAddr b), none, none, none] [] = some (none, [some (.retAddr b), some (.ref 0), none, none], H_1) := by
    have e : (e_new 9 m_X9_init []) [some (.retAddr b), none, none, none] [] = some (.ref 0, H_1) := by
      simp only [e_new, x_args, List.nil_append, List.length_nil, init_9, Option.bind_some, if_true]
    simp only [s_aasg, e, Option.bind_some, x_ref]
    rfl
  have s2 : (s_aasg 2 (e_new 10 m_X10_init [])) [some (.retAddr b), some (.ref 0), none, none] H_1 = some (none, [some (.retAddr b), some (.ref 0), some (.ref 106), none], H_0) := by
    have e : (e_new 10 m_X10_init []) [some (.retAddr b), some (.ref 0), none, none] H_1 = some (.ref 106, H_0) := by
      simp only [e_new, x_args, l1, init_10, Option.bind_some, if_true]
      rfl
    simp only [s_aasg, e, Option.bind_some, x_ref]
    rfl
  have s3 : (s_iasg 3 (e_lit 0)) [some (.retAddr b), some (.ref 0), some (.ref 106), none] H_0 = some (none, lE b 0, H_0) := rfl
  obtain ⟨env', h', lp, rfl, Y, -, -, -, F⟩ := s_loop_J (c := lc_L_law_1 b L xs) (a := la_L_law_1 b L xs) (u := lu_L_law_1 b L xs) (env := lE b 0) (h := H_0) (fun i env k => env = lE b i ∧ ∃ Y, DAt k Y ∧ YOK i Y ∧ RAt k Y ∧ xFr (fun _ => True) H_0 k) (L / 6) 1000 (by omega) ⟨rfl, Y_0, H0_D, Y0_ok, H0_R, xFr.rf _ _⟩
    (fun i env k hi hJ => by
      obtain ⟨rfl, Y, D, K, R, F⟩ := hJ
      have ct := law_test (b := b) (n := i) (by omega) hL xs k
      rw [decide_eq_true (by omega)] at ct
      obtain ⟨Y', k', a1, a2, a3, a4, a5⟩ := law_arms (b := b) (xs := xs) (n := i) (by omega) hL D K R
      refine ⟨lE b (i + 1), k', s_step_on ct a1 ?_, rfl, Y', a2, a3, a4, (F.trans a5).mono fun _ _ => trivial⟩
      have : nI (6 * i) + 6 = nI (6 * (i + 1)) := by
        rw [show (6 : Int32) = nI 6 from rfl, nI_add]
        congr 1
      show some ((none : XO), ([some (.retAddr b), some (.ref 0), some (.ref 106), some (.int (nI (6 * i) + 6))] : XE), k') = _
      rw [this]
      rfl)
    (fun env k hJ => by
      obtain ⟨rfl, -⟩ := hJ
      have ct := law_test (b := b) (n := L / 6) (by omega) hL xs k
      rw [decide_eq_false (by omega)] at ct
      exact s_step_end ct)
  refine ⟨lE b (L / 6), h', ?_, ?_, ?_⟩
  · unfold bd_L_law
    rw [s_seq_n s1, s_seq_n s2, s_seq_n s3, s_seq_n lp]
    exact ret_Z1 _ _
  · rw [F.1, l0]; omega
  · rw [F.2.1]; exact l2
