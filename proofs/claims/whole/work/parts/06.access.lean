/-! THE RULES of locals, fields, arrays, new cells, switches -/
section XA
variable {K : XK} {own : String} {cc : ByteArray} {ini bz : Bool} {fr lo pc : Nat} {env env' : XE} {st : List Value} {h : XH}
theorem g_istore_n {q : Fin 4} {i : Nat} {x : Int32} (C : xOK K own cc ini bz fr lo) (hd : decode cc pc = .ok (.istore_n q, 1)) (hi : (q : Nat) = i) (he : xst1 env i (.int x) = some env') (k : xG K (pc + 1) env' st h) : xG K pc env (.int x :: st) h := by
  obtain ⟨fl, p, l, e, R, s, m, args, below, meth, c, b, D, cI, n0, s0, rv0, hF, Q⟩ := K
  refine And.intro k.1 (fun hf H locs ls h1 h2 h3 h4 h5 => ?_)
  obtain ⟨hx, hb, hown, hts, hK, hini, hbs, hrc, hrs, hfr, hlo⟩ := C.1 hf
  have hn := xst1_lt he
  exact lv_istore_n hx hb hd hi (xLv_has h1) (by rw [← h1.1]; exact hn) rfl (fun ls' h' => k.2 hf H locs ls' (xst1_rel h1 he h') h2 h3 h4 h5)
theorem g_istore {i : Nat} {x : Int32} (C : xOK K own cc ini bz fr lo) (hd : decode cc pc = .ok (.istore i, 2)) (he : xst1 env i (.int x) = some env') (k : xG K (pc + 2) env' st h) : xG K pc env (.int x :: st) h := by
  obtain ⟨fl, p, l, e, R, s, m, args, below, meth, c, b, D, cI, n0, s0, rv0, hF, Q⟩ := K
  refine And.intro k.1 (fun hf H locs ls h1 h2 h3 h4 h5 => ?_)
  obtain ⟨hx, hb, hown, hts, hK, hini, hbs, hrc, hrs, hfr, hlo⟩ := C.1 hf
  have hn := xst1_lt he
  exact lv_istore hx hb hd (xLv_has h1) (by rw [← h1.1]; exact hn) rfl (fun ls' h' => k.2 hf H locs ls' (xst1_rel h1 he h') h2 h3 h4 h5)
theorem g_lstore_n {q : Fin 4} {i : Nat} {x : Int64} (C : xOK K own cc ini bz fr lo) (hd : decode cc pc = .ok (.lstore_n q, 1)) (hi : (q : Nat) = i) (he : xst2 env i (.long x) = some env') (k : xG K (pc + 1) env' st h) : xG K pc env (.long x :: st) h := by
  obtain ⟨fl, p, l, e, R, s, m, args, below, meth, c, b, D, cI, n0, s0, rv0, hF, Q⟩ := K
  refine And.intro k.1 (fun hf H locs ls h1 h2 h3 h4 h5 => ?_)
  obtain ⟨hx, hb, hown, hts, hK, hini, hbs, hrc, hrs, hfr, hlo⟩ := C.1 hf
  have hn := xst2_lt he
  exact lv_lstore_n hx hb hd hi (xLv_has h1) (by rw [← h1.1]; exact hn) rfl (fun ls' h' => k.2 hf H locs ls' (xst2_rel h1 he h') h2 h3 h4 h5)
theorem g_lstore {i : Nat} {x : Int64} (C : xOK K own cc ini bz fr lo) (hd : decode cc pc = .ok (.lstore i, 2)) (he : xst2 env i (.long x) = some env') (k : xG K (pc + 2) env' st h) : xG K pc env (.long x :: st) h := by
  obtain ⟨fl, p, l, e, R, s, m, args, below, meth, c, b, D, cI, n0, s0, rv0, hF, Q⟩ := K
  refine And.intro k.1 (fun hf H locs ls h1 h2 h3 h4 h5 => ?_)
  obtain ⟨hx, hb, hown, hts, hK, hini, hbs, hrc, hrs, hfr, hlo⟩ := C.1 hf
  have hn := xst2_lt he
  exact lv_lstore hx hb hd (xLv_has h1) (by rw [← h1.1]; exact hn) rfl (fun ls' h' => k.2 hf H locs ls' (xst2_rel h1 he h') h2 h3 h4 h5)
theorem g_astore_n {q : Fin 4} {i : Nat} {x : Nat} (C : xOK K own cc ini bz fr lo) (hd : decode cc pc = .ok (.astore_n q, 1)) (hi : (q : Nat) = i) (he : xst1 env i (.ref x) = some env') (k : xG K (pc + 1) env' st h) : xG K pc env (.ref x :: st) h := by
  obtain ⟨fl, p, l, e, R, s, m, args, below, meth, c, b, D, cI, n0, s0, rv0, hF, Q⟩ := K
  refine And.intro k.1 (fun hf H locs ls h1 h2 h3 h4 h5 => ?_)
  obtain ⟨hx, hb, hown, hts, hK, hini, hbs, hrc, hrs, hfr, hlo⟩ := C.1 hf
  have hn := xst1_lt he
  exact lv_astore_n hx hb hd hi (xLv_has h1) (by rw [← h1.1]; exact hn) rfl (fun ls' h' => k.2 hf H locs ls' (xst1_rel h1 he h') h2 h3 h4 h5)
theorem g_astore {i : Nat} {x : Nat} (C : xOK K own cc ini bz fr lo) (hd : decode cc pc = .ok (.astore i, 2)) (he : xst1 env i (.ref x) = some env') (k : xG K (pc + 2) env' st h) : xG K pc env (.ref x :: st) h := by
  obtain ⟨fl, p, l, e, R, s, m, args, below, meth, c, b, D, cI, n0, s0, rv0, hF, Q⟩ := K
  refine And.intro k.1 (fun hf H locs ls h1 h2 h3 h4 h5 => ?_)
  obtain ⟨hx, hb, hown, hts, hK, hini, hbs, hrc, hrs, hfr, hlo⟩ := C.1 hf
  have hn := xst1_lt he
  exact lv_astore hx hb hd (xLv_has h1) (by rw [← h1.1]; exact hn) rfl (fun ls' h' => k.2 hf H locs ls' (xst1_rel h1 he h') h2 h3 h4 h5)
theorem g_iinc {i : Nat} {n : Int} {x : Int32} (C : xOK K own cc ini bz fr lo) (hd : decode cc pc = .ok (.iinc i n, 3)) (hl : env[i]? = some (some (.int x))) (he : xst1 env i (.int (x + Int32.ofInt n)) = some env') (k : xG K (pc + 3) env' st h) : xG K pc env st h := by
  obtain ⟨fl, p, l, e, R, s, m, args, below, meth, c, b, D, cI, n0, s0, rv0, hF, Q⟩ := K
  refine And.intro k.1 (fun hf H locs ls h1 h2 h3 h4 h5 => ?_)
  obtain ⟨hx, hb, hown, hts, hK, hini, hbs, hrc, hrs, hfr, hlo⟩ := C.1 hf
  obtain ⟨j, hj⟩ := List.getElem?_of_mem (xLv_mem (b := b) hl)
  exact lv_iinc hx hb hd (xLv_has h1) hj rfl (by rw [← h1.1]; exact xst1_lt he) rfl (fun ls' h' => k.2 hf H locs ls' (xst1_rel h1 he h') h2 h3 h4 h5)
theorem g_getf {idx ci f a : Nat} {fs : List Value} {v : Value} (C : xOK K own cc ini bz fr lo) (hd : decode cc pc = .ok (.getfield idx, 3)) (hQ : xFld own idx ci f) (hh : h[a]? = some (.inl (ci, fs))) (hv : fs[f]? = some v) (k : xG K (pc + 3) env (v :: st) h) : xG K pc env (.ref a :: st) h := by
  obtain ⟨fl, p, l, e, R, s, m, args, below, meth, c, b, D, cI, n0, s0, rv0, hF, Q⟩ := K
  refine And.intro k.1 (fun hf H locs ls h1 h2 h3 h4 h5 => ?_)
  obtain ⟨hx, hb, hown, hts, hK, hini, hbs, hrc, hrs, hfr, hlo⟩ := C.1 hf
  obtain ⟨r, hr, hk, hw⟩ := hQ
  obtain ⟨o1, -, -⟩ := xCl_ok ci r hr
  exact va_get (D := D) (cl := xCl) (ci := ci) (C := r.1) (T := r.2.1) (N := r.2.2) hx hb hts o1 hown hK (xP1 (h2.2 a _ hh)) 0 rfl hr f hk (hts _ hw) (fun _ h9 => h9) (v := xv b v) (by rw [List.getElem?_map, hv]; rfl) hd (k.2 hf H locs ls h1 h2 h3 h4 h5)
theorem g_putf {idx ci f kd a : Nat} {fs : List Value} {v : Value} (C : xOK K own cc ini bz fr lo) (hd : decode cc pc = .ok (.putfield idx, 3)) (hQ : xPut own idx ci f kd ini) (hh : h[a]? = some (.inl (ci, fs))) (hl : f < fs.length) (hv : xKd kd v = true) (k : xG K (pc + 3) env st (h.set a (.inl (ci, fs.set f v)))) : xG K pc env (v :: .ref a :: st) h := by
  obtain ⟨fl, p, l, e, R, s, m, args, below, meth, c, b, D, cI, n0, s0, rv0, hF, Q⟩ := K
  have k1 := k.1
  have hS : xsl (h.set a (.inl (ci, fs.set f v))) = xsl h := xsl_set hh (by simp [xSz])
  rw [List.length_set, hS] at k1
  refine And.intro k1 (fun hf H locs ls h1 h2 h3 h4 h5 => ?_)
  obtain ⟨hx, hb, hown, hts, hK, hini, hbs, hrc, hrs, hfr, hlo⟩ := C.1 hf
  obtain ⟨r, ty, hr, hk, hw, hty, hkt, hfin⟩ := hQ
  obtain ⟨o1, ⟨ty0, o2⟩, o3⟩ := xCl_ok ci r hr
  obtain ⟨z1, z2⟩ := xKd_ok (b := b) hv hkt
  have hal : a < h.length := (List.getElem?_eq_some_iff.mp hh).1
  have kk := k.2 hf
  rw [hS, List.length_set] at kk
  obtain ⟨r', e1, cell, q1, q2, q3, q4⟩ := h2.2 a _ hh
  have hrr : r' = r := Option.some.inj (e1.symm.trans hr)
  subst hrr
  obtain ⟨hSl, hfc, kC, hkC, hkind⟩ := hK.1 ci _ hr
  obtain ⟨cf, kf, fi, fd, hi, hsl⟩ := hSl f hk
  have hap := va_apart (own := own) hts o1 ty0 o2 o3 hK hr
  have hlay := hts _ (o1 _ (u_in_lay hk))
  have hst := (u_facts hfc hkC (u_lays hts o1 hk) hi).1
  have hfit := u_fits hfc hkC hkind (u_lays hts o1 hk) hi hty z1 z2
  have hend : ∀ H' : Heap, H'[b + a]? = some (cell.setSlot fd.slot (xv b v)) → H'.size = H.size → (∀ q, q ≠ b + a → H'[q]? = H[q]?) → W p l e R s m args below meth c H' (locs ++ [⟨b + a, fd.slot⟩]) (h.length - n0) (xsl h - s0) Q (F0 m (pc + 3) ls (st.map (xv b))) := by
    intro H' f1 f2 f3
    refine kk H' _ ls h1 (xAg_set h2 hal f2 f3 ?_) (fun q hq => ?_) (fun q hq => ?_) h5
    · rw [hsl] at f1
      refine ⟨r', hr, t_OB.to (V := updV (vp_V (fs.map (xv b))) f (xv b v)) ⟨_, f1, q2, q3, t_set q4 hap hk _⟩ (fun j _ => ?_)⟩
      rw [vp_updV_set (by rw [List.length_map]; exact hl)]
      show _ = vp_V ((fs.set f v).map (xv b)) j
      rw [List.map_set]
    · rw [f3 q (Nat.ne_of_lt (Nat.lt_of_lt_of_le hq (Nat.le_add_right b a)))]
      exact h3 q hq
    · rcases List.mem_append.mp hq with g | g
      · exact h4 q g
      · rw [List.mem_singleton.mp g]
        exact Nat.le_add_right b a
  cases hfl : (r'.2.1 f).2.2.2 with
  | false =>
    unfold u_lay at hlay
    rw [if_neg (by rw [hfl]; decide)] at hlay
    have h6 := u_store hfc hkC hkind hlay hi hty z1 z2
    exact W.putK hx hb (f := fd) ⟨hown, hts _ hw, ⟨_, _, _, hi⟩, hst⟩ (by rw [q2]; exact h6) q1 q3 (by rw [hsl]; exact k2_hasslot (q4 f hk)) rfl rfl hd hend
  | true =>
    unfold u_lay at hlay
    rw [if_pos hfl] at hlay
    obtain ⟨hi1, hdecl⟩ := hfin hfl
    have hcf : m.cls = cf := by
      obtain ⟨_, _, c', _, _, _, -, -, hf', -, -, -, hown2, -⟩ := Cond.laysFinal_spec hlay
      have e2 : c' = cf := by have := hi.symm.trans hf'; simp at this; exact this.1.symm
      rw [hdecl] at hown2
      rw [← e2]; exact Option.some.inj (hown.symm.trans hown2)
    exact W.putFinK hx hb hown (hts _ hw) hi hst hcf (hini hi1) (by rw [q2]; exact hfit) q1 q3 (by rw [hsl]; exact k2_hasslot (q4 f hk)) rfl rfl hd hend
theorem g_iald {a : Nat} {xs : List Int32} {i : Int32} (C : xOK K own cc ini bz fr lo) (hd : decode cc pc = .ok (.iaload, 1)) (hh : h[a]? = some (.inr (.inl (0, xs)))) (hi : vp_in i xs.length) (k : xG K (pc + 1) env (.int (xs.getD i.toNatClampNeg 0) :: st) h) : xG K pc env (.int i :: .ref a :: st) h := by
  obtain ⟨fl, p, l, e, R, s, m, args, below, meth, c, b, D, cI, n0, s0, rv0, hF, Q⟩ := K
  refine And.intro k.1 (fun hf H locs ls h1 h2 h3 h4 h5 => ?_)
  obtain ⟨hx, hb, hown, hts, hK, hini, hbs, hrc, hrs, hfr, hlo⟩ := C.1 hf
  exact va_iald (D := D) (cl := xCl) (tys := xTy cI) (cA := cI 0) hx hb hK (xP1 (h2.2 a _ hh)) 0 0 rfl rfl hi hd (k.2 hf H locs ls h1 h2 h3 h4 h5)
theorem g_cald {a : Nat} {xs : List Int32} {i : Int32} (C : xOK K own cc ini bz fr lo) (hd : decode cc pc = .ok (.caload, 1)) (hh : h[a]? = some (.inr (.inl (1, xs)))) (hi : vp_in i xs.length) (k : xG K (pc + 1) env (.int (xs.getD i.toNatClampNeg 0) :: st) h) : xG K pc env (.int i :: .ref a :: st) h := by
  obtain ⟨fl, p, l, e, R, s, m, args, below, meth, c, b, D, cI, n0, s0, rv0, hF, Q⟩ := K
  refine And.intro k.1 (fun hf H locs ls h1 h2 h3 h4 h5 => ?_)
  obtain ⟨hx, hb, hown, hts, hK, hini, hbs, hrc, hrs, hfr, hlo⟩ := C.1 hf
  exact va_cald (D := D) (cl := xCl) (tys := xTy cI) (cA := cI 1) hx hb hK (xP1 (h2.2 a _ hh)) 0 1 rfl rfl hi hd (k.2 hf H locs ls h1 h2 h3 h4 h5)
theorem g_aald {a x : Nat} {rs : List (Option Nat)} {i : Int32} (C : xOK K own cc ini bz fr lo) (hd : decode cc pc = .ok (.aaload, 1)) (hh : h[a]? = some (.inr (.inr rs))) (hi : vp_in i rs.length) (hr : rs.getD i.toNatClampNeg none = some x) (k : xG K (pc + 1) env (.ref x :: st) h) : xG K pc env (.int i :: .ref a :: st) h := by
  obtain ⟨fl, p, l, e, R, s, m, args, below, meth, c, b, D, cI, n0, s0, rv0, hF, Q⟩ := K
  refine And.intro k.1 (fun hf H locs ls h1 h2 h3 h4 h5 => ?_)
  obtain ⟨hx, hb, hown, hts, hK, hini, hbs, hrc, hrs, hfr, hlo⟩ := C.1 hf
  have kk := k.2 hf H locs ls h1 h2 h3 h4 h5
  refine va_aldq (D := D) (cl := xCl) (tys := xTy cI) (cA := cI 2) hx hb hK (xP1 (h2.2 a _ hh)) 0 2 rfl rfl hi hd ?_
  show W _ _ _ _ _ _ _ _ _ _ _ _ _ _ _ (F0 m (pc + 1) ls (va_rf ((rs.getD i.toNatClampNeg none).map (fun a => b + a)) :: _))
  rw [hr]
  exact kk
theorem g_alen {a : Nat} {xs : List Int32} {t : Nat} (C : xOK K own cc ini bz fr lo) (hd : decode cc pc = .ok (.arraylength, 1)) (hh : h[a]? = some (.inr (.inl (t, xs)))) (ht : t < 2) (k : xG K (pc + 1) env (.int (Int32.ofNat xs.length) :: st) h) : xG K pc env (.ref a :: st) h := by
  obtain ⟨fl, p, l, e, R, s, m, args, below, meth, c, b, D, cI, n0, s0, rv0, hF, Q⟩ := K
  refine And.intro k.1 (fun hf H locs ls h1 h2 h3 h4 h5 => ?_)
  obtain ⟨hx, hb, hown, hts, hK, hini, hbs, hrc, hrs, hfr, hlo⟩ := C.1 hf
  have hz : ∃ ty : FieldType, (xTy cI)[t]? = some (cI t, ty) := by
    match t, ht with
    | 0, _ => exact ⟨_, rfl⟩
    | 1, _ => exact ⟨_, rfl⟩
  obtain ⟨ty, hz⟩ := hz
  refine W.alen (n := Int32.ofNat xs.length) hx hb (h2.2 a _ hh) ((hK.2 t _ hz).1 xs.length _) ?_ rfl rfl hd (k.2 hf H locs ls h1 h2 h3 h4 h5)
  show (arrV _ _ _).slots.size.toInt32 = _
  rw [arrV_size]
  try rfl
theorem g_alenR {a : Nat} {rs : List (Option Nat)} (C : xOK K own cc ini bz fr lo) (hd : decode cc pc = .ok (.arraylength, 1)) (hh : h[a]? = some (.inr (.inr rs))) (k : xG K (pc + 1) env (.int (Int32.ofNat rs.length) :: st) h) : xG K pc env (.ref a :: st) h := by
  obtain ⟨fl, p, l, e, R, s, m, args, below, meth, c, b, D, cI, n0, s0, rv0, hF, Q⟩ := K
  refine And.intro k.1 (fun hf H locs ls h1 h2 h3 h4 h5 => ?_)
  obtain ⟨hx, hb, hown, hts, hK, hini, hbs, hrc, hrs, hfr, hlo⟩ := C.1 hf
  refine W.alen (n := Int32.ofNat rs.length) hx hb (h2.2 a _ hh) ((hK.2 2 _ rfl).1 rs.length _) ?_ rfl rfl hd (k.2 hf H locs ls h1 h2 h3 h4 h5)
  show (arrV _ _ _).slots.size.toInt32 = _
  rw [arrV_size]
  try rfl
theorem g_iast {a : Nat} {xs : List Int32} {i x : Int32} (C : xOK K own cc ini bz fr lo) (hd : decode cc pc = .ok (.iastore, 1)) (hh : h[a]? = some (.inr (.inl (0, xs)))) (hi : vp_in i xs.length) (k : xG K (pc + 1) env st (h.set a (.inr (.inl (0, xs.set i.toNatClampNeg x))))) : xG K pc env (.int x :: .int i :: .ref a :: st) h := by
  obtain ⟨fl, p, l, e, R, s, m, args, below, meth, c, b, D, cI, n0, s0, rv0, hF, Q⟩ := K
  have k1 := k.1
  have hS : xsl (h.set a (.inr (.inl (0, xs.set i.toNatClampNeg x)))) = xsl h := xsl_set hh (by simp [xSz])
  rw [List.length_set, hS] at k1
  refine And.intro k1 (fun hf H locs ls h1 h2 h3 h4 h5 => ?_)
  obtain ⟨hx, hb, hown, hts, hK, hini, hbs, hrc, hrs, hfr, hlo⟩ := C.1 hf
  have hal : a < h.length := (List.getElem?_eq_some_iff.mp hh).1
  have kk := k.2 hf
  rw [hS, List.length_set] at kk
  have hcell := h2.2 a _ hh
  refine W.iast hx hb hcell ((hK.2 0 _ rfl).1 xs.length (fun j => .int (xs.getD j 0))) (fun q => by cases q) (by show ¬ (i < 0 ∨ (arrV _ _ _).slots.size ≤ _); rw [arrV_size]; exact hi) rfl rfl hd (fun H' f1 f2 f3 => ?_)
  refine kk H' _ ls h1 (xAg_set h2 hal f2 f3 ?_) (fun q hq => ?_) (fun q hq => ?_) h5
  · show H'[b + a]? = some (vp_cell _ _)
    rw [f1]
    show some ((vp_cell (cI 0) (xs.length, .inl (fun j => xs.getD j 0))).setSlot _ _) = some (vp_cell (cI 0) ((xs.set i.toNatClampNeg x).length, .inl (fun j => (xs.set i.toNatClampNeg x).getD j 0)))
    rw [vp_cell_i, vp_cell_i, arrV_store, List.length_set]
    congr 2
    funext q
    have hlt : i.toNatClampNeg < xs.length := Nat.not_le.mp fun q => hi (Or.inr q)
    by_cases hq : q = i.toNatClampNeg
    · subst hq
      simp [updV, hlt]
      try rfl
    · have hq2 : ¬ i.toNatClampNeg = q := fun z => hq z.symm
      simp [updV, hq, hq2]
  · rw [f3 q (Nat.ne_of_lt (Nat.lt_of_lt_of_le hq (Nat.le_add_right b a)))]
    exact h3 q hq
  · rcases List.mem_append.mp hq with g | g
    · exact h4 q g
    · rw [List.mem_singleton.mp g]
      exact Nat.le_add_right b a
theorem g_cast {a : Nat} {xs : List Int32} {i x : Int32} (C : xOK K own cc ini bz fr lo) (hd : decode cc pc = .ok (.castore, 1)) (hh : h[a]? = some (.inr (.inl (1, xs)))) (hi : vp_in i xs.length) (k : xG K (pc + 1) env st (h.set a (.inr (.inl (1, xs.set i.toNatClampNeg (vp_nar .char x)))))) : xG K pc env (.int x :: .int i :: .ref a :: st) h := by
  obtain ⟨fl, p, l, e, R, s, m, args, below, meth, c, b, D, cI, n0, s0, rv0, hF, Q⟩ := K
  have k1 := k.1
  have hS : xsl (h.set a (.inr (.inl (1, xs.set i.toNatClampNeg (vp_nar .char x))))) = xsl h := xsl_set hh (by simp [xSz])
  rw [List.length_set, hS] at k1
  refine And.intro k1 (fun hf H locs ls h1 h2 h3 h4 h5 => ?_)
  obtain ⟨hx, hb, hown, hts, hK, hini, hbs, hrc, hrs, hfr, hlo⟩ := C.1 hf
  have hal : a < h.length := (List.getElem?_eq_some_iff.mp hh).1
  have kk := k.2 hf
  rw [hS, List.length_set] at kk
  have hcell := h2.2 a _ hh
  refine W.cast hx hb hcell ((hK.2 1 _ rfl).1 xs.length (fun j => .int (xs.getD j 0))) (fun q => by cases q) (by show ¬ (i < 0 ∨ (arrV _ _ _).slots.size ≤ _); rw [arrV_size]; exact hi) rfl rfl hd (fun H' f1 f2 f3 => ?_)
  refine kk H' _ ls h1 (xAg_set h2 hal f2 f3 ?_) (fun q hq => ?_) (fun q hq => ?_) h5
  · show H'[b + a]? = some (vp_cell _ _)
    rw [f1]
    show some ((vp_cell (cI 1) (xs.length, .inl (fun j => xs.getD j 0))).setSlot _ _) = some (vp_cell (cI 1) ((xs.set i.toNatClampNeg (vp_nar .char x)).length, .inl (fun j => (xs.set i.toNatClampNeg (vp_nar .char x)).getD j 0)))
    rw [vp_cell_i, vp_cell_i, arrV_store, List.length_set]
    congr 2
    funext q
    have hlt : i.toNatClampNeg < xs.length := Nat.not_le.mp fun q => hi (Or.inr q)
    by_cases hq : q = i.toNatClampNeg
    · subst hq
      simp [updV, hlt, vp_nar]
      try rfl
    · have hq2 : ¬ i.toNatClampNeg = q := fun z => hq z.symm
      simp [updV, hq, hq2]
  · rw [f3 q (Nat.ne_of_lt (Nat.lt_of_lt_of_le hq (Nat.le_add_right b a)))]
    exact h3 q hq
  · rcases List.mem_append.mp hq with g | g
    · exact h4 q g
    · rw [List.mem_singleton.mp g]
      exact Nat.le_add_right b a
theorem g_aast {a y ci : Nat} {rs : List (Option Nat)} {fs : List Value} {i : Int32} (C : xOK K own cc ini bz fr lo) (hd : decode cc pc = .ok (.aastore, 1)) (hh : h[a]? = some (.inr (.inr rs))) (hi : vp_in i rs.length) (hy : h[y]? = some (.inl (6, fs))) (k : xG K (pc + 1) env st (h.set a (.inr (.inr (rs.set i.toNatClampNeg (some y)))))) : xG K pc env (.ref y :: .int i :: .ref a :: st) h := by
  obtain ⟨fl, p, l, e, R, s, m, args, below, meth, c, b, D, cI, n0, s0, rv0, hF, Q⟩ := K
  have k1 := k.1
  have hS : xsl (h.set a (.inr (.inr (rs.set i.toNatClampNeg (some y))))) = xsl h := xsl_set hh (by simp [xSz])
  rw [List.length_set, hS] at k1
  refine And.intro k1 (fun hf H locs ls h1 h2 h3 h4 h5 => ?_)
  obtain ⟨hx, hb, hown, hts, hK, hini, hbs, hrc, hrs, hfr, hlo⟩ := C.1 hf
  have hal : a < h.length := (List.getElem?_eq_some_iff.mp hh).1
  have kk := k.2 hf
  rw [hS, List.length_set] at kk
  have hcell := h2.2 a _ hh
  have hlt : i.toNatClampNeg < rs.length := Nat.not_le.mp fun q => hi (Or.inr q)
  have hi0 : ¬ i < 0 := fun q => hi (Or.inl q)
  obtain ⟨r', hr', cellV, g1, g2, g3, -⟩ := h2.2 y _ hy
  have hcls := (hK.1 6 (RX6, TX6, 7) rfl).2
  obtain ⟨kA, comp, t1, t2, t3, -⟩ := (hK.2 2 (cI 2, .object RX6) rfl).2
  have hcomp : comp = D.1 6 := Option.some.inj (t3.symm.trans hcls.1)
  subst hcomp
  obtain ⟨kC, hkC, -⟩ := id hcls.2
  refine W.aast hx hb hcell (fun q h => by cases h) (fun h => by cases h) t1 t2 rfl hkC ⟨hi0, by show _ < (arrV _ _ _).slots.size; rw [arrV_size]; exact hlt⟩ g1 (fun q h => by rw [g3] at h; cases h) (by rw [g2]; exact hkC) (by rw [g2]; exact va_assign hcls) rfl rfl hd (fun H' f1 f2 f3 => ?_)
  refine kk H' _ ls h1 (xAg_set h2 hal f2 f3 ?_) (fun q hq => ?_) (fun q hq => ?_) h5
  · show H'[b + a]? = some (vp_cell _ _)
    rw [f1]
    show some ((vp_cell (cI 2) (rs.length, .inr (.inr (.inr (.inr (fun j => (rs.getD j none).map (fun a => b + a))))))).setSlot _ _) = some (vp_cell (cI 2) ((rs.set i.toNatClampNeg (some y)).length, .inr (.inr (.inr (.inr (fun j => ((rs.set i.toNatClampNeg (some y)).getD j none).map (fun a => b + a)))))))
    rw [vp_cell_q, vp_cell_q, arrV_store, List.length_set]
    congr 2
    funext q
    by_cases hq : q = i.toNatClampNeg
    · subst hq
      simp [updV, va_rf, hlt]
    · have hq2 : ¬ i.toNatClampNeg = q := fun z => hq z.symm
      simp [updV, hq, hq2]
  · rw [f3 q (Nat.ne_of_lt (Nat.lt_of_lt_of_le hq (Nat.le_add_right b a)))]
    exact h3 q hq
  · rcases List.mem_append.mp hq with g | g
    · exact h4 q g
    · rw [List.mem_singleton.mp g]
      exact Nat.le_add_right b a
end XA
