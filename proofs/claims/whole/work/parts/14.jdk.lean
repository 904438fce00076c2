/-! the methods of Math and Integer; the one String constant -/
def bd_J6_bitCount_0f7a4 : XS := (s_seq (s_iasg 0 (e_bin o_sub (e_il 0) (e_bin o_and (e_bin o_ushr (e_il 0) (e_lit 1)) (e_lit 1431655765))))
 (s_seq (s_iasg 0 (e_bin o_add (e_bin o_and (e_il 0) (e_lit 858993459)) (e_bin o_and (e_bin o_ushr (e_il 0) (e_lit 2)) (e_lit 858993459))))
 (s_seq (s_iasg 0 (e_bin o_and (e_bin o_add (e_il 0) (e_bin o_ushr (e_il 0) (e_lit 4))) (e_lit 252645135)))
 (s_seq (s_iasg 0 (e_bin o_add (e_il 0) (e_bin o_ushr (e_il 0) (e_lit 8))))
 (s_seq (s_iasg 0 (e_bin o_add (e_il 0) (e_bin o_ushr (e_il 0) (e_lit 16))))
 (s_ret (e_bin o_and (e_il 0) (e_lit 63))))))))
def m_J6_bitCount_0f7a4 : XF := xMS 1 1 false bd_J6_bitCount_0f7a4
theorem rc_J6_bitCount_0f7a4 : xArgs m_J6_bitCount_0f7a4 1 := xMS_args
theorem bo_J6_bitCount_0f7a4 {K : XK} (C : xOK K RJ6 cJ6_bitCount_0f7a4 false false 0 0) : CS K 0 bd_J6_bitCount_0f7a4 53 0 0 :=
 (cs_seq (p1 := 10) (cs_iasgn (p1 := 9) C (ce_bin (p1 := 1) (p2 := 8) (ce_iln C dJ6_bitCount_0f7a4_0 rfl) (ce_bin (p1 := 4) (p2 := 7) (ce_bin (p1 := 2) (p2 := 3) (ce_iln C dJ6_bitCount_0f7a4_1 rfl) (ce_iconst C dJ6_bitCount_0f7a4_2 (by decide)) (ob_ushr C dJ6_bitCount_0f7a4_3)) (ce_ldcw C dJ6_bitCount_0f7a4_4 kJ6_265) (ob_and C dJ6_bitCount_0f7a4_7)) (ob_sub C dJ6_bitCount_0f7a4_8)) dJ6_bitCount_0f7a4_9 rfl)
 (cs_seq (p1 := 24) (cs_iasgn (p1 := 23) C (ce_bin (p1 := 15) (p2 := 22) (ce_bin (p1 := 11) (p2 := 14) (ce_iln C dJ6_bitCount_0f7a4_10 rfl) (ce_ldcw C dJ6_bitCount_0f7a4_11 kJ6_266) (ob_and C dJ6_bitCount_0f7a4_14)) (ce_bin (p1 := 18) (p2 := 21) (ce_bin (p1 := 16) (p2 := 17) (ce_iln C dJ6_bitCount_0f7a4_15 rfl) (ce_iconst C dJ6_bitCount_0f7a4_16 (by decide)) (ob_ushr C dJ6_bitCount_0f7a4_17)) (ce_ldcw C dJ6_bitCount_0f7a4_18 kJ6_266) (ob_and C dJ6_bitCount_0f7a4_21)) (ob_add C dJ6_bitCount_0f7a4_22)) dJ6_bitCount_0f7a4_23 rfl)
 (cs_seq (p1 := 34) (cs_iasgn (p1 := 33) C (ce_bin (p1 := 29) (p2 := 32) (ce_bin (p1 := 25) (p2 := 28) (ce_iln C dJ6_bitCount_0f7a4_24 rfl) (ce_bin (p1 := 26) (p2 := 27) (ce_iln C dJ6_bitCount_0f7a4_25 rfl) (ce_iconst C dJ6_bitCount_0f7a4_26 (by decide)) (ob_ushr C dJ6_bitCount_0f7a4_27)) (ob_add C dJ6_bitCount_0f7a4_28)) (ce_ldcw C dJ6_bitCount_0f7a4_29 kJ6_267) (ob_and C dJ6_bitCount_0f7a4_32)) dJ6_bitCount_0f7a4_33 rfl)
 (cs_seq (p1 := 41) (cs_iasgn (p1 := 40) C (ce_bin (p1 := 35) (p2 := 39) (ce_iln C dJ6_bitCount_0f7a4_34 rfl) (ce_bin (p1 := 36) (p2 := 38) (ce_iln C dJ6_bitCount_0f7a4_35 rfl) (ce_bipush C dJ6_bitCount_0f7a4_36 (by decide)) (ob_ushr C dJ6_bitCount_0f7a4_38)) (ob_add C dJ6_bitCount_0f7a4_39)) dJ6_bitCount_0f7a4_40 rfl)
 (cs_seq (p1 := 48) (cs_iasgn (p1 := 47) C (ce_bin (p1 := 42) (p2 := 46) (ce_iln C dJ6_bitCount_0f7a4_41 rfl) (ce_bin (p1 := 43) (p2 := 45) (ce_iln C dJ6_bitCount_0f7a4_42 rfl) (ce_bipush C dJ6_bitCount_0f7a4_43 (by decide)) (ob_ushr C dJ6_bitCount_0f7a4_45)) (ob_add C dJ6_bitCount_0f7a4_46)) dJ6_bitCount_0f7a4_47 rfl)
 (cs_ret (p1 := 52) C (ce_bin (p1 := 49) (p2 := 51) (ce_iln C dJ6_bitCount_0f7a4_48 rfl) (ce_bipush C dJ6_bitCount_0f7a4_49 (by decide)) (ob_and C dJ6_bitCount_0f7a4_51)) dJ6_bitCount_0f7a4_52))))))
theorem good_J6_bitCount_0f7a4 : xGood yJ6_bitCount_0f7a4 cJ6_bitCount_0f7a4 1 (some .int) 0 0 m_J6_bitCount_0f7a4 :=
  x_methS (ini := false) (bz := false) (Or.inl ⟨rfl, rfl⟩) ⟨fun h => (by cases h), fun h => (by cases h)⟩ (fun h => by cases h) (by decide) (fun K C => bo_J6_bitCount_0f7a4 C)
def m_min : XF := fun args h => match args with
  | [.int x, .int y] => some (some (.int (if y < x then y else x)), h)
  | _ => none
theorem xCal_min {K : XK} {own : String} {cc : ByteArray} {ini bz : Bool} {fr lo pc idx : Nat} (C : xOK K own cc ini bz fr lo) (hd : decode cc pc = .ok (.invokestatic idx, 3)) (hW : xMathW own idx Lib.Math.min.name Lib.Math.min.code 2) (hr1 : 1 ≤ fr) (hr2 : 21 ≤ lo) : xCal K pc m_min := by
  intro env st args h rv h' hst hf k
  unfold m_min at hf
  split at hf
  · cases hf
    obtain ⟨fl, p, l, e, R, s, m, args0, below, meth, c, b, D, cI, n0, s0, rv0, hF, Q⟩ := K
    refine And.intro k.1 (fun hfl H locs ls h1 h2 h3 h4 h5 => ?_)
    obtain ⟨hx, hb, hown, hts, hK, hini, hbs, hrc, hrs, hfr, hlo, hex⟩ := C.1 hfl
    obtain ⟨w1, w2, w3, w4⟩ := hW
    have k1 := k.1
    have hsum := xv_sum b st
    exact va_mmin (rest := st.map (xv b)) hx hb h1.2.1.symm hown (hts _ w1) (hts _ w2) (hts _ w3) (hts _ w4) (Nat.le_trans hr1 hfr) (by omega) (by omega) (by omega) hd (k.2 hfl H locs ls h1 h2 h3 h4 h5)
  · cases hf
def m_max : XF := fun args h => match args with
  | [.int x, .int y] => some (some (.int (if x < y then y else x)), h)
  | _ => none
theorem xCal_max {K : XK} {own : String} {cc : ByteArray} {ini bz : Bool} {fr lo pc idx : Nat} (C : xOK K own cc ini bz fr lo) (hd : decode cc pc = .ok (.invokestatic idx, 3)) (hW : xMathW own idx Lib.Math.max.name Lib.Math.max.code 2) (hr1 : 1 ≤ fr) (hr2 : 21 ≤ lo) : xCal K pc m_max := by
  intro env st args h rv h' hst hf k
  unfold m_max at hf
  split at hf
  · cases hf
    obtain ⟨fl, p, l, e, R, s, m, args0, below, meth, c, b, D, cI, n0, s0, rv0, hF, Q⟩ := K
    refine And.intro k.1 (fun hfl H locs ls h1 h2 h3 h4 h5 => ?_)
    obtain ⟨hx, hb, hown, hts, hK, hini, hbs, hrc, hrs, hfr, hlo, hex⟩ := C.1 hfl
    obtain ⟨w1, w2, w3, w4⟩ := hW
    have k1 := k.1
    have hsum := xv_sum b st
    exact va_mmax (rest := st.map (xv b)) hx hb h1.2.1.symm hown (hts _ w1) (hts _ w2) (hts _ w3) (hts _ w4) (Nat.le_trans hr1 hfr) (by omega) (by omega) (by omega) hd (k.2 hfl H locs ls h1 h2 h3 h4 h5)
  · cases hf
def m_abs : XF := fun args h => match args with
  | [.int x] => some (some (.int (if 0 ≤ x then x else 0 - x)), h)
  | _ => none
theorem xCal_abs {K : XK} {own : String} {cc : ByteArray} {ini bz : Bool} {fr lo pc idx : Nat} (C : xOK K own cc ini bz fr lo) (hd : decode cc pc = .ok (.invokestatic idx, 3)) (hW : xMathW own idx Lib.Math.abs.name Lib.Math.abs.code 1) (hr1 : 1 ≤ fr) (hr2 : 21 ≤ lo) : xCal K pc m_abs := by
  intro env st args h rv h' hst hf k
  unfold m_abs at hf
  split at hf
  · cases hf
    obtain ⟨fl, p, l, e, R, s, m, args0, below, meth, c, b, D, cI, n0, s0, rv0, hF, Q⟩ := K
    refine And.intro k.1 (fun hfl H locs ls h1 h2 h3 h4 h5 => ?_)
    obtain ⟨hx, hb, hown, hts, hK, hini, hbs, hrc, hrs, hfr, hlo, hex⟩ := C.1 hfl
    obtain ⟨w1, w2, w3, w4⟩ := hW
    have k1 := k.1
    have hsum := xv_sum b st
    exact va_mabs (rest := st.map (xv b)) hx hb h1.2.1.symm hown (hts _ w1) (hts _ w2) (hts _ w3) (hts _ w4) (Nat.le_trans hr1 hfr) (by omega) (by omega) (by omega) hd (k.2 hfl H locs ls h1 h2 h3 h4 h5)
  · cases hf
