/-! the methods of Math and Integer; the one String constant -/
theorem dJ9_abs_0f7a4_0 : decode cJ9_abs_0f7a4 0 = .ok (.iload_n 0, 1) := by decide +kernel
theorem dJ9_abs_0f7a4_1 : decode cJ9_abs_0f7a4 1 = .ok (.ifCond .ge 8, 3) := by decide +kernel
theorem dJ9_abs_0f7a4_4 : decode cJ9_abs_0f7a4 4 = .ok (.iload_n 0, 1) := by decide +kernel
theorem dJ9_abs_0f7a4_5 : decode cJ9_abs_0f7a4 5 = .ok (.ineg, 1) := by decide +kernel
theorem dJ9_abs_0f7a4_6 : decode cJ9_abs_0f7a4 6 = .ok (.goto 4, 3) := by decide +kernel
theorem dJ9_abs_0f7a4_9 : decode cJ9_abs_0f7a4 9 = .ok (.iload_n 0, 1) := by decide +kernel
theorem dJ9_abs_0f7a4_10 : decode cJ9_abs_0f7a4 10 = .ok (.ireturn, 1) := by decide +kernel
theorem dJ9_max_7cf53_0 : decode cJ9_max_7cf53 0 = .ok (.iload_n 0, 1) := by decide +kernel
theorem dJ9_max_7cf53_1 : decode cJ9_max_7cf53 1 = .ok (.iload_n 1, 1) := by decide +kernel
theorem dJ9_max_7cf53_2 : decode cJ9_max_7cf53 2 = .ok (.if_icmp .lt 7, 3) := by decide +kernel
theorem dJ9_max_7cf53_5 : decode cJ9_max_7cf53 5 = .ok (.iload_n 0, 1) := by decide +kernel
theorem dJ9_max_7cf53_6 : decode cJ9_max_7cf53 6 = .ok (.goto 4, 3) := by decide +kernel
theorem dJ9_max_7cf53_9 : decode cJ9_max_7cf53 9 = .ok (.iload_n 1, 1) := by decide +kernel
theorem dJ9_max_7cf53_10 : decode cJ9_max_7cf53 10 = .ok (.ireturn, 1) := by decide +kernel
theorem dJ9_min_7cf53_0 : decode cJ9_min_7cf53 0 = .ok (.iload_n 0, 1) := by decide +kernel
theorem dJ9_min_7cf53_1 : decode cJ9_min_7cf53 1 = .ok (.iload_n 1, 1) := by decide +kernel
theorem dJ9_min_7cf53_2 : decode cJ9_min_7cf53 2 = .ok (.if_icmp .gt 7, 3) := by decide +kernel
theorem dJ9_min_7cf53_5 : decode cJ9_min_7cf53 5 = .ok (.iload_n 0, 1) := by decide +kernel
theorem dJ9_min_7cf53_6 : decode cJ9_min_7cf53 6 = .ok (.goto 4, 3) := by decide +kernel
theorem dJ9_min_7cf53_9 : decode cJ9_min_7cf53 9 = .ok (.iload_n 1, 1) := by decide +kernel
theorem dJ9_min_7cf53_10 : decode cJ9_min_7cf53 10 = .ok (.ireturn, 1) := by decide +kernel
def bd_J9_abs_0f7a4 : XS := (s_ret (e_tern (b_cmp0 r_lt0 (e_il 0)) (e_un o_neg (e_il 0)) (e_il 0)))
def m_J9_abs_0f7a4 : XF := xMS 1 1 false bd_J9_abs_0f7a4
theorem rc_J9_abs_0f7a4 : xArgs m_J9_abs_0f7a4 1 := xMS_args
theorem bo_J9_abs_0f7a4 {K : XK} (C : xOK K RJ9 cJ9_abs_0f7a4 false false 0 0) : CS K 0 bd_J9_abs_0f7a4 11 0 0 :=
 (cs_ret (p1 := 10) C (ce_tern (pT := 4) (pF := 9) (p1 := 6) C (cc_lt0N (p1 := 1) C (ce_iln C dJ9_abs_0f7a4_0 rfl) dJ9_abs_0f7a4_1 (by decide) rfl) (ce_un (ce_iln C dJ9_abs_0f7a4_4 rfl) (ob_neg C dJ9_abs_0f7a4_5)) dJ9_abs_0f7a4_6 (by decide) (ce_iln C dJ9_abs_0f7a4_9 rfl)) dJ9_abs_0f7a4_10)
theorem good_J9_abs_0f7a4 : xGood yJ9_abs_0f7a4 cJ9_abs_0f7a4 1 (some .int) 0 0 m_J9_abs_0f7a4 :=
  x_methS (ini := false) (bz := false) (Or.inl ⟨rfl, rfl⟩) ⟨fun h => by cases h, fun h => by cases h⟩ (fun h => by cases h) (by decide) (fun K C => bo_J9_abs_0f7a4 C)

def bd_J9_max_7cf53 : XS := (s_ret (e_tern (b_cmp r_ge (e_il 0) (e_il 1)) (e_il 0) (e_il 1)))
def m_J9_max_7cf53 : XF := xMS 2 2 false bd_J9_max_7cf53
theorem rc_J9_max_7cf53 : xArgs m_J9_max_7cf53 2 := xMS_args
theorem bo_J9_max_7cf53 {K : XK} (C : xOK K RJ9 cJ9_max_7cf53 false false 0 0) : CS K 0 bd_J9_max_7cf53 11 0 0 :=
 (cs_ret (p1 := 10) C (ce_tern (pT := 5) (pF := 9) (p1 := 6) C (cc_geN (p1 := 1) (p2 := 2) C (ce_iln C dJ9_max_7cf53_0 rfl) (ce_iln C dJ9_max_7cf53_1 rfl) dJ9_max_7cf53_2 (by decide) rfl) (ce_iln C dJ9_max_7cf53_5 rfl) dJ9_max_7cf53_6 (by decide) (ce_iln C dJ9_max_7cf53_9 rfl)) dJ9_max_7cf53_10)
theorem good_J9_max_7cf53 : xGood yJ9_max_7cf53 cJ9_max_7cf53 2 (some .int) 0 0 m_J9_max_7cf53 :=
  x_methS (ini := false) (bz := false) (Or.inl ⟨rfl, rfl⟩) ⟨fun h => by cases h, fun h => by cases h⟩ (fun h => by cases h) (by decide) (fun K C => bo_J9_max_7cf53 C)

def bd_J9_min_7cf53 : XS := (s_ret (e_tern (b_cmp r_le (e_il 0) (e_il 1)) (e_il 0) (e_il 1)))
def m_J9_min_7cf53 : XF := xMS 2 2 false bd_J9_min_7cf53
theorem rc_J9_min_7cf53 : xArgs m_J9_min_7cf53 2 := xMS_args
theorem bo_J9_min_7cf53 {K : XK} (C : xOK K RJ9 cJ9_min_7cf53 false false 0 0) : CS K 0 bd_J9_min_7cf53 11 0 0 :=
 (cs_ret (p1 := 10) C (ce_tern (pT := 5) (pF := 9) (p1 := 6) C (cc_leN (p1 := 1) (p2 := 2) C (ce_iln C dJ9_min_7cf53_0 rfl) (ce_iln C dJ9_min_7cf53_1 rfl) dJ9_min_7cf53_2 (by decide) rfl) (ce_iln C dJ9_min_7cf53_5 rfl) dJ9_min_7cf53_6 (by decide) (ce_iln C dJ9_min_7cf53_9 rfl)) dJ9_min_7cf53_10)
theorem good_J9_min_7cf53 : xGood yJ9_min_7cf53 cJ9_min_7cf53 2 (some .int) 0 0 m_J9_min_7cf53 :=
  x_methS (ini := false) (bz := false) (Or.inl ⟨rfl, rfl⟩) ⟨fun h => by cases h, fun h => by cases h⟩ (fun h => by cases h) (by decide) (fun K C => bo_J9_min_7cf53 C)

def bd_J6_bitCount_0f7a4 : XS := (s_seq (s_iasg 0 (e_bin o_sub (e_il 0) (e_bin o_and (e_bin o_ushr (e_il 0) (e_lit 1)) (e_lit 1431655765))))
 (s_seq (s_iasg 0 (e_bin o_add (e_bin o_and (e_il 0) (e_lit 858993459)) (e_bin o_and (e_bin o_ushr (e_il 0) (e_lit 2)) (e_lit 858993459))))
 (s_seq (s_iasg 0 (e_bin o_and (e_bin o_add (e_il 0) (e_bin o_ushr (e_il 0) (e_lit 4))) (e_lit 252645135)))
 (s_seq (s_iasg 0 (e_bin o_add (e_il 0) (e_bin o_ushr (e_il 0) (e_lit 8))))
 (s_seq (s_iasg 0 (e_bin o_add (e_il 0) (e_bin o_ushr (e_il 0) (e_lit 16))))
 (s_ret (e_bin o_and (e_il 0) (e_lit 63))))))))
def m_J6_bitCount_0f7a4 : XF := xMS 1 1 false bd_J6_bitCount_0f7a4
theorem rc_J6_bitCount_0f7a4 : xArgs m_J6_bitCount_0f7a4 1 := xMS_args
theorem bo_J6_bitCount_0f7a4 {K : XK} (C : xOK K RJ6 cJ6_bitCount_0f7a4 false false 0 0) : CS K 0 bd_J6_bitCount_0f7a4 53 0 0 :=
 (cs_seq (p1 := 10) (cs_iasgn (p1 := 9) C (ce_bin (p1 := 1) (p2 := 8) (ce_iln C dJ6_bitCount_0f7a4_0 rfl) (ce_bin (p1 := 4) (p2 := 7) (ce_bin (p1 := 2) (p2 := 3) (ce_iln C dJ6_bitCount_0f7a4_1 rfl) (ce_iconst C dJ6_bitCount_0f7a4_2 (by decide)) (ob_ushr C dJ6_bitCount_0f7a4_3)) (ce_ldcw C dJ6_bitCount_0f7a4_4 kJ6_265) (ob_and C dJ6_bitCount_0f7a4_7)) (ob_sub C dJ6_bitCount_0f7a4_8)) dJ6_bitCount_0f7a4_9 rfl)
 (cs_seq (p1 := 24) (cs_iasgn (p1 := 23) C (ce_bin (p1 := 15) (p2 := 22) (ce_bin (p1 := 11) (p2 := 14) (ce_iln C dJ6_bitCount_0f7a4_10 rfl) (ce_ldcw C dJ6_bitCount_0f7a4_11 kJ6_266) (ob_and C dJ6_bitCount_0f7a4_14)) (ce_bin (p1 := 18) (p2 := 21) (ce_bin (p1 := 16) (p2 := 17) (ce_iln C dJ6_bitCount_0f7a4_15 rfl) (ce_iconst C dJ6_bitCount_0f7a4_16 (by decide)) (ob_ushr C dJ6_bitCount_0f7a4_17)) (ce_ldcw C dJ6_bitCount_0f7a4_18 kJ6_266) (ob_and C dJ6_bitCount_0f7a4_21)) (ob_add C dJ6_bitCount_0f7a4_22)) dJ6_bitCount_0f7a4_23 rfl)
 (cs_seq (p1 := 34) (cs_iasgn (p1 := 33) C (ce_bin (p1 := 29) (p2 := 32) (ce_bin (p1 := 25) (p2 := 28) (ce_iln C dJ6_bitCount_0f7a4_24 rfl) (ce_bin (p1 := 26) (p2 := 27) (ce_iln C dJ6_bitCount_0f7a4_25 rfl) (ce_iconst C dJ6_bitCount_0f7a4_26 (by decide)) (ob_ushr C dJ6_bitCount_0f7a4_27)) (ob_add C dJ6_bitCount_0f7a4_28)) (ce_ldcw C dJ6_bitCount_0f7a4_29 kJ6_267) (ob_and C dJ6_bitCount_0f7a4_32)) dJ6_bitCount_0f7a4_33 rfl)
 (cs_seq (p1 := 41) (cs_iasgn (p1 := 40) C (ce_bin (p1 := 35) (p2 := 39) (ce_iln C dJ6_bitCount_0f7a4_34 rfl) (ce_bin (p1 := 36) (p2 := 38) (ce_iln C dJ6_bitCount_0f7a4_35 rfl) (ce_bipush C dJ6_bitCount_0f7a4_36 (by decide)) (ob_ushr C dJ6_bitCount_0f7a4_38)) (ob_add C dJ6_bitCount_0f7a4_39)) dJ6_bitCount_0f7a4_40 rfl)
 (cs_seq (p1 := 48) (cs_iasgn (p1 := 47) C (ce_bin (p1 := 42) (p2 := 46) (ce_iln C dJ6_bitCount_0f7a4_41 rfl) (ce_bin (p1 := 43) (p2 := 45) (ce_iln C dJ6_bitCount_0f7a4_42 rfl) (ce_bipush C dJ6_bitCount_0f7a4_43 (by decide)) (ob_ushr C dJ6_bitCount_0f7a4_45)) (ob_add C dJ6_bitCount_0f7a4_46)) dJ6_bitCount_0f7a4_47 rfl)
 (cs_ret (p1 := 52) C (ce_bin (p1 := 49) (p2 := 51) (ce_iln C dJ6_bitCount_0f7a4_48 rfl) (ce_bipush C dJ6_bitCount_0f7a4_49 (by decide)) (ob_and C dJ6_bitCount_0f7a4_51)) dJ6_bitCount_0f7a4_52))))))
theorem good_J6_bitCount_0f7a4 : xGood yJ6_bitCount_0f7a4 cJ6_bitCount_0f7a4 1 (some .int) 0 0 m_J6_bitCount_0f7a4 :=
  x_methS (ini := false) (bz := false) (Or.inl ⟨rfl, rfl⟩) ⟨fun h => by cases h, fun h => by cases h⟩ (fun h => by cases h) (by decide) (fun K C => bo_J6_bitCount_0f7a4 C)
def e_slen : XX := fun _ h => some (.int 84, h)
def e_sat (i : XX) : XX := fun env h => (i env h).bind fun r => (x_int r.1).bind fun x => (x_ix x 84).map fun j => (.int (xByt.getD j 0), r.2)
theorem ce_slen {K : XK} {cc : ByteArray} {ini bz : Bool} {fr lo d pc : Nat} (C : xOK K RX9 cc ini bz fr lo) (hd0 : decode cc pc = .ok (.ldc_w 274, 3)) (hd : decode cc (pc + 3) = .ok (.invokevirtual 276, 3)) (h1 : 4 ≤ fr) (h2 : 100 ≤ lo) : CE K d pc e_slen (pc + 6) := sorry
theorem ce_sat {K : XK} {cc : ByteArray} {ini bz : Bool} {fr lo d pc p2 : Nat} {i : XX} (C : xOK K RX9 cc ini bz fr lo) (hd0 : decode cc pc = .ok (.ldc_w 274, 3)) (hi : CE K (d + 2) (pc + 3) i p2) (hd : decode cc p2 = .ok (.invokevirtual 280, 3)) (h1 : 4 ≤ fr) (h2 : 100 ≤ lo) : CE K d pc (e_sat i) (p2 + 3) := sorry
theorem x_lk_X8_takeItem {a b c : XS} : ∀ x : Int, (match [(115, a), (119, b), (108, c)].findIdx? (fun (q : Int × XS) => decide (q.1 = x)) with
    | some j => (([52, 94, 136] : List Nat)[j]?).map (fun (t : Nat) => (t : Int))
    | none => some ((141 : Nat) : Int)) = some (((17 : Nat) : Int) + Op.lookupswitch.offset (#[(108, 119), (115, 35), (119, 77)] : Array (Int × Int)).toList 124 x) := by
  intro x
  by_cases h1 : x = 115
  · subst h1; decide
  by_cases h2 : x = 119
  · subst h2; decide
  by_cases h3 : x = 108
  · subst h3; decide
  have g1 : ¬ 115 = x := fun q => h1 q.symm
  have g2 : ¬ 119 = x := fun q => h2 q.symm
  have g3 : ¬ 108 = x := fun q => h3 q.symm
  simp [List.findIdx?_cons, g1, g2, g3, Op.lookupswitch.offset, h1, h2, h3]
