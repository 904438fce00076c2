/-! the methods, by program out of the sources: the reference -/
def bd_X10_in : XS := (s_retZ (e_tern (b_and (b_lcmp r_ge0 (e_ll 0) (e_ll 2)) (b_lcmp r_le0 (e_ll 0) (e_ll 4))) (e_lit 1) (e_lit 0)))
def m_X10_in : XF := xMS 3 6 false bd_X10_in
theorem rc_X10_in : xArgs m_X10_in 3 := xMS_args
set_option maxRecDepth 100000 in
set_option maxHeartbeats 4000000 in
theorem bo_X10_in {K : XK} (C : xOK K RX10 cX10_in false true 0 0) : CS K 0 bd_X10_in 19 0 0 :=
 (cs_retZ (p1 := 18) C (ce_tern (pT := 13) (pF := 17) (p1 := 14) C (cc_and (pM := 6) (cc_lgeN (p1 := 1) (p2 := 2) C (ce_lln C dX10_in_0 rfl) (ce_lln C dX10_in_1 rfl) dX10_in_2 dX10_in_3 (by decide) rfl) (cc_lleN (p1 := 7) (p2 := 9) C (ce_lln C dX10_in_6 rfl) (ce_ll C dX10_in_7) dX10_in_9 dX10_in_10 (by decide) rfl)) (ce_iconst C dX10_in_13 (by decide)) dX10_in_14 (by decide) (ce_iconst C dX10_in_17 (by decide))) dX10_in_18)
theorem good_X10_in : xGood yX10_in cX10_in 6 (some .boolean) 0 0 m_X10_in :=
  x_methS (ini := false) (bz := true) (Or.inr (Or.inl ⟨rfl, rfl⟩)) ⟨fun h => (by cases h), fun h => (by cases h)⟩ (fun h => by cases h) (by decide) (fun K C => bo_X10_in C)

def bd_X10_has : XS := (s_retZ (e_tern (b_cmp r_eq (e_bin o_and (e_bin o_shr (e_il 0) (e_il 1)) (e_lit 1)) (e_lit 1)) (e_lit 1) (e_lit 0)))
def m_X10_has : XF := xMS 2 2 false bd_X10_has
theorem rc_X10_has : xArgs m_X10_has 2 := xMS_args
set_option maxRecDepth 100000 in
set_option maxHeartbeats 4000000 in
theorem bo_X10_has {K : XK} (C : xOK K RX10 cX10_has false true 0 0) : CS K 0 bd_X10_has 15 0 0 :=
 (cs_retZ (p1 := 14) C (ce_tern (pT := 9) (pF := 13) (p1 := 10) C (cc_eqN (p1 := 5) (p2 := 6) C (ce_bin (p1 := 3) (p2 := 4) (ce_bin (p1 := 1) (p2 := 2) (ce_iln C dX10_has_0 rfl) (ce_iln C dX10_has_1 rfl) (ob_shr C dX10_has_2)) (ce_iconst C dX10_has_3 (by decide)) (ob_and C dX10_has_4)) (ce_iconst C dX10_has_5 (by decide)) dX10_has_6 (by decide) rfl) (ce_iconst C dX10_has_9 (by decide)) dX10_has_10 (by decide) (ce_iconst C dX10_has_13 (by decide))) dX10_has_14)
theorem good_X10_has : xGood yX10_has cX10_has 2 (some .boolean) 0 0 m_X10_has :=
  x_methS (ini := false) (bz := true) (Or.inr (Or.inl ⟨rfl, rfl⟩)) ⟨fun h => (by cases h), fun h => (by cases h)⟩ (fun h => by cases h) (by decide) (fun K C => bo_X10_has C)

def lc_X10_ones_1 : XB := (b_cmp r_lt (e_il 2) (e_lit 9))
def la_X10_ones_1 : XS := (s_iasg 1 (e_bin o_add (e_il 1) (e_bin o_and (e_bin o_shr (e_il 0) (e_il 2)) (e_lit 1))))
def lu_X10_ones_1 : XS := (s_inc 2 1)
def bd_X10_ones : XS := (s_seq (s_iasg 1 (e_lit 0))
 (s_seq (s_iasg 2 (e_lit 0))
 (s_seq (s_loop 1000 (lc_X10_ones_1) (la_X10_ones_1) (lu_X10_ones_1))
 (s_ret (e_il 1)))))
def m_X10_ones : XF := xMS 1 3 false bd_X10_ones
theorem rc_X10_ones : xArgs m_X10_ones 1 := xMS_args
set_option maxRecDepth 100000 in
set_option maxHeartbeats 4000000 in
theorem bo_X10_ones {K : XK} (C : xOK K RX10 cX10_ones false false 0 0) : CS K 0 bd_X10_ones 26 0 0 :=
 (cs_seq (p1 := 2) (cs_iasgn (p1 := 1) C (ce_iconst C dX10_ones_0 (by decide)) dX10_ones_1 rfl)
 (cs_seq (p1 := 4) (cs_iasgn (p1 := 3) C (ce_iconst C dX10_ones_2 (by decide)) dX10_ones_3 rfl)
 (cs_seq (p1 := 24) (cs_loop (pB := 10) (pE := 24) (pu := 18) (p2 := 21) C (cc_ltN (p1 := 5) (p2 := 7) C (ce_iln C dX10_ones_4 rfl) (ce_bipush C dX10_ones_5 (by decide)) dX10_ones_7 (by decide) rfl)
 (cs_iasgn (p1 := 17) C (ce_bin (p1 := 11) (p2 := 16) (ce_iln C dX10_ones_10 rfl) (ce_bin (p1 := 14) (p2 := 15) (ce_bin (p1 := 12) (p2 := 13) (ce_iln C dX10_ones_11 rfl) (ce_iln C dX10_ones_12 rfl) (ob_shr C dX10_ones_13)) (ce_iconst C dX10_ones_14 (by decide)) (ob_and C dX10_ones_15)) (ob_add C dX10_ones_16)) dX10_ones_17 rfl)
 (cs_inc C dX10_ones_18 (by decide)) dX10_ones_21 (by decide))
 (cs_ret (p1 := 25) C (ce_iln C dX10_ones_24 rfl) dX10_ones_25))))
theorem good_X10_ones : xGood yX10_ones cX10_ones 3 (some .int) 0 0 m_X10_ones :=
  x_methS (ini := false) (bz := false) (Or.inl ⟨rfl, rfl⟩) ⟨fun h => (by cases h), fun h => (by cases h)⟩ (fun h => by cases h) (by decide) (fun K C => bo_X10_ones C)

def lc_X10_copy_1 : XB := (b_cmp r_lt (e_il 3) (e_lit 58))
def la_X10_copy_1 : XS := (s_ast 0 (e_fld 10 0 (e_al 0)) (e_bin o_add (e_il 2) (e_il 3)) (e_ald 0 (e_fld 10 0 (e_al 0)) (e_bin o_add (e_il 1) (e_il 3))))
def lu_X10_copy_1 : XS := (s_inc 3 1)
def bd_X10_copy : XS := (s_seq (s_iasg 3 (e_lit 0))
 (s_seq (s_loop 1000 (lc_X10_copy_1) (la_X10_copy_1) (lu_X10_copy_1))
 s_retV))
def m_X10_copy : XF := xM 10 2 4 true bd_X10_copy
theorem rc_X10_copy : xRecv m_X10_copy 10 2 := xM_recv
set_option maxRecDepth 100000 in
set_option maxHeartbeats 4000000 in
theorem bo_X10_copy {K : XK} (C : xOK K RX10 cX10_copy false false 0 0) : CS K 0 bd_X10_copy 31 0 0 :=
 (cs_seq (p1 := 2) (cs_iasgn (p1 := 1) C (ce_iconst C dX10_copy_0 (by decide)) dX10_copy_1 rfl)
 (cs_seq (p1 := 30) (cs_loop (pB := 8) (pE := 30) (pu := 24) (p2 := 27) C (cc_ltN (p1 := 3) (p2 := 5) C (ce_iln C dX10_copy_2 rfl) (ce_bipush C dX10_copy_3 (by decide)) dX10_copy_5 (by decide) rfl)
 (cs_iast (p1 := 12) (p2 := 15) (p3 := 23) C (ce_fld C (ce_aln C dX10_copy_8 rfl) dX10_copy_9 fX10_7) (ce_bin (p1 := 13) (p2 := 14) (ce_iln C dX10_copy_12 rfl) (ce_iln C dX10_copy_13 rfl) (ob_add C dX10_copy_14)) (ce_iald (p1 := 19) (p2 := 22) C (ce_fld C (ce_aln C dX10_copy_15 rfl) dX10_copy_16 fX10_7) (ce_bin (p1 := 20) (p2 := 21) (ce_iln C dX10_copy_19 rfl) (ce_iln C dX10_copy_20 rfl) (ob_add C dX10_copy_21)) dX10_copy_22) dX10_copy_23)
 (cs_inc C dX10_copy_24 (by decide)) dX10_copy_27 (by decide))
 (cs_retV C dX10_copy_30)))
theorem good_X10_copy : xGood yX10_copy cX10_copy 4 none 0 0 m_X10_copy :=
  x_methI (ini := false) (bz := false) (Or.inr (Or.inr rfl)) ⟨fun _ => rfl, fun _ => rfl⟩ (fun h => by cases h) (by decide) (fun K C => bo_X10_copy C)

def bd_X10_isField : XS := (s_retZ (e_call m_X10_in [(e_un o_i2l (e_il 1)), (e_long 0), (e_un o_i2l (e_bin o_sub (e_fld 10 3 (e_al 0)) (e_lit 1)))]))
def m_X10_isField : XF := xM 10 1 2 false bd_X10_isField
theorem rc_X10_isField : xRecv m_X10_isField 10 1 := xM_recv
set_option maxRecDepth 100000 in
set_option maxHeartbeats 4000000 in
theorem bo_X10_isField {K : XK} (C : xOK K RX10 cX10_isField false true 1 25) : CS K 0 bd_X10_isField 14 0 0 :=
 (cs_retZ (p1 := 13) C (ce_call (p1 := 10) (ca_cons (p1 := 2) (ce_un (ce_iln C dX10_isField_0 rfl) (ob_i2l C dX10_isField_1)) (ca_cons (p1 := 3) (ce_lconst C dX10_isField_2 rfl) (ca_cons (p1 := 10) (ce_un (ce_bin (p1 := 7) (p2 := 8) (ce_fld C (ce_aln C dX10_isField_3 rfl) dX10_isField_4 fX10_66) (ce_iconst C dX10_isField_7 (by decide)) (ob_sub C dX10_isField_8)) (ob_i2l C dX10_isField_9)) ca_nil))) (xCal_S C dX10_isField_10 wX10_in vX10_69 good_X10_in rc_X10_in (by decide) (by decide)) (by decide)) dX10_isField_13)
theorem good_X10_isField : xGood yX10_isField cX10_isField 2 (some .boolean) 1 25 m_X10_isField :=
  x_methI (ini := false) (bz := true) (Or.inr (Or.inl ⟨rfl, rfl⟩)) ⟨fun h => (by cases h), fun h => (by cases h)⟩ (fun h => by cases h) (by decide) (fun K C => bo_X10_isField C)

def bd_X10_isStile : XS := (s_retZ (e_call m_X10_in [(e_un o_i2l (e_il 1)), (e_long 0), (e_un o_i2l (e_bin o_sub (e_fld 10 4 (e_al 0)) (e_lit 1)))]))
def m_X10_isStile : XF := xM 10 1 2 false bd_X10_isStile
theorem rc_X10_isStile : xRecv m_X10_isStile 10 1 := xM_recv
set_option maxRecDepth 100000 in
set_option maxHeartbeats 4000000 in
theorem bo_X10_isStile {K : XK} (C : xOK K RX10 cX10_isStile false true 1 25) : CS K 0 bd_X10_isStile 14 0 0 :=
 (cs_retZ (p1 := 13) C (ce_call (p1 := 10) (ca_cons (p1 := 2) (ce_un (ce_iln C dX10_isStile_0 rfl) (ob_i2l C dX10_isStile_1)) (ca_cons (p1 := 3) (ce_lconst C dX10_isStile_2 rfl) (ca_cons (p1 := 10) (ce_un (ce_bin (p1 := 7) (p2 := 8) (ce_fld C (ce_aln C dX10_isStile_3 rfl) dX10_isStile_4 fX10_73) (ce_iconst C dX10_isStile_7 (by decide)) (ob_sub C dX10_isStile_8)) (ob_i2l C dX10_isStile_9)) ca_nil))) (xCal_S C dX10_isStile_10 wX10_in vX10_69 good_X10_in rc_X10_in (by decide) (by decide)) (by decide)) dX10_isStile_13)
theorem good_X10_isStile : xGood yX10_isStile cX10_isStile 2 (some .boolean) 1 25 m_X10_isStile :=
  x_methI (ini := false) (bz := true) (Or.inr (Or.inl ⟨rfl, rfl⟩)) ⟨fun h => (by cases h), fun h => (by cases h)⟩ (fun h => by cases h) (by decide) (fun K C => bo_X10_isStile C)

def bd_X10_isWalker : XS := (s_retZ (e_call m_X10_in [(e_un o_i2l (e_il 1)), (e_long 0), (e_un o_i2l (e_bin o_sub (e_fld 10 8 (e_al 0)) (e_lit 1)))]))
def m_X10_isWalker : XF := xM 10 1 2 false bd_X10_isWalker
theorem rc_X10_isWalker : xRecv m_X10_isWalker 10 1 := xM_recv
set_option maxRecDepth 100000 in
set_option maxHeartbeats 4000000 in
theorem bo_X10_isWalker {K : XK} (C : xOK K RX10 cX10_isWalker false true 1 25) : CS K 0 bd_X10_isWalker 14 0 0 :=
 (cs_retZ (p1 := 13) C (ce_call (p1 := 10) (ca_cons (p1 := 2) (ce_un (ce_iln C dX10_isWalker_0 rfl) (ob_i2l C dX10_isWalker_1)) (ca_cons (p1 := 3) (ce_lconst C dX10_isWalker_2 rfl) (ca_cons (p1 := 10) (ce_un (ce_bin (p1 := 7) (p2 := 8) (ce_fld C (ce_aln C dX10_isWalker_3 rfl) dX10_isWalker_4 fX10_76) (ce_iconst C dX10_isWalker_7 (by decide)) (ob_sub C dX10_isWalker_8)) (ob_i2l C dX10_isWalker_9)) ca_nil))) (xCal_S C dX10_isWalker_10 wX10_in vX10_69 good_X10_in rc_X10_in (by decide) (by decide)) (by decide)) dX10_isWalker_13)
theorem good_X10_isWalker : xGood yX10_isWalker cX10_isWalker 2 (some .boolean) 1 25 m_X10_isWalker :=
  x_methI (ini := false) (bz := true) (Or.inr (Or.inl ⟨rfl, rfl⟩)) ⟨fun h => (by cases h), fun h => (by cases h)⟩ (fun h => by cases h) (by decide) (fun K C => bo_X10_isWalker C)

def bd_X10_addsStile : XS := (s_seq (s_ast 0 (e_fld 10 21 (e_al 0)) (e_bin o_mul (e_lit 3) (e_fld 10 20 (e_al 0))) (e_il 1))
 (s_seq (s_ast 0 (e_fld 10 21 (e_al 0)) (e_bin o_add (e_bin o_mul (e_lit 3) (e_fld 10 20 (e_al 0))) (e_lit 1)) (e_il 2))
 (s_seq (s_ast 0 (e_fld 10 21 (e_al 0)) (e_bin o_add (e_bin o_mul (e_lit 3) (e_fld 10 20 (e_al 0))) (e_lit 2)) (e_il 3))
 (s_seq (s_putop 10 20 o_add (e_al 0) (e_lit 1))
 s_retV))))
def m_X10_addsStile : XF := xM 10 3 4 true bd_X10_addsStile
theorem rc_X10_addsStile : xRecv m_X10_addsStile 10 3 := xM_recv
set_option maxRecDepth 100000 in
set_option maxHeartbeats 4000000 in
theorem bo_X10_addsStile {K : XK} (C : xOK K RX10 cX10_addsStile false false 0 0) : CS K 0 bd_X10_addsStile 51 0 0 :=
 (cs_seq (p1 := 12) (cs_iast (p1 := 4) (p2 := 10) (p3 := 11) C (ce_fld C (ce_aln C dX10_addsStile_0 rfl) dX10_addsStile_1 fX10_37) (ce_bin (p1 := 5) (p2 := 9) (ce_iconst C dX10_addsStile_4 (by decide)) (ce_fld C (ce_aln C dX10_addsStile_5 rfl) dX10_addsStile_6 fX10_79) (ob_mul C dX10_addsStile_9)) (ce_iln C dX10_addsStile_10 rfl) dX10_addsStile_11)
 (cs_seq (p1 := 26) (cs_iast (p1 := 16) (p2 := 24) (p3 := 25) C (ce_fld C (ce_aln C dX10_addsStile_12 rfl) dX10_addsStile_13 fX10_37) (ce_bin (p1 := 22) (p2 := 23) (ce_bin (p1 := 17) (p2 := 21) (ce_iconst C dX10_addsStile_16 (by decide)) (ce_fld C (ce_aln C dX10_addsStile_17 rfl) dX10_addsStile_18 fX10_79) (ob_mul C dX10_addsStile_21)) (ce_iconst C dX10_addsStile_22 (by decide)) (ob_add C dX10_addsStile_23)) (ce_iln C dX10_addsStile_24 rfl) dX10_addsStile_25)
 (cs_seq (p1 := 40) (cs_iast (p1 := 30) (p2 := 38) (p3 := 39) C (ce_fld C (ce_aln C dX10_addsStile_26 rfl) dX10_addsStile_27 fX10_37) (ce_bin (p1 := 36) (p2 := 37) (ce_bin (p1 := 31) (p2 := 35) (ce_iconst C dX10_addsStile_30 (by decide)) (ce_fld C (ce_aln C dX10_addsStile_31 rfl) dX10_addsStile_32 fX10_79) (ob_mul C dX10_addsStile_35)) (ce_iconst C dX10_addsStile_36 (by decide)) (ob_add C dX10_addsStile_37)) (ce_iln C dX10_addsStile_38 rfl) dX10_addsStile_39)
 (cs_seq (p1 := 50) (cs_putop (p1 := 41) (p2 := 46) C (ce_aln C dX10_addsStile_40 rfl) dX10_addsStile_41 dX10_addsStile_42 fX10_79 (ce_iconst C dX10_addsStile_45 (by decide)) (ob_add C dX10_addsStile_46) dX10_addsStile_47 pX10_79_false)
 (cs_retV C dX10_addsStile_50)))))
theorem good_X10_addsStile : xGood yX10_addsStile cX10_addsStile 4 none 0 0 m_X10_addsStile :=
  x_methI (ini := false) (bz := false) (Or.inr (Or.inr rfl)) ⟨fun _ => rfl, fun _ => rfl⟩ (fun h => by cases h) (by decide) (fun K C => bo_X10_addsStile C)

def bd_X10_addsWalker : XS := (s_seq (s_ast 0 (e_fld 10 23 (e_al 0)) (e_bin o_mul (e_lit 3) (e_fld 10 22 (e_al 0))) (e_il 1))
 (s_seq (s_ast 0 (e_fld 10 23 (e_al 0)) (e_bin o_add (e_bin o_mul (e_lit 3) (e_fld 10 22 (e_al 0))) (e_lit 1)) (e_il 2))
 (s_seq (s_ast 0 (e_fld 10 23 (e_al 0)) (e_bin o_add (e_bin o_mul (e_lit 3) (e_fld 10 22 (e_al 0))) (e_lit 2)) (e_il 3))
 (s_seq (s_putop 10 22 o_add (e_al 0) (e_lit 1))
 s_retV))))
def m_X10_addsWalker : XF := xM 10 3 4 true bd_X10_addsWalker
theorem rc_X10_addsWalker : xRecv m_X10_addsWalker 10 3 := xM_recv
set_option maxRecDepth 100000 in
set_option maxHeartbeats 4000000 in
theorem bo_X10_addsWalker {K : XK} (C : xOK K RX10 cX10_addsWalker false false 0 0) : CS K 0 bd_X10_addsWalker 51 0 0 :=
 (cs_seq (p1 := 12) (cs_iast (p1 := 4) (p2 := 10) (p3 := 11) C (ce_fld C (ce_aln C dX10_addsWalker_0 rfl) dX10_addsWalker_1 fX10_40) (ce_bin (p1 := 5) (p2 := 9) (ce_iconst C dX10_addsWalker_4 (by decide)) (ce_fld C (ce_aln C dX10_addsWalker_5 rfl) dX10_addsWalker_6 fX10_82) (ob_mul C dX10_addsWalker_9)) (ce_iln C dX10_addsWalker_10 rfl) dX10_addsWalker_11)
 (cs_seq (p1 := 26) (cs_iast (p1 := 16) (p2 := 24) (p3 := 25) C (ce_fld C (ce_aln C dX10_addsWalker_12 rfl) dX10_addsWalker_13 fX10_40) (ce_bin (p1 := 22) (p2 := 23) (ce_bin (p1 := 17) (p2 := 21) (ce_iconst C dX10_addsWalker_16 (by decide)) (ce_fld C (ce_aln C dX10_addsWalker_17 rfl) dX10_addsWalker_18 fX10_82) (ob_mul C dX10_addsWalker_21)) (ce_iconst C dX10_addsWalker_22 (by decide)) (ob_add C dX10_addsWalker_23)) (ce_iln C dX10_addsWalker_24 rfl) dX10_addsWalker_25)
 (cs_seq (p1 := 40) (cs_iast (p1 := 30) (p2 := 38) (p3 := 39) C (ce_fld C (ce_aln C dX10_addsWalker_26 rfl) dX10_addsWalker_27 fX10_40) (ce_bin (p1 := 36) (p2 := 37) (ce_bin (p1 := 31) (p2 := 35) (ce_iconst C dX10_addsWalker_30 (by decide)) (ce_fld C (ce_aln C dX10_addsWalker_31 rfl) dX10_addsWalker_32 fX10_82) (ob_mul C dX10_addsWalker_35)) (ce_iconst C dX10_addsWalker_36 (by decide)) (ob_add C dX10_addsWalker_37)) (ce_iln C dX10_addsWalker_38 rfl) dX10_addsWalker_39)
 (cs_seq (p1 := 50) (cs_putop (p1 := 41) (p2 := 46) C (ce_aln C dX10_addsWalker_40 rfl) dX10_addsWalker_41 dX10_addsWalker_42 fX10_82 (ce_iconst C dX10_addsWalker_45 (by decide)) (ob_add C dX10_addsWalker_46) dX10_addsWalker_47 pX10_82_false)
 (cs_retV C dX10_addsWalker_50)))))
theorem good_X10_addsWalker : xGood yX10_addsWalker cX10_addsWalker 4 none 0 0 m_X10_addsWalker :=
  x_methI (ini := false) (bz := false) (Or.inr (Or.inr rfl)) ⟨fun _ => rfl, fun _ => rfl⟩ (fun h => by cases h) (by decide) (fun K C => bo_X10_addsWalker C)

def lc_X10_begins_1 : XB := (b_cmp r_lt (e_il 1) (e_lit 58))
def la_X10_begins_1 : XS := (s_ast 0 (e_fld 10 0 (e_al 0)) (e_il 1) (e_lit 0))
def lu_X10_begins_1 : XS := (s_inc 1 1)
def lc_X10_begins_2 : XB := (b_cmp r_lt (e_il 1) (e_fld 10 4 (e_al 0)))
def la_X10_begins_2 : XS := (s_seq (s_ast 0 (e_fld 10 5 (e_al 0)) (e_il 1) (e_ald 0 (e_fld 10 21 (e_al 0)) (e_bin o_mul (e_lit 3) (e_il 1))))
 (s_seq (s_ast 0 (e_fld 10 6 (e_al 0)) (e_il 1) (e_ald 0 (e_fld 10 21 (e_al 0)) (e_bin o_add (e_bin o_mul (e_lit 3) (e_il 1)) (e_lit 1))))
 (s_ast 0 (e_fld 10 7 (e_al 0)) (e_il 1) (e_ald 0 (e_fld 10 21 (e_al 0)) (e_bin o_add (e_bin o_mul (e_lit 3) (e_il 1)) (e_lit 2))))))
def lu_X10_begins_2 : XS := (s_inc 1 1)
def lc_X10_begins_3 : XB := (b_cmp r_lt (e_il 1) (e_fld 10 8 (e_al 0)))
def la_X10_begins_3 : XS := (s_seq (s_ast 0 (e_fld 10 9 (e_al 0)) (e_il 1) (e_ald 0 (e_fld 10 23 (e_al 0)) (e_bin o_mul (e_lit 3) (e_il 1))))
 (s_seq (s_ast 0 (e_fld 10 0 (e_al 0)) (e_bin o_add (e_lit 10) (e_il 1)) (e_ald 0 (e_fld 10 23 (e_al 0)) (e_bin o_add (e_bin o_mul (e_lit 3) (e_il 1)) (e_lit 1))))
 (s_seq (s_ast 0 (e_fld 10 10 (e_al 0)) (e_il 1) (e_ald 0 (e_fld 10 23 (e_al 0)) (e_bin o_add (e_bin o_mul (e_lit 3) (e_il 1)) (e_lit 2))))
 (s_ast 0 (e_fld 10 0 (e_al 0)) (e_bin o_add (e_lit 18) (e_il 1)) (e_lit (-4))))))
def lu_X10_begins_3 : XS := (s_inc 1 1)
def bd_X10_begins : XS := (s_seq (s_put 10 3 0 (e_al 0) (e_fld 10 19 (e_al 0)))
 (s_seq (s_put 10 4 0 (e_al 0) (e_fld 10 20 (e_al 0)))
 (s_seq (s_put 10 8 0 (e_al 0) (e_fld 10 22 (e_al 0)))
 (s_seq (s_put 10 11 0 (e_al 0) (e_fld 10 24 (e_al 0)))
 (s_seq (s_iasg 1 (e_lit 0))
 (s_seq (s_loop 1000 (lc_X10_begins_1) (la_X10_begins_1) (lu_X10_begins_1))
 (s_seq (s_iasg 1 (e_lit 0))
 (s_seq (s_loop 1000 (lc_X10_begins_2) (la_X10_begins_2) (lu_X10_begins_2))
 (s_seq (s_iasg 1 (e_lit 0))
 (s_seq (s_loop 1000 (lc_X10_begins_3) (la_X10_begins_3) (lu_X10_begins_3))
 (s_seq (s_put 10 1 0 (e_al 0) (e_lit 0))
 (s_seq (s_put 10 2 0 (e_al 0) (e_lit 0))
 (s_seq (s_put 10 12 0 (e_al 0) (e_lit 0))
 s_retV)))))))))))))
def m_X10_begins : XF := xM 10 0 2 true bd_X10_begins
theorem rc_X10_begins : xRecv m_X10_begins 10 0 := xM_recv
set_option maxRecDepth 100000 in
set_option maxHeartbeats 4000000 in
theorem bo_X10_begins {K : XK} (C : xOK K RX10 cX10_begins false false 0 0) : CS K 0 bd_X10_begins 207 0 0 :=
 (cs_seq (p1 := 8) (cs_put (p1 := 1) (p2 := 5) C (ce_aln C dX10_begins_0 rfl) (ce_fld C (ce_aln C dX10_begins_1 rfl) dX10_begins_2 fX10_49) dX10_begins_5 pX10_66_false)
 (cs_seq (p1 := 16) (cs_put (p1 := 9) (p2 := 13) C (ce_aln C dX10_begins_8 rfl) (ce_fld C (ce_aln C dX10_begins_9 rfl) dX10_begins_10 fX10_79) dX10_begins_13 pX10_73_false)
 (cs_seq (p1 := 24) (cs_put (p1 := 17) (p2 := 21) C (ce_aln C dX10_begins_16 rfl) (ce_fld C (ce_aln C dX10_begins_17 rfl) dX10_begins_18 fX10_82) dX10_begins_21 pX10_76_false)
 (cs_seq (p1 := 32) (cs_put (p1 := 25) (p2 := 29) C (ce_aln C dX10_begins_24 rfl) (ce_fld C (ce_aln C dX10_begins_25 rfl) dX10_begins_26 fX10_60) dX10_begins_29 pX10_85_false)
 (cs_seq (p1 := 34) (cs_iasgn (p1 := 33) C (ce_iconst C dX10_begins_32 (by decide)) dX10_begins_33 rfl)
 (cs_seq (p1 := 53) (cs_loop (pB := 40) (pE := 53) (pu := 47) (p2 := 50) C (cc_ltN (p1 := 35) (p2 := 37) C (ce_iln C dX10_begins_34 rfl) (ce_bipush C dX10_begins_35 (by decide)) dX10_begins_37 (by decide) rfl)
 (cs_iast (p1 := 44) (p2 := 45) (p3 := 46) C (ce_fld C (ce_aln C dX10_begins_40 rfl) dX10_begins_41 fX10_7) (ce_iln C dX10_begins_44 rfl) (ce_iconst C dX10_begins_45 (by decide)) dX10_begins_46)
 (cs_inc C dX10_begins_47 (by decide)) dX10_begins_50 (by decide))
 (cs_seq (p1 := 55) (cs_iasgn (p1 := 54) C (ce_iconst C dX10_begins_53 (by decide)) dX10_begins_54 rfl)
 (cs_seq (p1 := 115) (cs_loop (pB := 63) (pE := 115) (pu := 109) (p2 := 112) C (cc_ltN (p1 := 56) (p2 := 60) C (ce_iln C dX10_begins_55 rfl) (ce_fld C (ce_aln C dX10_begins_56 rfl) dX10_begins_57 fX10_73) dX10_begins_60 (by decide) rfl)
 (cs_seq (p1 := 77) (cs_iast (p1 := 67) (p2 := 68) (p3 := 76) C (ce_fld C (ce_aln C dX10_begins_63 rfl) dX10_begins_64 fX10_13) (ce_iln C dX10_begins_67 rfl) (ce_iald (p1 := 72) (p2 := 75) C (ce_fld C (ce_aln C dX10_begins_68 rfl) dX10_begins_69 fX10_37) (ce_bin (p1 := 73) (p2 := 74) (ce_iconst C dX10_begins_72 (by decide)) (ce_iln C dX10_begins_73 rfl) (ob_mul C dX10_begins_74)) dX10_begins_75) dX10_begins_76)
 (cs_seq (p1 := 93) (cs_iast (p1 := 81) (p2 := 82) (p3 := 92) C (ce_fld C (ce_aln C dX10_begins_77 rfl) dX10_begins_78 fX10_16) (ce_iln C dX10_begins_81 rfl) (ce_iald (p1 := 86) (p2 := 91) C (ce_fld C (ce_aln C dX10_begins_82 rfl) dX10_begins_83 fX10_37) (ce_bin (p1 := 89) (p2 := 90) (ce_bin (p1 := 87) (p2 := 88) (ce_iconst C dX10_begins_86 (by decide)) (ce_iln C dX10_begins_87 rfl) (ob_mul C dX10_begins_88)) (ce_iconst C dX10_begins_89 (by decide)) (ob_add C dX10_begins_90)) dX10_begins_91) dX10_begins_92)
 (cs_iast (p1 := 97) (p2 := 98) (p3 := 108) C (ce_fld C (ce_aln C dX10_begins_93 rfl) dX10_begins_94 fX10_19) (ce_iln C dX10_begins_97 rfl) (ce_iald (p1 := 102) (p2 := 107) C (ce_fld C (ce_aln C dX10_begins_98 rfl) dX10_begins_99 fX10_37) (ce_bin (p1 := 105) (p2 := 106) (ce_bin (p1 := 103) (p2 := 104) (ce_iconst C dX10_begins_102 (by decide)) (ce_iln C dX10_begins_103 rfl) (ob_mul C dX10_begins_104)) (ce_iconst C dX10_begins_105 (by decide)) (ob_add C dX10_begins_106)) dX10_begins_107) dX10_begins_108)))
 (cs_inc C dX10_begins_109 (by decide)) dX10_begins_112 (by decide))
 (cs_seq (p1 := 117) (cs_iasgn (p1 := 116) C (ce_iconst C dX10_begins_115 (by decide)) dX10_begins_116 rfl)
 (cs_seq (p1 := 191) (cs_loop (pB := 125) (pE := 191) (pu := 185) (p2 := 188) C (cc_ltN (p1 := 118) (p2 := 122) C (ce_iln C dX10_begins_117 rfl) (ce_fld C (ce_aln C dX10_begins_118 rfl) dX10_begins_119 fX10_76) dX10_begins_122 (by decide) rfl)
 (cs_seq (p1 := 139) (cs_iast (p1 := 129) (p2 := 130) (p3 := 138) C (ce_fld C (ce_aln C dX10_begins_125 rfl) dX10_begins_126 fX10_22) (ce_iln C dX10_begins_129 rfl) (ce_iald (p1 := 134) (p2 := 137) C (ce_fld C (ce_aln C dX10_begins_130 rfl) dX10_begins_131 fX10_40) (ce_bin (p1 := 135) (p2 := 136) (ce_iconst C dX10_begins_134 (by decide)) (ce_iln C dX10_begins_135 rfl) (ob_mul C dX10_begins_136)) dX10_begins_137) dX10_begins_138)
 (cs_seq (p1 := 158) (cs_iast (p1 := 143) (p2 := 147) (p3 := 157) C (ce_fld C (ce_aln C dX10_begins_139 rfl) dX10_begins_140 fX10_7) (ce_bin (p1 := 145) (p2 := 146) (ce_bipush C dX10_begins_143 (by decide)) (ce_iln C dX10_begins_145 rfl) (ob_add C dX10_begins_146)) (ce_iald (p1 := 151) (p2 := 156) C (ce_fld C (ce_aln C dX10_begins_147 rfl) dX10_begins_148 fX10_40) (ce_bin (p1 := 154) (p2 := 155) (ce_bin (p1 := 152) (p2 := 153) (ce_iconst C dX10_begins_151 (by decide)) (ce_iln C dX10_begins_152 rfl) (ob_mul C dX10_begins_153)) (ce_iconst C dX10_begins_154 (by decide)) (ob_add C dX10_begins_155)) dX10_begins_156) dX10_begins_157)
 (cs_seq (p1 := 174) (cs_iast (p1 := 162) (p2 := 163) (p3 := 173) C (ce_fld C (ce_aln C dX10_begins_158 rfl) dX10_begins_159 fX10_25) (ce_iln C dX10_begins_162 rfl) (ce_iald (p1 := 167) (p2 := 172) C (ce_fld C (ce_aln C dX10_begins_163 rfl) dX10_begins_164 fX10_40) (ce_bin (p1 := 170) (p2 := 171) (ce_bin (p1 := 168) (p2 := 169) (ce_iconst C dX10_begins_167 (by decide)) (ce_iln C dX10_begins_168 rfl) (ob_mul C dX10_begins_169)) (ce_iconst C dX10_begins_170 (by decide)) (ob_add C dX10_begins_171)) dX10_begins_172) dX10_begins_173)
 (cs_iast (p1 := 178) (p2 := 182) (p3 := 184) C (ce_fld C (ce_aln C dX10_begins_174 rfl) dX10_begins_175 fX10_7) (ce_bin (p1 := 180) (p2 := 181) (ce_bipush C dX10_begins_178 (by decide)) (ce_iln C dX10_begins_180 rfl) (ob_add C dX10_begins_181)) (ce_bipush C dX10_begins_182 (by decide)) dX10_begins_184))))
 (cs_inc C dX10_begins_185 (by decide)) dX10_begins_188 (by decide))
 (cs_seq (p1 := 196) (cs_put (p1 := 192) (p2 := 193) C (ce_aln C dX10_begins_191 rfl) (ce_iconst C dX10_begins_192 (by decide)) dX10_begins_193 pX10_88_false)
 (cs_seq (p1 := 201) (cs_put (p1 := 197) (p2 := 198) C (ce_aln C dX10_begins_196 rfl) (ce_iconst C dX10_begins_197 (by decide)) dX10_begins_198 pX10_91_false)
 (cs_seq (p1 := 206) (cs_put (p1 := 202) (p2 := 203) C (ce_aln C dX10_begins_201 rfl) (ce_iconst C dX10_begins_202 (by decide)) dX10_begins_203 pX10_94_false)
 (cs_retV C dX10_begins_206))))))))))))))
theorem good_X10_begins : xGood yX10_begins cX10_begins 2 none 0 0 m_X10_begins :=
  x_methI (ini := false) (bz := false) (Or.inr (Or.inr rfl)) ⟨fun _ => rfl, fun _ => rfl⟩ (fun h => by cases h) (by decide) (fun K C => bo_X10_begins C)

def bd_X10_write : XS := (s_seq (s_ite (b_not (b_cmp0 r_ne0 (e_call m_X10_in [(e_un o_i2l (e_il 1)), (e_long 32), (e_long 126)]))) (s_ret (e_lit (-1)))
 s_skip)
 (s_seq (s_ite (b_cmp r_eq (e_fld 10 16 (e_al 0)) (e_lit 200)) (s_ret (e_lit (-3)))
 s_skip)
 (s_seq (s_ast 0 (e_fld 10 15 (e_al 0)) (e_fld 10 16 (e_al 0)) (e_il 1))
 (s_seq (s_putop 10 16 o_add (e_al 0) (e_lit 1))
 (s_ret (e_fld 10 16 (e_al 0)))))))
def m_X10_write : XF := xM 10 1 2 false bd_X10_write
theorem rc_X10_write : xRecv m_X10_write 10 1 := xM_recv
set_option maxRecDepth 100000 in
set_option maxHeartbeats 4000000 in
theorem bo_X10_write {K : XK} (C : xOK K RX10 cX10_write false false 1 25) : CS K 0 bd_X10_write 54 0 0 :=
 (cs_seq (p1 := 16) (cs_itf (pT := 14) (pF := 16) (cc_not (cc_ne0J (p1 := 11) C (ce_call (p1 := 8) (ca_cons (p1 := 2) (ce_un (ce_iln C dX10_write_0 rfl) (ob_i2l C dX10_write_1)) (ca_cons (p1 := 5) (ce_ldc2 C dX10_write_2 kX10_97) (ca_cons (p1 := 8) (ce_ldc2 C dX10_write_5 kX10_99) ca_nil))) (xCal_S C dX10_write_8 wX10_in vX10_69 good_X10_in rc_X10_in (by decide) (by decide)) (by decide)) dX10_write_11 (by decide) rfl)) (cs_ret (p1 := 15) C (ce_iconst C dX10_write_14 (by decide)) dX10_write_15)
 cs_skip)
 (cs_seq (p1 := 29) (cs_itf (pT := 26) (pF := 29) (cc_eqN (p1 := 20) (p2 := 23) C (ce_fld C (ce_aln C dX10_write_16 rfl) dX10_write_17 fX10_101) (ce_sipush C dX10_write_20 (by decide)) dX10_write_23 (by decide) rfl) (cs_ret (p1 := 28) C (ce_bipush C dX10_write_26 (by decide)) dX10_write_28)
 cs_skip)
 (cs_seq (p1 := 39) (cs_iast (p1 := 33) (p2 := 37) (p3 := 38) C (ce_fld C (ce_aln C dX10_write_29 rfl) dX10_write_30 fX10_34) (ce_fld C (ce_aln C dX10_write_33 rfl) dX10_write_34 fX10_101) (ce_iln C dX10_write_37 rfl) dX10_write_38)
 (cs_seq (p1 := 49) (cs_putop (p1 := 40) (p2 := 45) C (ce_aln C dX10_write_39 rfl) dX10_write_40 dX10_write_41 fX10_101 (ce_iconst C dX10_write_44 (by decide)) (ob_add C dX10_write_45) dX10_write_46 pX10_101_false)
 (cs_ret (p1 := 53) C (ce_fld C (ce_aln C dX10_write_49 rfl) dX10_write_50 fX10_101) dX10_write_53)))))
theorem good_X10_write : xGood yX10_write cX10_write 2 (some .int) 1 25 m_X10_write :=
  x_methI (ini := false) (bz := false) (Or.inl ⟨rfl, rfl⟩) ⟨fun h => (by cases h), fun h => (by cases h)⟩ (fun h => by cases h) (by decide) (fun K C => bo_X10_write C)

def bd_X10_wipe : XS := (s_seq (s_iasg 1 (e_fld 10 16 (e_al 0)))
 (s_seq (s_put 10 16 0 (e_al 0) (e_lit 0))
 (s_ret (e_il 1))))
def m_X10_wipe : XF := xM 10 0 2 false bd_X10_wipe
theorem rc_X10_wipe : xRecv m_X10_wipe 10 0 := xM_recv
set_option maxRecDepth 100000 in
set_option maxHeartbeats 4000000 in
theorem bo_X10_wipe {K : XK} (C : xOK K RX10 cX10_wipe false false 0 0) : CS K 0 bd_X10_wipe 12 0 0 :=
 (cs_seq (p1 := 5) (cs_iasgn (p1 := 4) C (ce_fld C (ce_aln C dX10_wipe_0 rfl) dX10_wipe_1 fX10_101) dX10_wipe_4 rfl)
 (cs_seq (p1 := 10) (cs_put (p1 := 6) (p2 := 7) C (ce_aln C dX10_wipe_5 rfl) (ce_iconst C dX10_wipe_6 (by decide)) dX10_wipe_7 pX10_101_false)
 (cs_ret (p1 := 11) C (ce_iln C dX10_wipe_10 rfl) dX10_wipe_11)))
theorem good_X10_wipe : xGood yX10_wipe cX10_wipe 2 (some .int) 0 0 m_X10_wipe :=
  x_methI (ini := false) (bz := false) (Or.inl ⟨rfl, rfl⟩) ⟨fun h => (by cases h), fun h => (by cases h)⟩ (fun h => by cases h) (by decide) (fun K C => bo_X10_wipe C)

def bd_X10_letterAt : XS := (s_ret (e_tern (b_cmp r_lt (e_il 1) (e_fld 10 16 (e_al 0))) (e_ald 0 (e_fld 10 15 (e_al 0)) (e_il 1)) (e_lit (-1))))
def m_X10_letterAt : XF := xM 10 1 2 false bd_X10_letterAt
theorem rc_X10_letterAt : xRecv m_X10_letterAt 10 1 := xM_recv
set_option maxRecDepth 100000 in
set_option maxHeartbeats 4000000 in
theorem bo_X10_letterAt {K : XK} (C : xOK K RX10 cX10_letterAt false false 0 0) : CS K 0 bd_X10_letterAt 19 0 0 :=
 (cs_ret (p1 := 18) C (ce_tern (pT := 8) (pF := 17) (p1 := 14) C (cc_ltN (p1 := 1) (p2 := 5) C (ce_iln C dX10_letterAt_0 rfl) (ce_fld C (ce_aln C dX10_letterAt_1 rfl) dX10_letterAt_2 fX10_101) dX10_letterAt_5 (by decide) rfl) (ce_iald (p1 := 12) (p2 := 13) C (ce_fld C (ce_aln C dX10_letterAt_8 rfl) dX10_letterAt_9 fX10_34) (ce_iln C dX10_letterAt_12 rfl) dX10_letterAt_13) dX10_letterAt_14 (by decide) (ce_iconst C dX10_letterAt_17 (by decide))) dX10_letterAt_18)
theorem good_X10_letterAt : xGood yX10_letterAt cX10_letterAt 2 (some .int) 0 0 m_X10_letterAt :=
  x_methI (ini := false) (bz := false) (Or.inl ⟨rfl, rfl⟩) ⟨fun h => (by cases h), fun h => (by cases h)⟩ (fun h => by cases h) (by decide) (fun K C => bo_X10_letterAt C)

def lc_X10_takesNumber_1 : XB := (b_and (b_cmp r_lt (e_bin o_sub (e_fld 10 17 (e_al 0)) (e_il 4)) (e_lit 2)) (b_cmp0 r_ne0 (e_call m_X10_in [(e_un o_i2l (e_call m_X10_letterAt [(e_al 0), (e_fld 10 17 (e_al 0))])), (e_long 48), (e_long 57)])))
def la_X10_takesNumber_1 : XS := (s_seq (s_put 10 18 0 (e_al 0) (e_bin o_sub (e_bin o_add (e_bin o_mul (e_lit 10) (e_fld 10 18 (e_al 0))) (e_call m_X10_letterAt [(e_al 0), (e_fld 10 17 (e_al 0))])) (e_lit 48)))
 (s_putop 10 17 o_add (e_al 0) (e_lit 1)))
def lu_X10_takesNumber_1 : XS := s_skip
def bd_X10_takesNumber : XS := (s_seq (s_iasg 4 (e_fld 10 17 (e_al 0)))
 (s_seq (s_put 10 18 0 (e_al 0) (e_lit 0))
 (s_seq (s_loop 1000 (lc_X10_takesNumber_1) (la_X10_takesNumber_1) (lu_X10_takesNumber_1))
 (s_seq (s_ite (b_or (b_or (b_cmp r_eq (e_fld 10 17 (e_al 0)) (e_il 4)) (b_not (b_cmp0 r_ne0 (e_call m_X10_in [(e_un o_i2l (e_fld 10 18 (e_al 0))), (e_un o_i2l (e_il 1)), (e_un o_i2l (e_il 2))])))) (b_cmp r_ne (e_call m_X10_letterAt [(e_al 0), (e_fld 10 17 (e_al 0))]) (e_il 3))) (s_retZ (e_lit 0))
 s_skip)
 (s_seq (s_putop 10 17 o_add (e_al 0) (e_lit 1))
 (s_retZ (e_lit 1)))))))
def m_X10_takesNumber : XF := xM 10 3 5 false bd_X10_takesNumber
theorem rc_X10_takesNumber : xRecv m_X10_takesNumber 10 3 := xM_recv
set_option maxRecDepth 100000 in
set_option maxHeartbeats 4000000 in
theorem bo_X10_takesNumber {K : XK} (C : xOK K RX10 cX10_takesNumber false true 1 25) : CS K 0 bd_X10_takesNumber 129 0 0 :=
 (cs_seq (p1 := 6) (cs_iasg (p1 := 4) C (ce_fld C (ce_aln C dX10_takesNumber_0 rfl) dX10_takesNumber_1 fX10_104) dX10_takesNumber_4)
 (cs_seq (p1 := 11) (cs_put (p1 := 7) (p2 := 8) C (ce_aln C dX10_takesNumber_6 rfl) (ce_iconst C dX10_takesNumber_7 (by decide)) dX10_takesNumber_8 pX10_107_false)
 (cs_seq (p1 := 79) (cs_loop (pB := 43) (pE := 79) (pu := 76) (p2 := 76) C (cc_and (pM := 22) (cc_ltN (p1 := 18) (p2 := 19) C (ce_bin (p1 := 15) (p2 := 17) (ce_fld C (ce_aln C dX10_takesNumber_11 rfl) dX10_takesNumber_12 fX10_104) (ce_il C dX10_takesNumber_15) (ob_sub C dX10_takesNumber_17)) (ce_iconst C dX10_takesNumber_18 (by decide)) dX10_takesNumber_19 (by decide) rfl) (cc_ne0N (p1 := 40) C (ce_call (p1 := 37) (ca_cons (p1 := 31) (ce_un (ce_call (p1 := 27) (ca_cons (p1 := 23) (ce_aln C dX10_takesNumber_22 rfl) (ca_cons (p1 := 27) (ce_fld C (ce_aln C dX10_takesNumber_23 rfl) dX10_takesNumber_24 fX10_104) ca_nil)) (xCal_V (ci := 10) C dX10_takesNumber_27 wX10_letterAt vX10_110 rfl rfl good_X10_letterAt rc_X10_letterAt (by decide) (by decide)) (by decide)) (ob_i2l C dX10_takesNumber_30)) (ca_cons (p1 := 34) (ce_ldc2 C dX10_takesNumber_31 kX10_114) (ca_cons (p1 := 37) (ce_ldc2 C dX10_takesNumber_34 kX10_116) ca_nil))) (xCal_S C dX10_takesNumber_37 wX10_in vX10_69 good_X10_in rc_X10_in (by decide) (by decide)) (by decide)) dX10_takesNumber_40 (by decide) rfl))
 (cs_seq (p1 := 66) (cs_put (p1 := 44) (p2 := 63) C (ce_aln C dX10_takesNumber_43 rfl) (ce_bin (p1 := 60) (p2 := 62) (ce_bin (p1 := 51) (p2 := 59) (ce_bin (p1 := 46) (p2 := 50) (ce_bipush C dX10_takesNumber_44 (by decide)) (ce_fld C (ce_aln C dX10_takesNumber_46 rfl) dX10_takesNumber_47 fX10_107) (ob_mul C dX10_takesNumber_50)) (ce_call (p1 := 56) (ca_cons (p1 := 52) (ce_aln C dX10_takesNumber_51 rfl) (ca_cons (p1 := 56) (ce_fld C (ce_aln C dX10_takesNumber_52 rfl) dX10_takesNumber_53 fX10_104) ca_nil)) (xCal_V (ci := 10) C dX10_takesNumber_56 wX10_letterAt vX10_110 rfl rfl good_X10_letterAt rc_X10_letterAt (by decide) (by decide)) (by decide)) (ob_add C dX10_takesNumber_59)) (ce_bipush C dX10_takesNumber_60 (by decide)) (ob_sub C dX10_takesNumber_62)) dX10_takesNumber_63 pX10_107_false)
 (cs_putop (p1 := 67) (p2 := 72) C (ce_aln C dX10_takesNumber_66 rfl) dX10_takesNumber_67 dX10_takesNumber_68 fX10_104 (ce_iconst C dX10_takesNumber_71 (by decide)) (ob_add C dX10_takesNumber_72) dX10_takesNumber_73 pX10_104_false))
 cs_skip dX10_takesNumber_76 (by decide))
 (cs_seq (p1 := 117) (cs_itf (pT := 115) (pF := 117) (cc_or (pM := 103) (cc_or (pM := 88) (cc_eqJ (p1 := 83) (p2 := 85) C (ce_fld C (ce_aln C dX10_takesNumber_79 rfl) dX10_takesNumber_80 fX10_104) (ce_il C dX10_takesNumber_83) dX10_takesNumber_85 (by decide) rfl) (cc_not (cc_ne0N (p1 := 100) C (ce_call (p1 := 97) (ca_cons (p1 := 93) (ce_un (ce_fld C (ce_aln C dX10_takesNumber_88 rfl) dX10_takesNumber_89 fX10_107) (ob_i2l C dX10_takesNumber_92)) (ca_cons (p1 := 95) (ce_un (ce_iln C dX10_takesNumber_93 rfl) (ob_i2l C dX10_takesNumber_94)) (ca_cons (p1 := 97) (ce_un (ce_iln C dX10_takesNumber_95 rfl) (ob_i2l C dX10_takesNumber_96)) ca_nil))) (xCal_S C dX10_takesNumber_97 wX10_in vX10_69 good_X10_in rc_X10_in (by decide) (by decide)) (by decide)) dX10_takesNumber_100 (by decide) rfl))) (cc_neN (p1 := 111) (p2 := 112) C (ce_call (p1 := 108) (ca_cons (p1 := 104) (ce_aln C dX10_takesNumber_103 rfl) (ca_cons (p1 := 108) (ce_fld C (ce_aln C dX10_takesNumber_104 rfl) dX10_takesNumber_105 fX10_104) ca_nil)) (xCal_V (ci := 10) C dX10_takesNumber_108 wX10_letterAt vX10_110 rfl rfl good_X10_letterAt rc_X10_letterAt (by decide) (by decide)) (by decide)) (ce_iln C dX10_takesNumber_111 rfl) dX10_takesNumber_112 (by decide) rfl)) (cs_retZ (p1 := 116) C (ce_iconst C dX10_takesNumber_115 (by decide)) dX10_takesNumber_116)
 cs_skip)
 (cs_seq (p1 := 127) (cs_putop (p1 := 118) (p2 := 123) C (ce_aln C dX10_takesNumber_117 rfl) dX10_takesNumber_118 dX10_takesNumber_119 fX10_104 (ce_iconst C dX10_takesNumber_122 (by decide)) (ob_add C dX10_takesNumber_123) dX10_takesNumber_124 pX10_104_false)
 (cs_retZ (p1 := 128) C (ce_iconst C dX10_takesNumber_127 (by decide)) dX10_takesNumber_128))))))
theorem good_X10_takesNumber : xGood yX10_takesNumber cX10_takesNumber 5 (some .boolean) 1 25 m_X10_takesNumber :=
  x_methI (ini := false) (bz := true) (Or.inr (Or.inl ⟨rfl, rfl⟩)) ⟨fun h => (by cases h), fun h => (by cases h)⟩ (fun h => by cases h) (by decide) (fun K C => bo_X10_takesNumber C)

def bd_X10_takesFields : XS := (s_seq (s_ite (b_or (b_cmp0 r_ne0 (e_fld 10 25 (e_al 0))) (b_not (b_cmp0 r_ne0 (e_call m_X10_takesNumber [(e_al 0), (e_lit 1), (e_lit 8), (e_lit 59)])))) (s_retZ (e_lit 0))
 s_skip)
 (s_seq (s_put 10 19 0 (e_al 0) (e_fld 10 18 (e_al 0)))
 (s_retZ (e_lit 1))))
def m_X10_takesFields : XF := xM 10 0 1 false bd_X10_takesFields
theorem rc_X10_takesFields : xRecv m_X10_takesFields 10 0 := xM_recv
set_option maxRecDepth 100000 in
set_option maxHeartbeats 4000000 in
theorem bo_X10_takesFields {K : XK} (C : xOK K RX10 cX10_takesFields false true 2 49) : CS K 0 bd_X10_takesFields 31 0 0 :=
 (cs_seq (p1 := 21) (cs_itf (pT := 19) (pF := 21) (cc_or (pM := 7) (cc_ne0J (p1 := 4) C (ce_fld C (ce_aln C dX10_takesFields_0 rfl) dX10_takesFields_1 fX10_118) dX10_takesFields_4 (by decide) rfl) (cc_not (cc_ne0J (p1 := 16) C (ce_call (p1 := 13) (ca_cons (p1 := 8) (ce_aln C dX10_takesFields_7 rfl) (ca_cons (p1 := 9) (ce_iconst C dX10_takesFields_8 (by decide)) (ca_cons (p1 := 11) (ce_bipush C dX10_takesFields_9 (by decide)) (ca_cons (p1 := 13) (ce_bipush C dX10_takesFields_11 (by decide)) ca_nil)))) (xCal_V (ci := 10) C dX10_takesFields_13 wX10_takesNumber vX10_122 rfl rfl good_X10_takesNumber rc_X10_takesNumber (by decide) (by decide)) (by decide)) dX10_takesFields_16 (by decide) rfl))) (cs_retZ (p1 := 20) C (ce_iconst C dX10_takesFields_19 (by decide)) dX10_takesFields_20)
 cs_skip)
 (cs_seq (p1 := 29) (cs_put (p1 := 22) (p2 := 26) C (ce_aln C dX10_takesFields_21 rfl) (ce_fld C (ce_aln C dX10_takesFields_22 rfl) dX10_takesFields_23 fX10_107) dX10_takesFields_26 pX10_49_false)
 (cs_retZ (p1 := 30) C (ce_iconst C dX10_takesFields_29 (by decide)) dX10_takesFields_30)))
theorem good_X10_takesFields : xGood yX10_takesFields cX10_takesFields 1 (some .boolean) 2 49 m_X10_takesFields :=
  x_methI (ini := false) (bz := true) (Or.inr (Or.inl ⟨rfl, rfl⟩)) ⟨fun h => (by cases h), fun h => (by cases h)⟩ (fun h => by cases h) (by decide) (fun K C => bo_X10_takesFields C)

def bd_X10_takesStile : XS := (s_seq (s_ite (b_or (b_cmp r_eq (e_fld 10 20 (e_al 0)) (e_lit 9)) (b_not (b_cmp0 r_ne0 (e_call m_X10_takesNumber [(e_al 0), (e_lit 0), (e_lit 3), (e_lit 44)])))) (s_retZ (e_lit 0))
 s_skip)
 (s_seq (s_iasg 1 (e_fld 10 18 (e_al 0)))
 (s_seq (s_ite (b_not (b_cmp0 r_ne0 (e_call m_X10_takesNumber [(e_al 0), (e_lit 0), (e_bin o_sub (e_fld 10 19 (e_al 0)) (e_lit 1)), (e_lit 44)]))) (s_retZ (e_lit 0))
 s_skip)
 (s_seq (s_iasg 2 (e_fld 10 18 (e_al 0)))
 (s_seq (s_ite (b_or (b_not (b_cmp0 r_ne0 (e_call m_X10_takesNumber [(e_al 0), (e_lit 0), (e_bin o_sub (e_fld 10 19 (e_al 0)) (e_lit 1)), (e_lit 59)]))) (b_cmp r_eq (e_fld 10 18 (e_al 0)) (e_il 2))) (s_retZ (e_lit 0))
 s_skip)
 (s_seq (s_call m_X10_addsStile [(e_al 0), (e_il 1), (e_il 2), (e_fld 10 18 (e_al 0))])
 (s_retZ (e_lit 1))))))))
def m_X10_takesStile : XF := xM 10 0 3 false bd_X10_takesStile
theorem rc_X10_takesStile : xRecv m_X10_takesStile 10 0 := xM_recv
set_option maxRecDepth 100000 in
set_option maxHeartbeats 4000000 in
theorem bo_X10_takesStile {K : XK} (C : xOK K RX10 cX10_takesStile false true 2 49) : CS K 0 bd_X10_takesStile 88 0 0 :=
 (cs_seq (p1 := 22) (cs_itf (pT := 20) (pF := 22) (cc_or (pM := 9) (cc_eqJ (p1 := 4) (p2 := 6) C (ce_fld C (ce_aln C dX10_takesStile_0 rfl) dX10_takesStile_1 fX10_79) (ce_bipush C dX10_takesStile_4 (by decide)) dX10_takesStile_6 (by decide) rfl) (cc_not (cc_ne0J (p1 := 17) C (ce_call (p1 := 14) (ca_cons (p1 := 10) (ce_aln C dX10_takesStile_9 rfl) (ca_cons (p1 := 11) (ce_iconst C dX10_takesStile_10 (by decide)) (ca_cons (p1 := 12) (ce_iconst C dX10_takesStile_11 (by decide)) (ca_cons (p1 := 14) (ce_bipush C dX10_takesStile_12 (by decide)) ca_nil)))) (xCal_V (ci := 10) C dX10_takesStile_14 wX10_takesNumber vX10_122 rfl rfl good_X10_takesNumber rc_X10_takesNumber (by decide) (by decide)) (by decide)) dX10_takesStile_17 (by decide) rfl))) (cs_retZ (p1 := 21) C (ce_iconst C dX10_takesStile_20 (by decide)) dX10_takesStile_21)
 cs_skip)
 (cs_seq (p1 := 27) (cs_iasgn (p1 := 26) C (ce_fld C (ce_aln C dX10_takesStile_22 rfl) dX10_takesStile_23 fX10_107) dX10_takesStile_26 rfl)
 (cs_seq (p1 := 45) (cs_itf (pT := 43) (pF := 45) (cc_not (cc_ne0J (p1 := 40) C (ce_call (p1 := 37) (ca_cons (p1 := 28) (ce_aln C dX10_takesStile_27 rfl) (ca_cons (p1 := 29) (ce_iconst C dX10_takesStile_28 (by decide)) (ca_cons (p1 := 35) (ce_bin (p1 := 33) (p2 := 34) (ce_fld C (ce_aln C dX10_takesStile_29 rfl) dX10_takesStile_30 fX10_49) (ce_iconst C dX10_takesStile_33 (by decide)) (ob_sub C dX10_takesStile_34)) (ca_cons (p1 := 37) (ce_bipush C dX10_takesStile_35 (by decide)) ca_nil)))) (xCal_V (ci := 10) C dX10_takesStile_37 wX10_takesNumber vX10_122 rfl rfl good_X10_takesNumber rc_X10_takesNumber (by decide) (by decide)) (by decide)) dX10_takesStile_40 (by decide) rfl)) (cs_retZ (p1 := 44) C (ce_iconst C dX10_takesStile_43 (by decide)) dX10_takesStile_44)
 cs_skip)
 (cs_seq (p1 := 50) (cs_iasgn (p1 := 49) C (ce_fld C (ce_aln C dX10_takesStile_45 rfl) dX10_takesStile_46 fX10_107) dX10_takesStile_49 rfl)
 (cs_seq (p1 := 76) (cs_itf (pT := 74) (pF := 76) (cc_or (pM := 66) (cc_not (cc_ne0N (p1 := 63) C (ce_call (p1 := 60) (ca_cons (p1 := 51) (ce_aln C dX10_takesStile_50 rfl) (ca_cons (p1 := 52) (ce_iconst C dX10_takesStile_51 (by decide)) (ca_cons (p1 := 58) (ce_bin (p1 := 56) (p2 := 57) (ce_fld C (ce_aln C dX10_takesStile_52 rfl) dX10_takesStile_53 fX10_49) (ce_iconst C dX10_takesStile_56 (by decide)) (ob_sub C dX10_takesStile_57)) (ca_cons (p1 := 60) (ce_bipush C dX10_takesStile_58 (by decide)) ca_nil)))) (xCal_V (ci := 10) C dX10_takesStile_60 wX10_takesNumber vX10_122 rfl rfl good_X10_takesNumber rc_X10_takesNumber (by decide) (by decide)) (by decide)) dX10_takesStile_63 (by decide) rfl)) (cc_eqN (p1 := 70) (p2 := 71) C (ce_fld C (ce_aln C dX10_takesStile_66 rfl) dX10_takesStile_67 fX10_107) (ce_iln C dX10_takesStile_70 rfl) dX10_takesStile_71 (by decide) rfl)) (cs_retZ (p1 := 75) C (ce_iconst C dX10_takesStile_74 (by decide)) dX10_takesStile_75)
 cs_skip)
 (cs_seq (p1 := 86) (cs_call (p1 := 83) (ca_cons (p1 := 77) (ce_aln C dX10_takesStile_76 rfl) (ca_cons (p1 := 78) (ce_iln C dX10_takesStile_77 rfl) (ca_cons (p1 := 79) (ce_iln C dX10_takesStile_78 rfl) (ca_cons (p1 := 83) (ce_fld C (ce_aln C dX10_takesStile_79 rfl) dX10_takesStile_80 fX10_107) ca_nil)))) (xCal_V (ci := 10) C dX10_takesStile_83 wX10_addsStile vX10_53 rfl rfl good_X10_addsStile rc_X10_addsStile (by decide) (by decide)))
 (cs_retZ (p1 := 87) C (ce_iconst C dX10_takesStile_86 (by decide)) dX10_takesStile_87)))))))
theorem good_X10_takesStile : xGood yX10_takesStile cX10_takesStile 3 (some .boolean) 2 49 m_X10_takesStile :=
  x_methI (ini := false) (bz := true) (Or.inr (Or.inl ⟨rfl, rfl⟩)) ⟨fun h => (by cases h), fun h => (by cases h)⟩ (fun h => by cases h) (by decide) (fun K C => bo_X10_takesStile C)

def bd_X10_takesWalker : XS := (s_seq (s_ite (b_or (b_cmp r_eq (e_fld 10 22 (e_al 0)) (e_lit 4)) (b_not (b_cmp0 r_ne0 (e_call m_X10_takesNumber [(e_al 0), (e_lit 0), (e_lit 3), (e_lit 44)])))) (s_retZ (e_lit 0))
 s_skip)
 (s_seq (s_iasg 1 (e_fld 10 18 (e_al 0)))
 (s_seq (s_ite (b_not (b_cmp0 r_ne0 (e_call m_X10_takesNumber [(e_al 0), (e_lit 0), (e_bin o_sub (e_fld 10 19 (e_al 0)) (e_lit 1)), (e_lit 44)]))) (s_retZ (e_lit 0))
 s_skip)
 (s_seq (s_iasg 2 (e_fld 10 18 (e_al 0)))
 (s_seq (s_ite (b_not (b_cmp0 r_ne0 (e_call m_X10_takesNumber [(e_al 0), (e_lit 1), (e_lit 9), (e_lit 59)]))) (s_retZ (e_lit 0))
 s_skip)
 (s_seq (s_call m_X10_addsWalker [(e_al 0), (e_il 1), (e_il 2), (e_fld 10 18 (e_al 0))])
 (s_retZ (e_lit 1))))))))
def m_X10_takesWalker : XF := xM 10 0 3 false bd_X10_takesWalker
theorem rc_X10_takesWalker : xRecv m_X10_takesWalker 10 0 := xM_recv
set_option maxRecDepth 100000 in
set_option maxHeartbeats 4000000 in
theorem bo_X10_takesWalker {K : XK} (C : xOK K RX10 cX10_takesWalker false true 2 49) : CS K 0 bd_X10_takesWalker 75 0 0 :=
 (cs_seq (p1 := 21) (cs_itf (pT := 19) (pF := 21) (cc_or (pM := 8) (cc_eqJ (p1 := 4) (p2 := 5) C (ce_fld C (ce_aln C dX10_takesWalker_0 rfl) dX10_takesWalker_1 fX10_82) (ce_iconst C dX10_takesWalker_4 (by decide)) dX10_takesWalker_5 (by decide) rfl) (cc_not (cc_ne0J (p1 := 16) C (ce_call (p1 := 13) (ca_cons (p1 := 9) (ce_aln C dX10_takesWalker_8 rfl) (ca_cons (p1 := 10) (ce_iconst C dX10_takesWalker_9 (by decide)) (ca_cons (p1 := 11) (ce_iconst C dX10_takesWalker_10 (by decide)) (ca_cons (p1 := 13) (ce_bipush C dX10_takesWalker_11 (by decide)) ca_nil)))) (xCal_V (ci := 10) C dX10_takesWalker_13 wX10_takesNumber vX10_122 rfl rfl good_X10_takesNumber rc_X10_takesNumber (by decide) (by decide)) (by decide)) dX10_takesWalker_16 (by decide) rfl))) (cs_retZ (p1 := 20) C (ce_iconst C dX10_takesWalker_19 (by decide)) dX10_takesWalker_20)
 cs_skip)
 (cs_seq (p1 := 26) (cs_iasgn (p1 := 25) C (ce_fld C (ce_aln C dX10_takesWalker_21 rfl) dX10_takesWalker_22 fX10_107) dX10_takesWalker_25 rfl)
 (cs_seq (p1 := 44) (cs_itf (pT := 42) (pF := 44) (cc_not (cc_ne0J (p1 := 39) C (ce_call (p1 := 36) (ca_cons (p1 := 27) (ce_aln C dX10_takesWalker_26 rfl) (ca_cons (p1 := 28) (ce_iconst C dX10_takesWalker_27 (by decide)) (ca_cons (p1 := 34) (ce_bin (p1 := 32) (p2 := 33) (ce_fld C (ce_aln C dX10_takesWalker_28 rfl) dX10_takesWalker_29 fX10_49) (ce_iconst C dX10_takesWalker_32 (by decide)) (ob_sub C dX10_takesWalker_33)) (ca_cons (p1 := 36) (ce_bipush C dX10_takesWalker_34 (by decide)) ca_nil)))) (xCal_V (ci := 10) C dX10_takesWalker_36 wX10_takesNumber vX10_122 rfl rfl good_X10_takesNumber rc_X10_takesNumber (by decide) (by decide)) (by decide)) dX10_takesWalker_39 (by decide) rfl)) (cs_retZ (p1 := 43) C (ce_iconst C dX10_takesWalker_42 (by decide)) dX10_takesWalker_43)
 cs_skip)
 (cs_seq (p1 := 49) (cs_iasgn (p1 := 48) C (ce_fld C (ce_aln C dX10_takesWalker_44 rfl) dX10_takesWalker_45 fX10_107) dX10_takesWalker_48 rfl)
 (cs_seq (p1 := 63) (cs_itf (pT := 61) (pF := 63) (cc_not (cc_ne0J (p1 := 58) C (ce_call (p1 := 55) (ca_cons (p1 := 50) (ce_aln C dX10_takesWalker_49 rfl) (ca_cons (p1 := 51) (ce_iconst C dX10_takesWalker_50 (by decide)) (ca_cons (p1 := 53) (ce_bipush C dX10_takesWalker_51 (by decide)) (ca_cons (p1 := 55) (ce_bipush C dX10_takesWalker_53 (by decide)) ca_nil)))) (xCal_V (ci := 10) C dX10_takesWalker_55 wX10_takesNumber vX10_122 rfl rfl good_X10_takesNumber rc_X10_takesNumber (by decide) (by decide)) (by decide)) dX10_takesWalker_58 (by decide) rfl)) (cs_retZ (p1 := 62) C (ce_iconst C dX10_takesWalker_61 (by decide)) dX10_takesWalker_62)
 cs_skip)
 (cs_seq (p1 := 73) (cs_call (p1 := 70) (ca_cons (p1 := 64) (ce_aln C dX10_takesWalker_63 rfl) (ca_cons (p1 := 65) (ce_iln C dX10_takesWalker_64 rfl) (ca_cons (p1 := 66) (ce_iln C dX10_takesWalker_65 rfl) (ca_cons (p1 := 70) (ce_fld C (ce_aln C dX10_takesWalker_66 rfl) dX10_takesWalker_67 fX10_107) ca_nil)))) (xCal_V (ci := 10) C dX10_takesWalker_70 wX10_addsWalker vX10_57 rfl rfl good_X10_addsWalker rc_X10_addsWalker (by decide) (by decide)))
 (cs_retZ (p1 := 74) C (ce_iconst C dX10_takesWalker_73 (by decide)) dX10_takesWalker_74)))))))
theorem good_X10_takesWalker : xGood yX10_takesWalker cX10_takesWalker 3 (some .boolean) 2 49 m_X10_takesWalker :=
  x_methI (ini := false) (bz := true) (Or.inr (Or.inl ⟨rfl, rfl⟩)) ⟨fun h => (by cases h), fun h => (by cases h)⟩ (fun h => by cases h) (by decide) (fun K C => bo_X10_takesWalker C)

def bd_X10_takesBreaks : XS := (s_seq (s_ite (b_not (b_cmp0 r_ne0 (e_call m_X10_takesNumber [(e_al 0), (e_lit 10), (e_lit 99), (e_lit 59)]))) (s_retZ (e_lit 0))
 s_skip)
 (s_seq (s_put 10 24 0 (e_al 0) (e_fld 10 18 (e_al 0)))
 (s_retZ (e_lit 1))))
def m_X10_takesBreaks : XF := xM 10 0 1 false bd_X10_takesBreaks
theorem rc_X10_takesBreaks : xRecv m_X10_takesBreaks 10 0 := xM_recv
set_option maxRecDepth 100000 in
set_option maxHeartbeats 4000000 in
theorem bo_X10_takesBreaks {K : XK} (C : xOK K RX10 cX10_takesBreaks false true 2 49) : CS K 0 bd_X10_takesBreaks 25 0 0 :=
 (cs_seq (p1 := 15) (cs_itf (pT := 13) (pF := 15) (cc_not (cc_ne0J (p1 := 10) C (ce_call (p1 := 7) (ca_cons (p1 := 1) (ce_aln C dX10_takesBreaks_0 rfl) (ca_cons (p1 := 3) (ce_bipush C dX10_takesBreaks_1 (by decide)) (ca_cons (p1 := 5) (ce_bipush C dX10_takesBreaks_3 (by decide)) (ca_cons (p1 := 7) (ce_bipush C dX10_takesBreaks_5 (by decide)) ca_nil)))) (xCal_V (ci := 10) C dX10_takesBreaks_7 wX10_takesNumber vX10_122 rfl rfl good_X10_takesNumber rc_X10_takesNumber (by decide) (by decide)) (by decide)) dX10_takesBreaks_10 (by decide) rfl)) (cs_retZ (p1 := 14) C (ce_iconst C dX10_takesBreaks_13 (by decide)) dX10_takesBreaks_14)
 cs_skip)
 (cs_seq (p1 := 23) (cs_put (p1 := 16) (p2 := 20) C (ce_aln C dX10_takesBreaks_15 rfl) (ce_fld C (ce_aln C dX10_takesBreaks_16 rfl) dX10_takesBreaks_17 fX10_107) dX10_takesBreaks_20 pX10_60_false)
 (cs_retZ (p1 := 24) C (ce_iconst C dX10_takesBreaks_23 (by decide)) dX10_takesBreaks_24)))
theorem good_X10_takesBreaks : xGood yX10_takesBreaks cX10_takesBreaks 1 (some .boolean) 2 49 m_X10_takesBreaks :=
  x_methI (ini := false) (bz := true) (Or.inr (Or.inl ⟨rfl, rfl⟩)) ⟨fun h => (by cases h), fun h => (by cases h)⟩ (fun h => by cases h) (by decide) (fun K C => bo_X10_takesBreaks C)

def bd_X10_takesItem : XS := (s_seq (s_iasg 1 (e_call m_X10_letterAt [(e_al 0), (e_fld 10 17 (e_al 0))]))
 (s_seq (s_putop 10 17 o_add (e_al 0) (e_lit 1))
 (s_seq (s_ite (b_cmp r_eq (e_il 1) (e_lit 102)) (s_retZ (e_call m_X10_takesFields [(e_al 0)]))
 s_skip)
 (s_seq (s_put 10 25 1 (e_al 0) (e_lit 1))
 (s_retZ (e_tern (b_cmp r_eq (e_il 1) (e_lit 115)) (e_call m_X10_takesStile [(e_al 0)]) (e_tern (b_cmp r_eq (e_il 1) (e_lit 119)) (e_call m_X10_takesWalker [(e_al 0)]) (e_tern (b_and (b_cmp r_eq (e_il 1) (e_lit 108)) (b_cmp0 r_ne0 (e_call m_X10_takesBreaks [(e_al 0)]))) (e_lit 1) (e_lit 0)))))))))
def m_X10_takesItem : XF := xM 10 0 2 false bd_X10_takesItem
theorem rc_X10_takesItem : xRecv m_X10_takesItem 10 0 := xM_recv
set_option maxRecDepth 100000 in
set_option maxHeartbeats 4000000 in
theorem bo_X10_takesItem {K : XK} (C : xOK K RX10 cX10_takesItem false true 3 71) : CS K 0 bd_X10_takesItem 80 0 0 :=
 (cs_seq (p1 := 9) (cs_iasgn (p1 := 8) C (ce_call (p1 := 5) (ca_cons (p1 := 1) (ce_aln C dX10_takesItem_0 rfl) (ca_cons (p1 := 5) (ce_fld C (ce_aln C dX10_takesItem_1 rfl) dX10_takesItem_2 fX10_104) ca_nil)) (xCal_V (ci := 10) C dX10_takesItem_5 wX10_letterAt vX10_110 rfl rfl good_X10_letterAt rc_X10_letterAt (by decide) (by decide)) (by decide)) dX10_takesItem_8 rfl)
 (cs_seq (p1 := 19) (cs_putop (p1 := 10) (p2 := 15) C (ce_aln C dX10_takesItem_9 rfl) dX10_takesItem_10 dX10_takesItem_11 fX10_104 (ce_iconst C dX10_takesItem_14 (by decide)) (ob_add C dX10_takesItem_15) dX10_takesItem_16 pX10_104_false)
 (cs_seq (p1 := 30) (cs_itf (pT := 25) (pF := 30) (cc_eqN (p1 := 20) (p2 := 22) C (ce_iln C dX10_takesItem_19 rfl) (ce_bipush C dX10_takesItem_20 (by decide)) dX10_takesItem_22 (by decide) rfl) (cs_retZ (p1 := 29) C (ce_call (p1 := 26) (ca_cons (p1 := 26) (ce_aln C dX10_takesItem_25 rfl) ca_nil) (xCal_V (ci := 10) C dX10_takesItem_26 wX10_takesFields vX10_126 rfl rfl good_X10_takesFields rc_X10_takesFields (by decide) (by decide)) (by decide)) dX10_takesItem_29)
 cs_skip)
 (cs_seq (p1 := 35) (cs_put (p1 := 31) (p2 := 32) C (ce_aln C dX10_takesItem_30 rfl) (ce_iconst C dX10_takesItem_31 (by decide)) dX10_takesItem_32 pX10_118_false)
 (cs_retZ (p1 := 79) C (ce_tern (pT := 41) (pF := 48) (p1 := 45) C (cc_eqN (p1 := 36) (p2 := 38) C (ce_iln C dX10_takesItem_35 rfl) (ce_bipush C dX10_takesItem_36 (by decide)) dX10_takesItem_38 (by decide) rfl) (ce_call (p1 := 42) (ca_cons (p1 := 42) (ce_aln C dX10_takesItem_41 rfl) ca_nil) (xCal_V (ci := 10) C dX10_takesItem_42 wX10_takesStile vX10_130 rfl rfl good_X10_takesStile rc_X10_takesStile (by decide) (by decide)) (by decide)) dX10_takesItem_45 (by decide) (ce_tern (pT := 54) (pF := 61) (p1 := 58) C (cc_eqN (p1 := 49) (p2 := 51) C (ce_iln C dX10_takesItem_48 rfl) (ce_bipush C dX10_takesItem_49 (by decide)) dX10_takesItem_51 (by decide) rfl) (ce_call (p1 := 55) (ca_cons (p1 := 55) (ce_aln C dX10_takesItem_54 rfl) ca_nil) (xCal_V (ci := 10) C dX10_takesItem_55 wX10_takesWalker vX10_133 rfl rfl good_X10_takesWalker rc_X10_takesWalker (by decide) (by decide)) (by decide)) dX10_takesItem_58 (by decide) (ce_tern (pT := 74) (pF := 78) (p1 := 75) C (cc_and (pM := 67) (cc_eqN (p1 := 62) (p2 := 64) C (ce_iln C dX10_takesItem_61 rfl) (ce_bipush C dX10_takesItem_62 (by decide)) dX10_takesItem_64 (by decide) rfl) (cc_ne0N (p1 := 71) C (ce_call (p1 := 68) (ca_cons (p1 := 68) (ce_aln C dX10_takesItem_67 rfl) ca_nil) (xCal_V (ci := 10) C dX10_takesItem_68 wX10_takesBreaks vX10_136 rfl rfl good_X10_takesBreaks rc_X10_takesBreaks (by decide) (by decide)) (by decide)) dX10_takesItem_71 (by decide) rfl)) (ce_iconst C dX10_takesItem_74 (by decide)) dX10_takesItem_75 (by decide) (ce_iconst C dX10_takesItem_78 (by decide))))) dX10_takesItem_79)))))
theorem good_X10_takesItem : xGood yX10_takesItem cX10_takesItem 2 (some .boolean) 3 71 m_X10_takesItem :=
  x_methI (ini := false) (bz := true) (Or.inr (Or.inl ⟨rfl, rfl⟩)) ⟨fun h => (by cases h), fun h => (by cases h)⟩ (fun h => by cases h) (by decide) (fun K C => bo_X10_takesItem C)

def lc_X10_faultOf_1 : XB := (b_cmp r_lt (e_fld 10 17 (e_al 0)) (e_fld 10 16 (e_al 0)))
def la_X10_faultOf_1 : XS := (s_seq (s_iasg 1 (e_fld 10 17 (e_al 0)))
 (s_ite (b_not (b_cmp0 r_ne0 (e_call m_X10_takesItem [(e_al 0)]))) (s_ret (e_il 1))
 s_skip))
def lu_X10_faultOf_1 : XS := s_skip
def bd_X10_faultOf : XS := (s_seq (s_put 10 19 0 (e_al 0) (e_lit 5))
 (s_seq (s_put 10 20 0 (e_al 0) (e_lit 0))
 (s_seq (s_put 10 22 0 (e_al 0) (e_lit 0))
 (s_seq (s_put 10 24 0 (e_al 0) (e_lit 40))
 (s_seq (s_put 10 25 1 (e_al 0) (e_lit 0))
 (s_seq (s_put 10 17 0 (e_al 0) (e_lit 0))
 (s_seq (s_loop 1000 (lc_X10_faultOf_1) (la_X10_faultOf_1) (lu_X10_faultOf_1))
 (s_ret (e_lit (-4))))))))))
def m_X10_faultOf : XF := xM 10 0 2 false bd_X10_faultOf
theorem rc_X10_faultOf : xRecv m_X10_faultOf 10 0 := xM_recv
set_option maxRecDepth 100000 in
set_option maxHeartbeats 4000000 in
theorem bo_X10_faultOf {K : XK} (C : xOK K RX10 cX10_faultOf false false 4 92) : CS K 0 bd_X10_faultOf 62 0 0 :=
 (cs_seq (p1 := 5) (cs_put (p1 := 1) (p2 := 2) C (ce_aln C dX10_faultOf_0 rfl) (ce_iconst C dX10_faultOf_1 (by decide)) dX10_faultOf_2 pX10_49_false)
 (cs_seq (p1 := 10) (cs_put (p1 := 6) (p2 := 7) C (ce_aln C dX10_faultOf_5 rfl) (ce_iconst C dX10_faultOf_6 (by decide)) dX10_faultOf_7 pX10_79_false)
 (cs_seq (p1 := 15) (cs_put (p1 := 11) (p2 := 12) C (ce_aln C dX10_faultOf_10 rfl) (ce_iconst C dX10_faultOf_11 (by decide)) dX10_faultOf_12 pX10_82_false)
 (cs_seq (p1 := 21) (cs_put (p1 := 16) (p2 := 18) C (ce_aln C dX10_faultOf_15 rfl) (ce_bipush C dX10_faultOf_16 (by decide)) dX10_faultOf_18 pX10_60_false)
 (cs_seq (p1 := 26) (cs_put (p1 := 22) (p2 := 23) C (ce_aln C dX10_faultOf_21 rfl) (ce_iconst C dX10_faultOf_22 (by decide)) dX10_faultOf_23 pX10_118_false)
 (cs_seq (p1 := 31) (cs_put (p1 := 27) (p2 := 28) C (ce_aln C dX10_faultOf_26 rfl) (ce_iconst C dX10_faultOf_27 (by decide)) dX10_faultOf_28 pX10_104_false)
 (cs_seq (p1 := 59) (cs_loop (pB := 42) (pE := 59) (pu := 56) (p2 := 56) C (cc_ltN (p1 := 35) (p2 := 39) C (ce_fld C (ce_aln C dX10_faultOf_31 rfl) dX10_faultOf_32 fX10_104) (ce_fld C (ce_aln C dX10_faultOf_35 rfl) dX10_faultOf_36 fX10_101) dX10_faultOf_39 (by decide) rfl)
 (cs_seq (p1 := 47) (cs_iasgn (p1 := 46) C (ce_fld C (ce_aln C dX10_faultOf_42 rfl) dX10_faultOf_43 fX10_104) dX10_faultOf_46 rfl)
 (cs_itf (pT := 54) (pF := 56) (cc_not (cc_ne0J (p1 := 51) C (ce_call (p1 := 48) (ca_cons (p1 := 48) (ce_aln C dX10_faultOf_47 rfl) ca_nil) (xCal_V (ci := 10) C dX10_faultOf_48 wX10_takesItem vX10_139 rfl rfl good_X10_takesItem rc_X10_takesItem (by decide) (by decide)) (by decide)) dX10_faultOf_51 (by decide) rfl)) (cs_ret (p1 := 55) C (ce_iln C dX10_faultOf_54 rfl) dX10_faultOf_55)
 cs_skip))
 cs_skip dX10_faultOf_56 (by decide))
 (cs_ret (p1 := 61) C (ce_bipush C dX10_faultOf_59 (by decide)) dX10_faultOf_61))))))))
theorem good_X10_faultOf : xGood yX10_faultOf cX10_faultOf 2 (some .int) 4 92 m_X10_faultOf :=
  x_methI (ini := false) (bz := false) (Or.inl ⟨rfl, rfl⟩) ⟨fun h => (by cases h), fun h => (by cases h)⟩ (fun h => by cases h) (by decide) (fun K C => bo_X10_faultOf C)

def bd_X10_fault : XS := (s_ret (e_call m_X10_faultOf [(e_al 0)]))
def m_X10_fault : XF := xM 10 0 1 false bd_X10_fault
theorem rc_X10_fault : xRecv m_X10_fault 10 0 := xM_recv
set_option maxRecDepth 100000 in
set_option maxHeartbeats 4000000 in
theorem bo_X10_fault {K : XK} (C : xOK K RX10 cX10_fault false false 5 113) : CS K 0 bd_X10_fault 5 0 0 :=
 (cs_ret (p1 := 4) C (ce_call (p1 := 1) (ca_cons (p1 := 1) (ce_aln C dX10_fault_0 rfl) ca_nil) (xCal_V (ci := 10) C dX10_fault_1 wX10_faultOf vX10_142 rfl rfl good_X10_faultOf rc_X10_faultOf (by decide) (by decide)) (by decide)) dX10_fault_4)
theorem good_X10_fault : xGood yX10_fault cX10_fault 1 (some .int) 5 113 m_X10_fault :=
  x_methI (ini := false) (bz := false) (Or.inl ⟨rfl, rfl⟩) ⟨fun h => (by cases h), fun h => (by cases h)⟩ (fun h => by cases h) (by decide) (fun K C => bo_X10_fault C)

def bd_X10_lay : XS := (s_seq (s_ite (b_or (b_cmp r_ne (e_call m_X10_faultOf [(e_al 0)]) (e_lit (-4))) (b_cmp0 r_eq0 (e_fld 10 22 (e_al 0)))) (s_ret (e_lit (-2)))
 s_skip)
 (s_seq (s_call m_X10_begins [(e_al 0)])
 (s_ret (e_fld 10 3 (e_al 0)))))
def m_X10_lay : XF := xM 10 0 1 false bd_X10_lay
theorem rc_X10_lay : xRecv m_X10_lay 10 0 := xM_recv
set_option maxRecDepth 100000 in
set_option maxHeartbeats 4000000 in
theorem bo_X10_lay {K : XK} (C : xOK K RX10 cX10_lay false false 5 113) : CS K 0 bd_X10_lay 28 0 0 :=
 (cs_seq (p1 := 19) (cs_itf (pT := 16) (pF := 19) (cc_or (pM := 9) (cc_neJ (p1 := 4) (p2 := 6) C (ce_call (p1 := 1) (ca_cons (p1 := 1) (ce_aln C dX10_lay_0 rfl) ca_nil) (xCal_V (ci := 10) C dX10_lay_1 wX10_faultOf vX10_142 rfl rfl good_X10_faultOf rc_X10_faultOf (by decide) (by decide)) (by decide)) (ce_bipush C dX10_lay_4 (by decide)) dX10_lay_6 (by decide) rfl) (cc_eq0N (p1 := 13) C (ce_fld C (ce_aln C dX10_lay_9 rfl) dX10_lay_10 fX10_82) dX10_lay_13 (by decide) rfl)) (cs_ret (p1 := 18) C (ce_bipush C dX10_lay_16 (by decide)) dX10_lay_18)
 cs_skip)
 (cs_seq (p1 := 23) (cs_call (p1 := 20) (ca_cons (p1 := 20) (ce_aln C dX10_lay_19 rfl) ca_nil) (xCal_V (ci := 10) C dX10_lay_20 wX10_begins vX10_63 rfl rfl good_X10_begins rc_X10_begins (by decide) (by decide)))
 (cs_ret (p1 := 27) C (ce_fld C (ce_aln C dX10_lay_23 rfl) dX10_lay_24 fX10_66) dX10_lay_27)))
theorem good_X10_lay : xGood yX10_lay cX10_lay 1 (some .int) 5 113 m_X10_lay :=
  x_methI (ini := false) (bz := false) (Or.inl ⟨rfl, rfl⟩) ⟨fun h => (by cases h), fun h => (by cases h)⟩ (fun h => by cases h) (by decide) (fun K C => bo_X10_lay C)

def bd_X10_isBroken : XS := (s_retZ (e_tern (b_cmp r_ge (e_ald 0 (e_fld 10 0 (e_al 0)) (e_bin o_add (e_bin o_add (e_il 1) (e_lit 1)) (e_il 2))) (e_fld 10 11 (e_al 0))) (e_lit 1) (e_lit 0)))
def m_X10_isBroken : XF := xM 10 2 3 false bd_X10_isBroken
theorem rc_X10_isBroken : xRecv m_X10_isBroken 10 2 := xM_recv
set_option maxRecDepth 100000 in
set_option maxHeartbeats 4000000 in
theorem bo_X10_isBroken {K : XK} (C : xOK K RX10 cX10_isBroken false true 0 0) : CS K 0 bd_X10_isBroken 23 0 0 :=
 (cs_retZ (p1 := 22) C (ce_tern (pT := 17) (pF := 21) (p1 := 18) C (cc_geN (p1 := 10) (p2 := 14) C (ce_iald (p1 := 4) (p2 := 9) C (ce_fld C (ce_aln C dX10_isBroken_0 rfl) dX10_isBroken_1 fX10_7) (ce_bin (p1 := 7) (p2 := 8) (ce_bin (p1 := 5) (p2 := 6) (ce_iln C dX10_isBroken_4 rfl) (ce_iconst C dX10_isBroken_5 (by decide)) (ob_add C dX10_isBroken_6)) (ce_iln C dX10_isBroken_7 rfl) (ob_add C dX10_isBroken_8)) dX10_isBroken_9) (ce_fld C (ce_aln C dX10_isBroken_10 rfl) dX10_isBroken_11 fX10_85) dX10_isBroken_14 (by decide) rfl) (ce_iconst C dX10_isBroken_17 (by decide)) dX10_isBroken_18 (by decide) (ce_iconst C dX10_isBroken_21 (by decide))) dX10_isBroken_22)
theorem good_X10_isBroken : xGood yX10_isBroken cX10_isBroken 3 (some .boolean) 0 0 m_X10_isBroken :=
  x_methI (ini := false) (bz := true) (Or.inr (Or.inl ⟨rfl, rfl⟩)) ⟨fun h => (by cases h), fun h => (by cases h)⟩ (fun h => by cases h) (by decide) (fun K C => bo_X10_isBroken C)

def bd_X10_isAt : XS := (s_retZ (e_tern (b_or (b_cmp r_eq (e_ald 0 (e_fld 10 6 (e_al 0)) (e_il 1)) (e_il 2)) (b_cmp r_eq (e_ald 0 (e_fld 10 7 (e_al 0)) (e_il 1)) (e_il 2))) (e_lit 1) (e_lit 0)))
def m_X10_isAt : XF := xM 10 2 3 false bd_X10_isAt
theorem rc_X10_isAt : xRecv m_X10_isAt 10 2 := xM_recv
set_option maxRecDepth 100000 in
set_option maxHeartbeats 4000000 in
theorem bo_X10_isAt {K : XK} (C : xOK K RX10 cX10_isAt false true 0 0) : CS K 0 bd_X10_isAt 26 0 0 :=
 (cs_retZ (p1 := 25) C (ce_tern (pT := 20) (pF := 24) (p1 := 21) C (cc_or (pM := 10) (cc_eqJ (p1 := 6) (p2 := 7) C (ce_iald (p1 := 4) (p2 := 5) C (ce_fld C (ce_aln C dX10_isAt_0 rfl) dX10_isAt_1 fX10_16) (ce_iln C dX10_isAt_4 rfl) dX10_isAt_5) (ce_iln C dX10_isAt_6 rfl) dX10_isAt_7 (by decide) rfl) (cc_eqN (p1 := 16) (p2 := 17) C (ce_iald (p1 := 14) (p2 := 15) C (ce_fld C (ce_aln C dX10_isAt_10 rfl) dX10_isAt_11 fX10_19) (ce_iln C dX10_isAt_14 rfl) dX10_isAt_15) (ce_iln C dX10_isAt_16 rfl) dX10_isAt_17 (by decide) rfl)) (ce_iconst C dX10_isAt_20 (by decide)) dX10_isAt_21 (by decide) (ce_iconst C dX10_isAt_24 (by decide))) dX10_isAt_25)
theorem good_X10_isAt : xGood yX10_isAt cX10_isAt 3 (some .boolean) 0 0 m_X10_isAt :=
  x_methI (ini := false) (bz := true) (Or.inr (Or.inl ⟨rfl, rfl⟩)) ⟨fun h => (by cases h), fun h => (by cases h)⟩ (fun h => by cases h) (by decide) (fun K C => bo_X10_isAt C)

def bd_X10_otherEnd : XS := (s_ret (e_tern (b_cmp r_eq (e_ald 0 (e_fld 10 6 (e_al 0)) (e_il 1)) (e_il 2)) (e_ald 0 (e_fld 10 7 (e_al 0)) (e_il 1)) (e_ald 0 (e_fld 10 6 (e_al 0)) (e_il 1))))
def m_X10_otherEnd : XF := xM 10 2 3 false bd_X10_otherEnd
theorem rc_X10_otherEnd : xRecv m_X10_otherEnd 10 2 := xM_recv
set_option maxRecDepth 100000 in
set_option maxHeartbeats 4000000 in
theorem bo_X10_otherEnd {K : XK} (C : xOK K RX10 cX10_otherEnd false false 0 0) : CS K 0 bd_X10_otherEnd 26 0 0 :=
 (cs_ret (p1 := 25) C (ce_tern (pT := 10) (pF := 19) (p1 := 16) C (cc_eqN (p1 := 6) (p2 := 7) C (ce_iald (p1 := 4) (p2 := 5) C (ce_fld C (ce_aln C dX10_otherEnd_0 rfl) dX10_otherEnd_1 fX10_16) (ce_iln C dX10_otherEnd_4 rfl) dX10_otherEnd_5) (ce_iln C dX10_otherEnd_6 rfl) dX10_otherEnd_7 (by decide) rfl) (ce_iald (p1 := 14) (p2 := 15) C (ce_fld C (ce_aln C dX10_otherEnd_10 rfl) dX10_otherEnd_11 fX10_19) (ce_iln C dX10_otherEnd_14 rfl) dX10_otherEnd_15) dX10_otherEnd_16 (by decide) (ce_iald (p1 := 23) (p2 := 24) C (ce_fld C (ce_aln C dX10_otherEnd_19 rfl) dX10_otherEnd_20 fX10_16) (ce_iln C dX10_otherEnd_23 rfl) dX10_otherEnd_24)) dX10_otherEnd_25)
theorem good_X10_otherEnd : xGood yX10_otherEnd cX10_otherEnd 3 (some .int) 0 0 m_X10_otherEnd :=
  x_methI (ini := false) (bz := false) (Or.inl ⟨rfl, rfl⟩) ⟨fun h => (by cases h), fun h => (by cases h)⟩ (fun h => by cases h) (by decide) (fun K C => bo_X10_otherEnd C)

def bd_X10_wears : XS := (s_seq (s_iasg 3 (e_tern (b_cmp r_ge (e_ald 0 (e_fld 10 5 (e_al 0)) (e_il 2)) (e_lit 2)) (e_lit 0) (e_tern (b_cmp r_eq (e_ald 0 (e_fld 10 5 (e_al 0)) (e_il 2)) (e_lit 1)) (e_bin o_mul (e_lit 2) (e_ald 0 (e_fld 10 10 (e_al 0)) (e_il 1))) (e_ald 0 (e_fld 10 10 (e_al 0)) (e_il 1)))))
 (s_ret (e_tern (b_cmp r_eq (e_ald 0 (e_fld 10 9 (e_al 0)) (e_il 1)) (e_lit 2)) (e_bin o_mul (e_lit 2) (e_il 3)) (e_il 3))))
def m_X10_wears : XF := xM 10 2 4 false bd_X10_wears
theorem rc_X10_wears : xRecv m_X10_wears 10 2 := xM_recv
set_option maxRecDepth 100000 in
set_option maxHeartbeats 4000000 in
theorem bo_X10_wears {K : XK} (C : xOK K RX10 cX10_wears false false 0 0) : CS K 0 bd_X10_wears 60 0 0 :=
 (cs_seq (p1 := 42) (cs_iasgn (p1 := 41) C (ce_tern (pT := 10) (pF := 14) (p1 := 11) C (cc_geN (p1 := 6) (p2 := 7) C (ce_iald (p1 := 4) (p2 := 5) C (ce_fld C (ce_aln C dX10_wears_0 rfl) dX10_wears_1 fX10_13) (ce_iln C dX10_wears_4 rfl) dX10_wears_5) (ce_iconst C dX10_wears_6 (by decide)) dX10_wears_7 (by decide) rfl) (ce_iconst C dX10_wears_10 (by decide)) dX10_wears_11 (by decide) (ce_tern (pT := 24) (pF := 35) (p1 := 32) C (cc_eqN (p1 := 20) (p2 := 21) C (ce_iald (p1 := 18) (p2 := 19) C (ce_fld C (ce_aln C dX10_wears_14 rfl) dX10_wears_15 fX10_13) (ce_iln C dX10_wears_18 rfl) dX10_wears_19) (ce_iconst C dX10_wears_20 (by decide)) dX10_wears_21 (by decide) rfl) (ce_bin (p1 := 25) (p2 := 31) (ce_iconst C dX10_wears_24 (by decide)) (ce_iald (p1 := 29) (p2 := 30) C (ce_fld C (ce_aln C dX10_wears_25 rfl) dX10_wears_26 fX10_25) (ce_iln C dX10_wears_29 rfl) dX10_wears_30) (ob_mul C dX10_wears_31)) dX10_wears_32 (by decide) (ce_iald (p1 := 39) (p2 := 40) C (ce_fld C (ce_aln C dX10_wears_35 rfl) dX10_wears_36 fX10_25) (ce_iln C dX10_wears_39 rfl) dX10_wears_40))) dX10_wears_41 rfl)
 (cs_ret (p1 := 59) C (ce_tern (pT := 52) (pF := 58) (p1 := 55) C (cc_eqN (p1 := 48) (p2 := 49) C (ce_iald (p1 := 46) (p2 := 47) C (ce_fld C (ce_aln C dX10_wears_42 rfl) dX10_wears_43 fX10_22) (ce_iln C dX10_wears_46 rfl) dX10_wears_47) (ce_iconst C dX10_wears_48 (by decide)) dX10_wears_49 (by decide) rfl) (ce_bin (p1 := 53) (p2 := 54) (ce_iconst C dX10_wears_52 (by decide)) (ce_iln C dX10_wears_53 rfl) (ob_mul C dX10_wears_54)) dX10_wears_55 (by decide) (ce_iln C dX10_wears_58 rfl)) dX10_wears_59))
theorem good_X10_wears : xGood yX10_wears cX10_wears 4 (some .int) 0 0 m_X10_wears :=
  x_methI (ini := false) (bz := false) (Or.inl ⟨rfl, rfl⟩) ⟨fun h => (by cases h), fun h => (by cases h)⟩ (fun h => by cases h) (by decide) (fun K C => bo_X10_wears C)

def bd_X10_earns : XS := (s_ret (e_tern (b_or (b_cmp r_eq (e_ald 0 (e_fld 10 5 (e_al 0)) (e_il 2)) (e_lit 3)) (b_cmp r_eq (e_ald 0 (e_fld 10 9 (e_al 0)) (e_il 1)) (e_lit 3))) (e_lit 0) (e_tern (b_cmp r_eq (e_ald 0 (e_fld 10 9 (e_al 0)) (e_il 1)) (e_lit 1)) (e_lit 2) (e_lit 1))))
def m_X10_earns : XF := xM 10 2 3 false bd_X10_earns
theorem rc_X10_earns : xRecv m_X10_earns 10 2 := xM_recv
set_option maxRecDepth 100000 in
set_option maxHeartbeats 4000000 in
theorem bo_X10_earns {K : XK} (C : xOK K RX10 cX10_earns false false 0 0) : CS K 0 bd_X10_earns 40 0 0 :=
 (cs_ret (p1 := 39) C (ce_tern (pT := 20) (pF := 24) (p1 := 21) C (cc_or (pM := 10) (cc_eqJ (p1 := 6) (p2 := 7) C (ce_iald (p1 := 4) (p2 := 5) C (ce_fld C (ce_aln C dX10_earns_0 rfl) dX10_earns_1 fX10_13) (ce_iln C dX10_earns_4 rfl) dX10_earns_5) (ce_iconst C dX10_earns_6 (by decide)) dX10_earns_7 (by decide) rfl) (cc_eqN (p1 := 16) (p2 := 17) C (ce_iald (p1 := 14) (p2 := 15) C (ce_fld C (ce_aln C dX10_earns_10 rfl) dX10_earns_11 fX10_22) (ce_iln C dX10_earns_14 rfl) dX10_earns_15) (ce_iconst C dX10_earns_16 (by decide)) dX10_earns_17 (by decide) rfl)) (ce_iconst C dX10_earns_20 (by decide)) dX10_earns_21 (by decide) (ce_tern (pT := 34) (pF := 38) (p1 := 35) C (cc_eqN (p1 := 30) (p2 := 31) C (ce_iald (p1 := 28) (p2 := 29) C (ce_fld C (ce_aln C dX10_earns_24 rfl) dX10_earns_25 fX10_22) (ce_iln C dX10_earns_28 rfl) dX10_earns_29) (ce_iconst C dX10_earns_30 (by decide)) dX10_earns_31 (by decide) rfl) (ce_iconst C dX10_earns_34 (by decide)) dX10_earns_35 (by decide) (ce_iconst C dX10_earns_38 (by decide)))) dX10_earns_39)
theorem good_X10_earns : xGood yX10_earns cX10_earns 3 (some .int) 0 0 m_X10_earns :=
  x_methI (ini := false) (bz := false) (Or.inl ⟨rfl, rfl⟩) ⟨fun h => (by cases h), fun h => (by cases h)⟩ (fun h => by cases h) (by decide) (fun K C => bo_X10_earns C)

def bd_X10_wornMore : XS := (s_seq (s_iasg 4 (e_bin o_add (e_ald 0 (e_fld 10 0 (e_al 0)) (e_bin o_add (e_bin o_add (e_il 1) (e_lit 1)) (e_il 2))) (e_il 3)))
 (s_seq (s_ast 0 (e_fld 10 0 (e_al 0)) (e_bin o_add (e_bin o_add (e_il 1) (e_lit 1)) (e_il 2)) (e_tern (b_cmp r_gt (e_il 4) (e_lit 999)) (e_lit 999) (e_il 4)))
 s_retV))
def m_X10_wornMore : XF := xM 10 3 5 true bd_X10_wornMore
theorem rc_X10_wornMore : xRecv m_X10_wornMore 10 3 := xM_recv
set_option maxRecDepth 100000 in
set_option maxHeartbeats 4000000 in
theorem bo_X10_wornMore {K : XK} (C : xOK K RX10 cX10_wornMore false false 0 0) : CS K 0 bd_X10_wornMore 41 0 0 :=
 (cs_seq (p1 := 14) (cs_iasg (p1 := 12) C (ce_bin (p1 := 10) (p2 := 11) (ce_iald (p1 := 4) (p2 := 9) C (ce_fld C (ce_aln C dX10_wornMore_0 rfl) dX10_wornMore_1 fX10_7) (ce_bin (p1 := 7) (p2 := 8) (ce_bin (p1 := 5) (p2 := 6) (ce_iln C dX10_wornMore_4 rfl) (ce_iconst C dX10_wornMore_5 (by decide)) (ob_add C dX10_wornMore_6)) (ce_iln C dX10_wornMore_7 rfl) (ob_add C dX10_wornMore_8)) dX10_wornMore_9) (ce_iln C dX10_wornMore_10 rfl) (ob_add C dX10_wornMore_11)) dX10_wornMore_12)
 (cs_seq (p1 := 40) (cs_iast (p1 := 18) (p2 := 23) (p3 := 39) C (ce_fld C (ce_aln C dX10_wornMore_14 rfl) dX10_wornMore_15 fX10_7) (ce_bin (p1 := 21) (p2 := 22) (ce_bin (p1 := 19) (p2 := 20) (ce_iln C dX10_wornMore_18 rfl) (ce_iconst C dX10_wornMore_19 (by decide)) (ob_add C dX10_wornMore_20)) (ce_iln C dX10_wornMore_21 rfl) (ob_add C dX10_wornMore_22)) (ce_tern (pT := 31) (pF := 37) (p1 := 34) C (cc_gtN (p1 := 25) (p2 := 28) C (ce_il C dX10_wornMore_23) (ce_sipush C dX10_wornMore_25 (by decide)) dX10_wornMore_28 (by decide) rfl) (ce_sipush C dX10_wornMore_31 (by decide)) dX10_wornMore_34 (by decide) (ce_il C dX10_wornMore_37)) dX10_wornMore_39)
 (cs_retV C dX10_wornMore_40)))
theorem good_X10_wornMore : xGood yX10_wornMore cX10_wornMore 5 none 0 0 m_X10_wornMore :=
  x_methI (ini := false) (bz := false) (Or.inr (Or.inr rfl)) ⟨fun _ => rfl, fun _ => rfl⟩ (fun h => by cases h) (by decide) (fun K C => bo_X10_wornMore C)

def bd_X10_goes : XS := (s_seq (s_iasg 4 (e_tern (b_cmp r_eq (e_ald 0 (e_fld 10 6 (e_al 0)) (e_il 3)) (e_ald 0 (e_fld 10 0 (e_al 0)) (e_bin o_add (e_bin o_add (e_il 1) (e_lit 10)) (e_il 2)))) (e_lit 1) (e_lit 0)))
 (s_seq (s_ast 0 (e_fld 10 0 (e_al 0)) (e_bin o_add (e_bin o_add (e_il 1) (e_lit 10)) (e_il 2)) (e_call m_X10_otherEnd [(e_al 0), (e_il 3), (e_ald 0 (e_fld 10 0 (e_al 0)) (e_bin o_add (e_bin o_add (e_il 1) (e_lit 10)) (e_il 2)))]))
 (s_seq (s_call m_X10_wornMore [(e_al 0), (e_il 1), (e_il 3), (e_call m_X10_wears [(e_al 0), (e_il 2), (e_il 3)])])
 (s_seq (s_astop o_add (e_fld 10 0 (e_al 0)) (e_bin o_add (e_bin o_add (e_il 1) (e_lit 14)) (e_il 2)) (e_call m_X10_earns [(e_al 0), (e_il 2), (e_il 3)]))
 (s_seq (s_astop o_add (e_fld 10 0 (e_al 0)) (e_bin o_add (e_bin o_add (e_bin o_add (e_il 1) (e_lit 22)) (e_bin o_mul (e_lit 9) (e_il 2))) (e_il 3)) (e_tern (b_cmp0 r_ne0 (e_il 4)) (e_lit 1) (e_lit (-1))))
 (s_seq (s_ast 0 (e_fld 10 0 (e_al 0)) (e_bin o_add (e_bin o_add (e_il 1) (e_lit 18)) (e_il 2)) (e_il 3))
 (s_seq (s_astop o_add (e_fld 10 0 (e_al 0)) (e_bin o_add (e_il 1) (e_lit 0)) (e_lit 1))
 s_retV)))))))
def m_X10_goes : XF := xM 10 3 5 true bd_X10_goes
theorem rc_X10_goes : xRecv m_X10_goes 10 3 := xM_recv
set_option maxRecDepth 100000 in
set_option maxHeartbeats 4000000 in
theorem bo_X10_goes {K : XK} (C : xOK K RX10 cX10_goes false false 1 24) : CS K 0 bd_X10_goes 140 0 0 :=
 (cs_seq (p1 := 27) (cs_iasg (p1 := 25) C (ce_tern (pT := 20) (pF := 24) (p1 := 21) C (cc_eqN (p1 := 6) (p2 := 17) C (ce_iald (p1 := 4) (p2 := 5) C (ce_fld C (ce_aln C dX10_goes_0 rfl) dX10_goes_1 fX10_16) (ce_iln C dX10_goes_4 rfl) dX10_goes_5) (ce_iald (p1 := 10) (p2 := 16) C (ce_fld C (ce_aln C dX10_goes_6 rfl) dX10_goes_7 fX10_7) (ce_bin (p1 := 14) (p2 := 15) (ce_bin (p1 := 11) (p2 := 13) (ce_iln C dX10_goes_10 rfl) (ce_bipush C dX10_goes_11 (by decide)) (ob_add C dX10_goes_13)) (ce_iln C dX10_goes_14 rfl) (ob_add C dX10_goes_15)) dX10_goes_16) dX10_goes_17 (by decide) rfl) (ce_iconst C dX10_goes_20 (by decide)) dX10_goes_21 (by decide) (ce_iconst C dX10_goes_24 (by decide))) dX10_goes_25)
 (cs_seq (p1 := 54) (cs_iast (p1 := 31) (p2 := 37) (p3 := 53) C (ce_fld C (ce_aln C dX10_goes_27 rfl) dX10_goes_28 fX10_7) (ce_bin (p1 := 35) (p2 := 36) (ce_bin (p1 := 32) (p2 := 34) (ce_iln C dX10_goes_31 rfl) (ce_bipush C dX10_goes_32 (by decide)) (ob_add C dX10_goes_34)) (ce_iln C dX10_goes_35 rfl) (ob_add C dX10_goes_36)) (ce_call (p1 := 50) (ca_cons (p1 := 38) (ce_aln C dX10_goes_37 rfl) (ca_cons (p1 := 39) (ce_iln C dX10_goes_38 rfl) (ca_cons (p1 := 50) (ce_iald (p1 := 43) (p2 := 49) C (ce_fld C (ce_aln C dX10_goes_39 rfl) dX10_goes_40 fX10_7) (ce_bin (p1 := 47) (p2 := 48) (ce_bin (p1 := 44) (p2 := 46) (ce_iln C dX10_goes_43 rfl) (ce_bipush C dX10_goes_44 (by decide)) (ob_add C dX10_goes_46)) (ce_iln C dX10_goes_47 rfl) (ob_add C dX10_goes_48)) dX10_goes_49) ca_nil))) (xCal_V (ci := 10) C dX10_goes_50 wX10_otherEnd vX10_146 rfl rfl good_X10_otherEnd rc_X10_otherEnd (by decide) (by decide)) (by decide)) dX10_goes_53)
 (cs_seq (p1 := 66) (cs_call (p1 := 63) (ca_cons (p1 := 55) (ce_aln C dX10_goes_54 rfl) (ca_cons (p1 := 56) (ce_iln C dX10_goes_55 rfl) (ca_cons (p1 := 57) (ce_iln C dX10_goes_56 rfl) (ca_cons (p1 := 63) (ce_call (p1 := 60) (ca_cons (p1 := 58) (ce_aln C dX10_goes_57 rfl) (ca_cons (p1 := 59) (ce_iln C dX10_goes_58 rfl) (ca_cons (p1 := 60) (ce_iln C dX10_goes_59 rfl) ca_nil))) (xCal_V (ci := 10) C dX10_goes_60 wX10_wears vX10_150 rfl rfl good_X10_wears rc_X10_wears (by decide) (by decide)) (by decide)) ca_nil)))) (xCal_V (ci := 10) C dX10_goes_63 wX10_wornMore vX10_153 rfl rfl good_X10_wornMore rc_X10_wornMore (by decide) (by decide)))
 (cs_seq (p1 := 86) (cs_astop (p1 := 70) (p2 := 76) (p3 := 84) C (ce_fld C (ce_aln C dX10_goes_66 rfl) dX10_goes_67 fX10_7) (ce_bin (p1 := 74) (p2 := 75) (ce_bin (p1 := 71) (p2 := 73) (ce_iln C dX10_goes_70 rfl) (ce_bipush C dX10_goes_71 (by decide)) (ob_add C dX10_goes_73)) (ce_iln C dX10_goes_74 rfl) (ob_add C dX10_goes_75)) dX10_goes_76 dX10_goes_77 (ce_call (p1 := 81) (ca_cons (p1 := 79) (ce_aln C dX10_goes_78 rfl) (ca_cons (p1 := 80) (ce_iln C dX10_goes_79 rfl) (ca_cons (p1 := 81) (ce_iln C dX10_goes_80 rfl) ca_nil))) (xCal_V (ci := 10) C dX10_goes_81 wX10_earns vX10_156 rfl rfl good_X10_earns rc_X10_earns (by decide) (by decide)) (by decide)) (ob_add C dX10_goes_84) dX10_goes_85)
 (cs_seq (p1 := 115) (cs_astop (p1 := 90) (p2 := 101) (p3 := 113) C (ce_fld C (ce_aln C dX10_goes_86 rfl) dX10_goes_87 fX10_7) (ce_bin (p1 := 99) (p2 := 100) (ce_bin (p1 := 94) (p2 := 98) (ce_bin (p1 := 91) (p2 := 93) (ce_iln C dX10_goes_90 rfl) (ce_bipush C dX10_goes_91 (by decide)) (ob_add C dX10_goes_93)) (ce_bin (p1 := 96) (p2 := 97) (ce_bipush C dX10_goes_94 (by decide)) (ce_iln C dX10_goes_96 rfl) (ob_mul C dX10_goes_97)) (ob_add C dX10_goes_98)) (ce_iln C dX10_goes_99 rfl) (ob_add C dX10_goes_100)) dX10_goes_101 dX10_goes_102 (ce_tern (pT := 108) (pF := 112) (p1 := 109) C (cc_ne0N (p1 := 105) C (ce_il C dX10_goes_103) dX10_goes_105 (by decide) rfl) (ce_iconst C dX10_goes_108 (by decide)) dX10_goes_109 (by decide) (ce_iconst C dX10_goes_112 (by decide))) (ob_add C dX10_goes_113) dX10_goes_114)
 (cs_seq (p1 := 127) (cs_iast (p1 := 119) (p2 := 125) (p3 := 126) C (ce_fld C (ce_aln C dX10_goes_115 rfl) dX10_goes_116 fX10_7) (ce_bin (p1 := 123) (p2 := 124) (ce_bin (p1 := 120) (p2 := 122) (ce_iln C dX10_goes_119 rfl) (ce_bipush C dX10_goes_120 (by decide)) (ob_add C dX10_goes_122)) (ce_iln C dX10_goes_123 rfl) (ob_add C dX10_goes_124)) (ce_iln C dX10_goes_125 rfl) dX10_goes_126)
 (cs_seq (p1 := 139) (cs_astop (p1 := 131) (p2 := 134) (p3 := 137) C (ce_fld C (ce_aln C dX10_goes_127 rfl) dX10_goes_128 fX10_7) (ce_bin (p1 := 132) (p2 := 133) (ce_iln C dX10_goes_131 rfl) (ce_iconst C dX10_goes_132 (by decide)) (ob_add C dX10_goes_133)) dX10_goes_134 dX10_goes_135 (ce_iconst C dX10_goes_136 (by decide)) (ob_add C dX10_goes_137) dX10_goes_138)
 (cs_retV C dX10_goes_139))))))))
theorem good_X10_goes : xGood yX10_goes cX10_goes 5 none 1 24 m_X10_goes :=
  x_methI (ini := false) (bz := false) (Or.inr (Or.inr rfl)) ⟨fun _ => rfl, fun _ => rfl⟩ (fun h => by cases h) (by decide) (fun K C => bo_X10_goes C)

def lc_X10_isAnew_1 : XB := (b_cmp r_lt (e_il 3) (e_fld 10 8 (e_al 0)))
def la_X10_isAnew_1 : XS := (s_ast 0 (e_fld 10 0 (e_al 0)) (e_bin o_add (e_bin o_add (e_bin o_add (e_il 1) (e_lit 22)) (e_bin o_mul (e_lit 9) (e_il 3))) (e_il 2)) (e_lit 0))
def lu_X10_isAnew_1 : XS := (s_inc 3 1)
def bd_X10_isAnew : XS := (s_seq (s_ast 0 (e_fld 10 0 (e_al 0)) (e_bin o_add (e_bin o_add (e_il 1) (e_lit 1)) (e_il 2)) (e_lit 0))
 (s_seq (s_iasg 3 (e_lit 0))
 (s_seq (s_loop 1000 (lc_X10_isAnew_1) (la_X10_isAnew_1) (lu_X10_isAnew_1))
 s_retV)))
def m_X10_isAnew : XF := xM 10 2 4 true bd_X10_isAnew
theorem rc_X10_isAnew : xRecv m_X10_isAnew 10 2 := xM_recv
set_option maxRecDepth 100000 in
set_option maxHeartbeats 4000000 in
theorem bo_X10_isAnew {K : XK} (C : xOK K RX10 cX10_isAnew false false 0 0) : CS K 0 bd_X10_isAnew 45 0 0 :=
 (cs_seq (p1 := 11) (cs_iast (p1 := 4) (p2 := 9) (p3 := 10) C (ce_fld C (ce_aln C dX10_isAnew_0 rfl) dX10_isAnew_1 fX10_7) (ce_bin (p1 := 7) (p2 := 8) (ce_bin (p1 := 5) (p2 := 6) (ce_iln C dX10_isAnew_4 rfl) (ce_iconst C dX10_isAnew_5 (by decide)) (ob_add C dX10_isAnew_6)) (ce_iln C dX10_isAnew_7 rfl) (ob_add C dX10_isAnew_8)) (ce_iconst C dX10_isAnew_9 (by decide)) dX10_isAnew_10)
 (cs_seq (p1 := 13) (cs_iasgn (p1 := 12) C (ce_iconst C dX10_isAnew_11 (by decide)) dX10_isAnew_12 rfl)
 (cs_seq (p1 := 44) (cs_loop (pB := 21) (pE := 44) (pu := 38) (p2 := 41) C (cc_ltN (p1 := 14) (p2 := 18) C (ce_iln C dX10_isAnew_13 rfl) (ce_fld C (ce_aln C dX10_isAnew_14 rfl) dX10_isAnew_15 fX10_76) dX10_isAnew_18 (by decide) rfl)
 (cs_iast (p1 := 25) (p2 := 36) (p3 := 37) C (ce_fld C (ce_aln C dX10_isAnew_21 rfl) dX10_isAnew_22 fX10_7) (ce_bin (p1 := 34) (p2 := 35) (ce_bin (p1 := 29) (p2 := 33) (ce_bin (p1 := 26) (p2 := 28) (ce_iln C dX10_isAnew_25 rfl) (ce_bipush C dX10_isAnew_26 (by decide)) (ob_add C dX10_isAnew_28)) (ce_bin (p1 := 31) (p2 := 32) (ce_bipush C dX10_isAnew_29 (by decide)) (ce_iln C dX10_isAnew_31 rfl) (ob_mul C dX10_isAnew_32)) (ob_add C dX10_isAnew_33)) (ce_iln C dX10_isAnew_34 rfl) (ob_add C dX10_isAnew_35)) (ce_iconst C dX10_isAnew_36 (by decide)) dX10_isAnew_37)
 (cs_inc C dX10_isAnew_38 (by decide)) dX10_isAnew_41 (by decide))
 (cs_retV C dX10_isAnew_44))))
theorem good_X10_isAnew : xGood yX10_isAnew cX10_isAnew 4 none 0 0 m_X10_isAnew :=
  x_methI (ini := false) (bz := false) (Or.inr (Or.inr rfl)) ⟨fun _ => rfl, fun _ => rfl⟩ (fun h => by cases h) (by decide) (fun K C => bo_X10_isAnew C)

def lc_X10_isLevel_1 : XB := (b_cmp r_lt (e_il 3) (e_fld 10 4 (e_al 0)))
def la_X10_isLevel_1 : XS := (s_iasg 2 (e_tern (b_and (b_cmp0 r_ne0 (e_il 2)) (b_cmp0 r_eq0 (e_ald 0 (e_fld 10 0 (e_al 0)) (e_bin o_add (e_bin o_add (e_lit 22) (e_bin o_mul (e_lit 9) (e_il 1))) (e_il 3))))) (e_lit 1) (e_lit 0)))
def lu_X10_isLevel_1 : XS := (s_inc 3 1)
def bd_X10_isLevel : XS := (s_seq (s_iasg 2 (e_lit 1))
 (s_seq (s_iasg 3 (e_lit 0))
 (s_seq (s_loop 1000 (lc_X10_isLevel_1) (la_X10_isLevel_1) (lu_X10_isLevel_1))
 (s_retZ (e_il 2)))))
def m_X10_isLevel : XF := xM 10 1 4 false bd_X10_isLevel
theorem rc_X10_isLevel : xRecv m_X10_isLevel 10 1 := xM_recv
set_option maxRecDepth 100000 in
set_option maxHeartbeats 4000000 in
theorem bo_X10_isLevel {K : XK} (C : xOK K RX10 cX10_isLevel false true 0 0) : CS K 0 bd_X10_isLevel 47 0 0 :=
 (cs_seq (p1 := 2) (cs_iasgn (p1 := 1) C (ce_iconst C dX10_isLevel_0 (by decide)) dX10_isLevel_1 rfl)
 (cs_seq (p1 := 4) (cs_iasgn (p1 := 3) C (ce_iconst C dX10_isLevel_2 (by decide)) dX10_isLevel_3 rfl)
 (cs_seq (p1 := 45) (cs_loop (pB := 12) (pE := 45) (pu := 39) (p2 := 42) C (cc_ltN (p1 := 5) (p2 := 9) C (ce_iln C dX10_isLevel_4 rfl) (ce_fld C (ce_aln C dX10_isLevel_5 rfl) dX10_isLevel_6 fX10_73) dX10_isLevel_9 (by decide) rfl)
 (cs_iasgn (p1 := 38) C (ce_tern (pT := 33) (pF := 37) (p1 := 34) C (cc_and (pM := 16) (cc_ne0N (p1 := 13) C (ce_iln C dX10_isLevel_12 rfl) dX10_isLevel_13 (by decide) rfl) (cc_eq0N (p1 := 30) C (ce_iald (p1 := 20) (p2 := 29) C (ce_fld C (ce_aln C dX10_isLevel_16 rfl) dX10_isLevel_17 fX10_7) (ce_bin (p1 := 27) (p2 := 28) (ce_bin (p1 := 22) (p2 := 26) (ce_bipush C dX10_isLevel_20 (by decide)) (ce_bin (p1 := 24) (p2 := 25) (ce_bipush C dX10_isLevel_22 (by decide)) (ce_iln C dX10_isLevel_24 rfl) (ob_mul C dX10_isLevel_25)) (ob_add C dX10_isLevel_26)) (ce_iln C dX10_isLevel_27 rfl) (ob_add C dX10_isLevel_28)) dX10_isLevel_29) dX10_isLevel_30 (by decide) rfl)) (ce_iconst C dX10_isLevel_33 (by decide)) dX10_isLevel_34 (by decide) (ce_iconst C dX10_isLevel_37 (by decide))) dX10_isLevel_38 rfl)
 (cs_inc C dX10_isLevel_39 (by decide)) dX10_isLevel_42 (by decide))
 (cs_retZ (p1 := 46) C (ce_iln C dX10_isLevel_45 rfl) dX10_isLevel_46))))
theorem good_X10_isLevel : xGood yX10_isLevel cX10_isLevel 4 (some .boolean) 0 0 m_X10_isLevel :=
  x_methI (ini := false) (bz := true) (Or.inr (Or.inl ⟨rfl, rfl⟩)) ⟨fun h => (by cases h), fun h => (by cases h)⟩ (fun h => by cases h) (by decide) (fun K C => bo_X10_isLevel C)

def bd_X10_stile : XS := (s_seq (s_ite (b_not (b_cmp0 r_ne0 (e_call m_X10_isStile [(e_al 0), (e_il 1)]))) (s_ret (e_lit (-1)))
 s_skip)
 (s_sw (e_il 2) [(0, (s_ret (e_ald 0 (e_fld 10 5 (e_al 0)) (e_il 1)))),
 (1, (s_ret (e_ald 0 (e_fld 10 6 (e_al 0)) (e_il 1)))),
 (2, (s_ret (e_ald 0 (e_fld 10 7 (e_al 0)) (e_il 1)))),
 (3, (s_ret (e_ald 0 (e_fld 10 0 (e_al 0)) (e_bin o_add (e_lit 1) (e_il 1))))),
 (4, (s_ret (e_tern (b_cmp0 r_ne0 (e_call m_X10_isBroken [(e_al 0), (e_lit 0), (e_il 1)])) (e_lit 1) (e_lit 0))))]
 (s_ret (e_lit (-1)))))
def m_X10_stile : XF := xM 10 2 3 false bd_X10_stile
theorem rc_X10_stile : xRecv m_X10_stile 10 2 := xM_recv
set_option maxRecDepth 100000 in
set_option maxHeartbeats 4000000 in
theorem bo_X10_stile {K : XK} (C : xOK K RX10 cX10_stile false false 2 46) : CS K 0 bd_X10_stile 91 0 0 :=
 (cs_seq (p1 := 10) (cs_itf (pT := 8) (pF := 10) (cc_not (cc_ne0J (p1 := 5) C (ce_call (p1 := 2) (ca_cons (p1 := 1) (ce_aln C dX10_stile_0 rfl) (ca_cons (p1 := 2) (ce_iln C dX10_stile_1 rfl) ca_nil)) (xCal_V (ci := 10) C dX10_stile_2 wX10_isStile vX10_159 rfl rfl good_X10_isStile rc_X10_isStile (by decide) (by decide)) (by decide)) dX10_stile_5 (by decide) rfl)) (cs_ret (p1 := 9) C (ce_iconst C dX10_stile_8 (by decide)) dX10_stile_9)
 cs_skip)
 (cs_table (p1 := 11) (ts := [44, 51, 58, 65, 74]) (td := 89) C (ce_iln C dX10_stile_10 rfl) dX10_stile_11 (by decide) (by decide) (by decide) (by decide) ⟨(cs_ret (p1 := 50) C (ce_iald (p1 := 48) (p2 := 49) C (ce_fld C (ce_aln C dX10_stile_44 rfl) dX10_stile_45 fX10_13) (ce_iln C dX10_stile_48 rfl) dX10_stile_49) dX10_stile_50),
 (cs_ret (p1 := 57) C (ce_iald (p1 := 55) (p2 := 56) C (ce_fld C (ce_aln C dX10_stile_51 rfl) dX10_stile_52 fX10_16) (ce_iln C dX10_stile_55 rfl) dX10_stile_56) dX10_stile_57),
 (cs_ret (p1 := 64) C (ce_iald (p1 := 62) (p2 := 63) C (ce_fld C (ce_aln C dX10_stile_58 rfl) dX10_stile_59 fX10_19) (ce_iln C dX10_stile_62 rfl) dX10_stile_63) dX10_stile_64),
 (cs_ret (p1 := 73) C (ce_iald (p1 := 69) (p2 := 72) C (ce_fld C (ce_aln C dX10_stile_65 rfl) dX10_stile_66 fX10_7) (ce_bin (p1 := 70) (p2 := 71) (ce_iconst C dX10_stile_69 (by decide)) (ce_iln C dX10_stile_70 rfl) (ob_add C dX10_stile_71)) dX10_stile_72) dX10_stile_73),
 (cs_ret (p1 := 88) C (ce_tern (pT := 83) (pF := 87) (p1 := 84) C (cc_ne0N (p1 := 80) C (ce_call (p1 := 77) (ca_cons (p1 := 75) (ce_aln C dX10_stile_74 rfl) (ca_cons (p1 := 76) (ce_iconst C dX10_stile_75 (by decide)) (ca_cons (p1 := 77) (ce_iln C dX10_stile_76 rfl) ca_nil))) (xCal_V (ci := 10) C dX10_stile_77 wX10_isBroken vX10_163 rfl rfl good_X10_isBroken rc_X10_isBroken (by decide) (by decide)) (by decide)) dX10_stile_80 (by decide) rfl) (ce_iconst C dX10_stile_83 (by decide)) dX10_stile_84 (by decide) (ce_iconst C dX10_stile_87 (by decide))) dX10_stile_88), trivial⟩
 (cs_ret (p1 := 90) C (ce_iconst C dX10_stile_89 (by decide)) dX10_stile_90)))
theorem good_X10_stile : xGood yX10_stile cX10_stile 3 (some .int) 2 46 m_X10_stile :=
  x_methI (ini := false) (bz := false) (Or.inl ⟨rfl, rfl⟩) ⟨fun h => (by cases h), fun h => (by cases h)⟩ (fun h => by cases h) (by decide) (fun K C => bo_X10_stile C)

def bd_X10_walker : XS := (s_seq (s_ite (b_not (b_cmp0 r_ne0 (e_call m_X10_isWalker [(e_al 0), (e_il 1)]))) (s_ret (e_lit (-1)))
 s_skip)
 (s_sw (e_il 2) [(0, (s_ret (e_ald 0 (e_fld 10 9 (e_al 0)) (e_il 1)))),
 (1, (s_ret (e_ald 0 (e_fld 10 0 (e_al 0)) (e_bin o_add (e_lit 10) (e_il 1))))),
 (2, (s_ret (e_ald 0 (e_fld 10 10 (e_al 0)) (e_il 1)))),
 (3, (s_ret (e_ald 0 (e_fld 10 0 (e_al 0)) (e_bin o_add (e_lit 14) (e_il 1))))),
 (4, (s_ret (e_tern (b_cmp0 r_ne0 (e_call m_X10_isLevel [(e_al 0), (e_il 1)])) (e_lit 1) (e_lit 0)))),
 (5, (s_ret (e_ald 0 (e_fld 10 0 (e_al 0)) (e_bin o_add (e_lit 18) (e_il 1)))))]
 (s_ret (e_lit (-1)))))
def m_X10_walker : XF := xM 10 2 3 false bd_X10_walker
theorem rc_X10_walker : xRecv m_X10_walker 10 2 := xM_recv
set_option maxRecDepth 100000 in
set_option maxHeartbeats 4000000 in
theorem bo_X10_walker {K : XK} (C : xOK K RX10 cX10_walker false false 2 46) : CS K 0 bd_X10_walker 108 0 0 :=
 (cs_seq (p1 := 10) (cs_itf (pT := 8) (pF := 10) (cc_not (cc_ne0J (p1 := 5) C (ce_call (p1 := 2) (ca_cons (p1 := 1) (ce_aln C dX10_walker_0 rfl) (ca_cons (p1 := 2) (ce_iln C dX10_walker_1 rfl) ca_nil)) (xCal_V (ci := 10) C dX10_walker_2 wX10_isWalker vX10_167 rfl rfl good_X10_isWalker rc_X10_isWalker (by decide) (by decide)) (by decide)) dX10_walker_5 (by decide) rfl)) (cs_ret (p1 := 9) C (ce_iconst C dX10_walker_8 (by decide)) dX10_walker_9)
 cs_skip)
 (cs_table (p1 := 11) (ts := [48, 55, 65, 72, 82, 96]) (td := 106) C (ce_iln C dX10_walker_10 rfl) dX10_walker_11 (by decide) (by decide) (by decide) (by decide) ⟨(cs_ret (p1 := 54) C (ce_iald (p1 := 52) (p2 := 53) C (ce_fld C (ce_aln C dX10_walker_48 rfl) dX10_walker_49 fX10_22) (ce_iln C dX10_walker_52 rfl) dX10_walker_53) dX10_walker_54),
 (cs_ret (p1 := 64) C (ce_iald (p1 := 59) (p2 := 63) C (ce_fld C (ce_aln C dX10_walker_55 rfl) dX10_walker_56 fX10_7) (ce_bin (p1 := 61) (p2 := 62) (ce_bipush C dX10_walker_59 (by decide)) (ce_iln C dX10_walker_61 rfl) (ob_add C dX10_walker_62)) dX10_walker_63) dX10_walker_64),
 (cs_ret (p1 := 71) C (ce_iald (p1 := 69) (p2 := 70) C (ce_fld C (ce_aln C dX10_walker_65 rfl) dX10_walker_66 fX10_25) (ce_iln C dX10_walker_69 rfl) dX10_walker_70) dX10_walker_71),
 (cs_ret (p1 := 81) C (ce_iald (p1 := 76) (p2 := 80) C (ce_fld C (ce_aln C dX10_walker_72 rfl) dX10_walker_73 fX10_7) (ce_bin (p1 := 78) (p2 := 79) (ce_bipush C dX10_walker_76 (by decide)) (ce_iln C dX10_walker_78 rfl) (ob_add C dX10_walker_79)) dX10_walker_80) dX10_walker_81),
 (cs_ret (p1 := 95) C (ce_tern (pT := 90) (pF := 94) (p1 := 91) C (cc_ne0N (p1 := 87) C (ce_call (p1 := 84) (ca_cons (p1 := 83) (ce_aln C dX10_walker_82 rfl) (ca_cons (p1 := 84) (ce_iln C dX10_walker_83 rfl) ca_nil)) (xCal_V (ci := 10) C dX10_walker_84 wX10_isLevel vX10_170 rfl rfl good_X10_isLevel rc_X10_isLevel (by decide) (by decide)) (by decide)) dX10_walker_87 (by decide) rfl) (ce_iconst C dX10_walker_90 (by decide)) dX10_walker_91 (by decide) (ce_iconst C dX10_walker_94 (by decide))) dX10_walker_95),
 (cs_ret (p1 := 105) C (ce_iald (p1 := 100) (p2 := 104) C (ce_fld C (ce_aln C dX10_walker_96 rfl) dX10_walker_97 fX10_7) (ce_bin (p1 := 102) (p2 := 103) (ce_bipush C dX10_walker_100 (by decide)) (ce_iln C dX10_walker_102 rfl) (ob_add C dX10_walker_103)) dX10_walker_104) dX10_walker_105), trivial⟩
 (cs_ret (p1 := 107) C (ce_iconst C dX10_walker_106 (by decide)) dX10_walker_107)))
theorem good_X10_walker : xGood yX10_walker cX10_walker 3 (some .int) 2 46 m_X10_walker :=
  x_methI (ini := false) (bz := false) (Or.inl ⟨rfl, rfl⟩) ⟨fun h => (by cases h), fun h => (by cases h)⟩ (fun h => by cases h) (by decide) (fun K C => bo_X10_walker C)

def bd_X10_account : XS := (s_ret (e_tern (b_and (b_cmp0 r_ne0 (e_call m_X10_isWalker [(e_al 0), (e_il 1)])) (b_cmp0 r_ne0 (e_call m_X10_isStile [(e_al 0), (e_il 2)]))) (e_bin o_add (e_ald 0 (e_fld 10 0 (e_al 0)) (e_bin o_add (e_bin o_add (e_lit 22) (e_bin o_mul (e_lit 9) (e_il 1))) (e_il 2))) (e_lit 1000)) (e_lit (-1))))
def m_X10_account : XF := xM 10 2 3 false bd_X10_account
theorem rc_X10_account : xRecv m_X10_account 10 2 := xM_recv
set_option maxRecDepth 100000 in
set_option maxHeartbeats 4000000 in
theorem bo_X10_account {K : XK} (C : xOK K RX10 cX10_account false false 2 46) : CS K 0 bd_X10_account 39 0 0 :=
 (cs_ret (p1 := 38) C (ce_tern (pT := 16) (pF := 37) (p1 := 34) C (cc_and (pM := 8) (cc_ne0N (p1 := 5) C (ce_call (p1 := 2) (ca_cons (p1 := 1) (ce_aln C dX10_account_0 rfl) (ca_cons (p1 := 2) (ce_iln C dX10_account_1 rfl) ca_nil)) (xCal_V (ci := 10) C dX10_account_2 wX10_isWalker vX10_167 rfl rfl good_X10_isWalker rc_X10_isWalker (by decide) (by decide)) (by decide)) dX10_account_5 (by decide) rfl) (cc_ne0N (p1 := 13) C (ce_call (p1 := 10) (ca_cons (p1 := 9) (ce_aln C dX10_account_8 rfl) (ca_cons (p1 := 10) (ce_iln C dX10_account_9 rfl) ca_nil)) (xCal_V (ci := 10) C dX10_account_10 wX10_isStile vX10_159 rfl rfl good_X10_isStile rc_X10_isStile (by decide) (by decide)) (by decide)) dX10_account_13 (by decide) rfl)) (ce_bin (p1 := 30) (p2 := 33) (ce_iald (p1 := 20) (p2 := 29) C (ce_fld C (ce_aln C dX10_account_16 rfl) dX10_account_17 fX10_7) (ce_bin (p1 := 27) (p2 := 28) (ce_bin (p1 := 22) (p2 := 26) (ce_bipush C dX10_account_20 (by decide)) (ce_bin (p1 := 24) (p2 := 25) (ce_bipush C dX10_account_22 (by decide)) (ce_iln C dX10_account_24 rfl) (ob_mul C dX10_account_25)) (ob_add C dX10_account_26)) (ce_iln C dX10_account_27 rfl) (ob_add C dX10_account_28)) dX10_account_29) (ce_sipush C dX10_account_30 (by decide)) (ob_add C dX10_account_33)) dX10_account_34 (by decide) (ce_iconst C dX10_account_37 (by decide))) dX10_account_38)
theorem good_X10_account : xGood yX10_account cX10_account 3 (some .int) 2 46 m_X10_account :=
  x_methI (ini := false) (bz := false) (Or.inl ⟨rfl, rfl⟩) ⟨fun h => (by cases h), fun h => (by cases h)⟩ (fun h => by cases h) (by decide) (fun K C => bo_X10_account C)

def lc_X10_minds_1 : XB := (b_cmp r_lt (e_il 1) (e_lit 406))
def la_X10_minds_1 : XS := (s_ast 0 (e_fld 10 0 (e_al 0)) (e_bin o_add (e_lit 232) (e_il 1)) (e_ald 0 (e_fld 10 0 (e_al 0)) (e_bin o_add (e_bin o_add (e_lit 232) (e_il 1)) (e_lit 58))))
def lu_X10_minds_1 : XS := (s_inc 1 1)
def bd_X10_minds : XS := (s_seq (s_ite (b_cmp r_eq (e_fld 10 1 (e_al 0)) (e_lit 8)) (s_seq (s_iasg 1 (e_lit 0))
 (s_seq (s_loop 1000 (lc_X10_minds_1) (la_X10_minds_1) (lu_X10_minds_1))
 (s_putop 10 1 o_sub (e_al 0) (e_lit 1))))
 s_skip)
 (s_seq (s_call m_X10_copy [(e_al 0), (e_lit 0), (e_bin o_add (e_lit 232) (e_bin o_mul (e_lit 58) (e_fld 10 1 (e_al 0))))])
 (s_seq (s_putop 10 1 o_add (e_al 0) (e_lit 1))
 s_retV)))
def m_X10_minds : XF := xM 10 0 2 true bd_X10_minds
theorem rc_X10_minds : xRecv m_X10_minds 10 0 := xM_recv
set_option maxRecDepth 100000 in
set_option maxHeartbeats 4000000 in
theorem bo_X10_minds {K : XK} (C : xOK K RX10 cX10_minds false false 1 23) : CS K 0 bd_X10_minds 84 0 0 :=
 (cs_seq (p1 := 57) (cs_itf (pT := 9) (pF := 57) (cc_eqN (p1 := 4) (p2 := 6) C (ce_fld C (ce_aln C dX10_minds_0 rfl) dX10_minds_1 fX10_88) (ce_bipush C dX10_minds_4 (by decide)) dX10_minds_6 (by decide) rfl) (cs_seq (p1 := 11) (cs_iasgn (p1 := 10) C (ce_iconst C dX10_minds_9 (by decide)) dX10_minds_10 rfl)
 (cs_seq (p1 := 47) (cs_loop (pB := 18) (pE := 47) (pu := 41) (p2 := 44) C (cc_ltN (p1 := 12) (p2 := 15) C (ce_iln C dX10_minds_11 rfl) (ce_sipush C dX10_minds_12 (by decide)) dX10_minds_15 (by decide) rfl)
 (cs_iast (p1 := 22) (p2 := 27) (p3 := 40) C (ce_fld C (ce_aln C dX10_minds_18 rfl) dX10_minds_19 fX10_7) (ce_bin (p1 := 25) (p2 := 26) (ce_sipush C dX10_minds_22 (by decide)) (ce_iln C dX10_minds_25 rfl) (ob_add C dX10_minds_26)) (ce_iald (p1 := 31) (p2 := 39) C (ce_fld C (ce_aln C dX10_minds_27 rfl) dX10_minds_28 fX10_7) (ce_bin (p1 := 36) (p2 := 38) (ce_bin (p1 := 34) (p2 := 35) (ce_sipush C dX10_minds_31 (by decide)) (ce_iln C dX10_minds_34 rfl) (ob_add C dX10_minds_35)) (ce_bipush C dX10_minds_36 (by decide)) (ob_add C dX10_minds_38)) dX10_minds_39) dX10_minds_40)
 (cs_inc C dX10_minds_41 (by decide)) dX10_minds_44 (by decide))
 (cs_putop (p1 := 48) (p2 := 53) C (ce_aln C dX10_minds_47 rfl) dX10_minds_48 dX10_minds_49 fX10_88 (ce_iconst C dX10_minds_52 (by decide)) (ob_sub C dX10_minds_53) dX10_minds_54 pX10_88_false)))
 cs_skip)
 (cs_seq (p1 := 73) (cs_call (p1 := 70) (ca_cons (p1 := 58) (ce_aln C dX10_minds_57 rfl) (ca_cons (p1 := 59) (ce_iconst C dX10_minds_58 (by decide)) (ca_cons (p1 := 70) (ce_bin (p1 := 62) (p2 := 69) (ce_sipush C dX10_minds_59 (by decide)) (ce_bin (p1 := 64) (p2 := 68) (ce_bipush C dX10_minds_62 (by decide)) (ce_fld C (ce_aln C dX10_minds_64 rfl) dX10_minds_65 fX10_88) (ob_mul C dX10_minds_68)) (ob_add C dX10_minds_69)) ca_nil))) (xCal_V (ci := 10) C dX10_minds_70 wX10_copy vX10_173 rfl rfl good_X10_copy rc_X10_copy (by decide) (by decide)))
 (cs_seq (p1 := 83) (cs_putop (p1 := 74) (p2 := 79) C (ce_aln C dX10_minds_73 rfl) dX10_minds_74 dX10_minds_75 fX10_88 (ce_iconst C dX10_minds_78 (by decide)) (ob_add C dX10_minds_79) dX10_minds_80 pX10_88_false)
 (cs_retV C dX10_minds_83))))
theorem good_X10_minds : xGood yX10_minds cX10_minds 2 none 1 23 m_X10_minds :=
  x_methI (ini := false) (bz := false) (Or.inr (Or.inr rfl)) ⟨fun _ => rfl, fun _ => rfl⟩ (fun h => by cases h) (by decide) (fun K C => bo_X10_minds C)

def bd_X10_tread : XS := (s_seq (s_ite (b_or (b_not (b_cmp0 r_ne0 (e_call m_X10_isWalker [(e_al 0), (e_il 1)]))) (b_not (b_cmp0 r_ne0 (e_call m_X10_isStile [(e_al 0), (e_il 2)])))) (s_ret (e_lit (-1)))
 s_skip)
 (s_seq (s_ite (b_or (b_not (b_cmp0 r_ne0 (e_call m_X10_isAt [(e_al 0), (e_il 2), (e_ald 0 (e_fld 10 0 (e_al 0)) (e_bin o_add (e_lit 10) (e_il 1)))]))) (b_cmp0 r_ne0 (e_call m_X10_isBroken [(e_al 0), (e_lit 0), (e_il 2)]))) (s_ret (e_lit (-2)))
 s_skip)
 (s_seq (s_call m_X10_minds [(e_al 0)])
 (s_seq (s_call m_X10_goes [(e_al 0), (e_lit 0), (e_il 1), (e_il 2)])
 (s_ret (e_ald 0 (e_fld 10 0 (e_al 0)) (e_bin o_add (e_lit 10) (e_il 1))))))))
def m_X10_tread : XF := xM 10 2 3 false bd_X10_tread
theorem rc_X10_tread : xRecv m_X10_tread 10 2 := xM_recv
set_option maxRecDepth 100000 in
set_option maxHeartbeats 4000000 in
theorem bo_X10_tread {K : XK} (C : xOK K RX10 cX10_tread false false 2 48) : CS K 0 bd_X10_tread 68 0 0 :=
 (cs_seq (p1 := 18) (cs_itf (pT := 16) (pF := 18) (cc_or (pM := 8) (cc_not (cc_ne0N (p1 := 5) C (ce_call (p1 := 2) (ca_cons (p1 := 1) (ce_aln C dX10_tread_0 rfl) (ca_cons (p1 := 2) (ce_iln C dX10_tread_1 rfl) ca_nil)) (xCal_V (ci := 10) C dX10_tread_2 wX10_isWalker vX10_167 rfl rfl good_X10_isWalker rc_X10_isWalker (by decide) (by decide)) (by decide)) dX10_tread_5 (by decide) rfl)) (cc_not (cc_ne0J (p1 := 13) C (ce_call (p1 := 10) (ca_cons (p1 := 9) (ce_aln C dX10_tread_8 rfl) (ca_cons (p1 := 10) (ce_iln C dX10_tread_9 rfl) ca_nil)) (xCal_V (ci := 10) C dX10_tread_10 wX10_isStile vX10_159 rfl rfl good_X10_isStile rc_X10_isStile (by decide) (by decide)) (by decide)) dX10_tread_13 (by decide) rfl))) (cs_ret (p1 := 17) C (ce_iconst C dX10_tread_16 (by decide)) dX10_tread_17)
 cs_skip)
 (cs_seq (p1 := 47) (cs_itf (pT := 44) (pF := 47) (cc_or (pM := 35) (cc_not (cc_ne0N (p1 := 32) C (ce_call (p1 := 29) (ca_cons (p1 := 19) (ce_aln C dX10_tread_18 rfl) (ca_cons (p1 := 20) (ce_iln C dX10_tread_19 rfl) (ca_cons (p1 := 29) (ce_iald (p1 := 24) (p2 := 28) C (ce_fld C (ce_aln C dX10_tread_20 rfl) dX10_tread_21 fX10_7) (ce_bin (p1 := 26) (p2 := 27) (ce_bipush C dX10_tread_24 (by decide)) (ce_iln C dX10_tread_26 rfl) (ob_add C dX10_tread_27)) dX10_tread_28) ca_nil))) (xCal_V (ci := 10) C dX10_tread_29 wX10_isAt vX10_177 rfl rfl good_X10_isAt rc_X10_isAt (by decide) (by decide)) (by decide)) dX10_tread_32 (by decide) rfl)) (cc_ne0N (p1 := 41) C (ce_call (p1 := 38) (ca_cons (p1 := 36) (ce_aln C dX10_tread_35 rfl) (ca_cons (p1 := 37) (ce_iconst C dX10_tread_36 (by decide)) (ca_cons (p1 := 38) (ce_iln C dX10_tread_37 rfl) ca_nil))) (xCal_V (ci := 10) C dX10_tread_38 wX10_isBroken vX10_163 rfl rfl good_X10_isBroken rc_X10_isBroken (by decide) (by decide)) (by decide)) dX10_tread_41 (by decide) rfl)) (cs_ret (p1 := 46) C (ce_bipush C dX10_tread_44 (by decide)) dX10_tread_46)
 cs_skip)
 (cs_seq (p1 := 51) (cs_call (p1 := 48) (ca_cons (p1 := 48) (ce_aln C dX10_tread_47 rfl) ca_nil) (xCal_V (ci := 10) C dX10_tread_48 wX10_minds vX10_180 rfl rfl good_X10_minds rc_X10_minds (by decide) (by decide)))
 (cs_seq (p1 := 58) (cs_call (p1 := 55) (ca_cons (p1 := 52) (ce_aln C dX10_tread_51 rfl) (ca_cons (p1 := 53) (ce_iconst C dX10_tread_52 (by decide)) (ca_cons (p1 := 54) (ce_iln C dX10_tread_53 rfl) (ca_cons (p1 := 55) (ce_iln C dX10_tread_54 rfl) ca_nil)))) (xCal_V (ci := 10) C dX10_tread_55 wX10_goes vX10_183 rfl rfl good_X10_goes rc_X10_goes (by decide) (by decide)))
 (cs_ret (p1 := 67) C (ce_iald (p1 := 62) (p2 := 66) C (ce_fld C (ce_aln C dX10_tread_58 rfl) dX10_tread_59 fX10_7) (ce_bin (p1 := 64) (p2 := 65) (ce_bipush C dX10_tread_62 (by decide)) (ce_iln C dX10_tread_64 rfl) (ob_add C dX10_tread_65)) dX10_tread_66) dX10_tread_67)))))
theorem good_X10_tread : xGood yX10_tread cX10_tread 3 (some .int) 2 48 m_X10_tread :=
  x_methI (ini := false) (bz := false) (Or.inl ⟨rfl, rfl⟩) ⟨fun h => (by cases h), fun h => (by cases h)⟩ (fun h => by cases h) (by decide) (fun K C => bo_X10_tread C)

def bd_X10_replace : XS := (s_seq (s_ite (b_not (b_cmp0 r_ne0 (e_call m_X10_isStile [(e_al 0), (e_il 1)]))) (s_ret (e_lit (-1)))
 s_skip)
 (s_seq (s_call m_X10_minds [(e_al 0)])
 (s_seq (s_iasg 2 (e_ald 0 (e_fld 10 0 (e_al 0)) (e_bin o_add (e_lit 1) (e_il 1))))
 (s_seq (s_call m_X10_isAnew [(e_al 0), (e_lit 0), (e_il 1)])
 (s_ret (e_il 2))))))
def m_X10_replace : XF := xM 10 1 3 false bd_X10_replace
theorem rc_X10_replace : xRecv m_X10_replace 10 1 := xM_recv
set_option maxRecDepth 100000 in
set_option maxHeartbeats 4000000 in
theorem bo_X10_replace {K : XK} (C : xOK K RX10 cX10_replace false false 2 46) : CS K 0 bd_X10_replace 31 0 0 :=
 (cs_seq (p1 := 10) (cs_itf (pT := 8) (pF := 10) (cc_not (cc_ne0J (p1 := 5) C (ce_call (p1 := 2) (ca_cons (p1 := 1) (ce_aln C dX10_replace_0 rfl) (ca_cons (p1 := 2) (ce_iln C dX10_replace_1 rfl) ca_nil)) (xCal_V (ci := 10) C dX10_replace_2 wX10_isStile vX10_159 rfl rfl good_X10_isStile rc_X10_isStile (by decide) (by decide)) (by decide)) dX10_replace_5 (by decide) rfl)) (cs_ret (p1 := 9) C (ce_iconst C dX10_replace_8 (by decide)) dX10_replace_9)
 cs_skip)
 (cs_seq (p1 := 14) (cs_call (p1 := 11) (ca_cons (p1 := 11) (ce_aln C dX10_replace_10 rfl) ca_nil) (xCal_V (ci := 10) C dX10_replace_11 wX10_minds vX10_180 rfl rfl good_X10_minds rc_X10_minds (by decide) (by decide)))
 (cs_seq (p1 := 23) (cs_iasgn (p1 := 22) C (ce_iald (p1 := 18) (p2 := 21) C (ce_fld C (ce_aln C dX10_replace_14 rfl) dX10_replace_15 fX10_7) (ce_bin (p1 := 19) (p2 := 20) (ce_iconst C dX10_replace_18 (by decide)) (ce_iln C dX10_replace_19 rfl) (ob_add C dX10_replace_20)) dX10_replace_21) dX10_replace_22 rfl)
 (cs_seq (p1 := 29) (cs_call (p1 := 26) (ca_cons (p1 := 24) (ce_aln C dX10_replace_23 rfl) (ca_cons (p1 := 25) (ce_iconst C dX10_replace_24 (by decide)) (ca_cons (p1 := 26) (ce_iln C dX10_replace_25 rfl) ca_nil))) (xCal_V (ci := 10) C dX10_replace_26 wX10_isAnew vX10_186 rfl rfl good_X10_isAnew rc_X10_isAnew (by decide) (by decide)))
 (cs_ret (p1 := 30) C (ce_iln C dX10_replace_29 rfl) dX10_replace_30)))))
theorem good_X10_replace : xGood yX10_replace cX10_replace 3 (some .int) 2 46 m_X10_replace :=
  x_methI (ini := false) (bz := false) (Or.inl ⟨rfl, rfl⟩) ⟨fun h => (by cases h), fun h => (by cases h)⟩ (fun h => by cases h) (by decide) (fun K C => bo_X10_replace C)

def bd_X10_sand : XS := (s_seq (s_ite (b_not (b_cmp0 r_ne0 (e_call m_X10_isStile [(e_al 0), (e_il 1)]))) (s_ret (e_lit (-1)))
 s_skip)
 (s_seq (s_call m_X10_minds [(e_al 0)])
 (s_seq (s_call m_X10_wornMore [(e_al 0), (e_lit 0), (e_il 1), (e_lit 5)])
 (s_ret (e_ald 0 (e_fld 10 0 (e_al 0)) (e_bin o_add (e_lit 1) (e_il 1)))))))
def m_X10_sand : XF := xM 10 1 2 false bd_X10_sand
theorem rc_X10_sand : xRecv m_X10_sand 10 1 := xM_recv
set_option maxRecDepth 100000 in
set_option maxHeartbeats 4000000 in
theorem bo_X10_sand {K : XK} (C : xOK K RX10 cX10_sand false false 2 46) : CS K 0 bd_X10_sand 30 0 0 :=
 (cs_seq (p1 := 10) (cs_itf (pT := 8) (pF := 10) (cc_not (cc_ne0J (p1 := 5) C (ce_call (p1 := 2) (ca_cons (p1 := 1) (ce_aln C dX10_sand_0 rfl) (ca_cons (p1 := 2) (ce_iln C dX10_sand_1 rfl) ca_nil)) (xCal_V (ci := 10) C dX10_sand_2 wX10_isStile vX10_159 rfl rfl good_X10_isStile rc_X10_isStile (by decide) (by decide)) (by decide)) dX10_sand_5 (by decide) rfl)) (cs_ret (p1 := 9) C (ce_iconst C dX10_sand_8 (by decide)) dX10_sand_9)
 cs_skip)
 (cs_seq (p1 := 14) (cs_call (p1 := 11) (ca_cons (p1 := 11) (ce_aln C dX10_sand_10 rfl) ca_nil) (xCal_V (ci := 10) C dX10_sand_11 wX10_minds vX10_180 rfl rfl good_X10_minds rc_X10_minds (by decide) (by decide)))
 (cs_seq (p1 := 21) (cs_call (p1 := 18) (ca_cons (p1 := 15) (ce_aln C dX10_sand_14 rfl) (ca_cons (p1 := 16) (ce_iconst C dX10_sand_15 (by decide)) (ca_cons (p1 := 17) (ce_iln C dX10_sand_16 rfl) (ca_cons (p1 := 18) (ce_iconst C dX10_sand_17 (by decide)) ca_nil)))) (xCal_V (ci := 10) C dX10_sand_18 wX10_wornMore vX10_153 rfl rfl good_X10_wornMore rc_X10_wornMore (by decide) (by decide)))
 (cs_ret (p1 := 29) C (ce_iald (p1 := 25) (p2 := 28) C (ce_fld C (ce_aln C dX10_sand_21 rfl) dX10_sand_22 fX10_7) (ce_bin (p1 := 26) (p2 := 27) (ce_iconst C dX10_sand_25 (by decide)) (ce_iln C dX10_sand_26 rfl) (ob_add C dX10_sand_27)) dX10_sand_28) dX10_sand_29))))
theorem good_X10_sand : xGood yX10_sand cX10_sand 2 (some .int) 2 46 m_X10_sand :=
  x_methI (ini := false) (bz := false) (Or.inl ⟨rfl, rfl⟩) ⟨fun h => (by cases h), fun h => (by cases h)⟩ (fun h => by cases h) (by decide) (fun K C => bo_X10_sand C)

def bd_X10_undo : XS := (s_seq (s_ite (b_cmp0 r_eq0 (e_fld 10 1 (e_al 0))) (s_ret (e_lit (-2)))
 s_skip)
 (s_seq (s_putop 10 1 o_sub (e_al 0) (e_lit 1))
 (s_seq (s_call m_X10_copy [(e_al 0), (e_bin o_add (e_lit 232) (e_bin o_mul (e_lit 58) (e_fld 10 1 (e_al 0)))), (e_lit 0)])
 (s_ret (e_fld 10 1 (e_al 0))))))
def m_X10_undo : XF := xM 10 0 1 false bd_X10_undo
theorem rc_X10_undo : xRecv m_X10_undo 10 0 := xM_recv
set_option maxRecDepth 100000 in
set_option maxHeartbeats 4000000 in
theorem bo_X10_undo {K : XK} (C : xOK K RX10 cX10_undo false false 1 23) : CS K 0 bd_X10_undo 41 0 0 :=
 (cs_seq (p1 := 10) (cs_itf (pT := 7) (pF := 10) (cc_eq0N (p1 := 4) C (ce_fld C (ce_aln C dX10_undo_0 rfl) dX10_undo_1 fX10_88) dX10_undo_4 (by decide) rfl) (cs_ret (p1 := 9) C (ce_bipush C dX10_undo_7 (by decide)) dX10_undo_9)
 cs_skip)
 (cs_seq (p1 := 20) (cs_putop (p1 := 11) (p2 := 16) C (ce_aln C dX10_undo_10 rfl) dX10_undo_11 dX10_undo_12 fX10_88 (ce_iconst C dX10_undo_15 (by decide)) (ob_sub C dX10_undo_16) dX10_undo_17 pX10_88_false)
 (cs_seq (p1 := 36) (cs_call (p1 := 33) (ca_cons (p1 := 21) (ce_aln C dX10_undo_20 rfl) (ca_cons (p1 := 32) (ce_bin (p1 := 24) (p2 := 31) (ce_sipush C dX10_undo_21 (by decide)) (ce_bin (p1 := 26) (p2 := 30) (ce_bipush C dX10_undo_24 (by decide)) (ce_fld C (ce_aln C dX10_undo_26 rfl) dX10_undo_27 fX10_88) (ob_mul C dX10_undo_30)) (ob_add C dX10_undo_31)) (ca_cons (p1 := 33) (ce_iconst C dX10_undo_32 (by decide)) ca_nil))) (xCal_V (ci := 10) C dX10_undo_33 wX10_copy vX10_173 rfl rfl good_X10_copy rc_X10_copy (by decide) (by decide)))
 (cs_ret (p1 := 40) C (ce_fld C (ce_aln C dX10_undo_36 rfl) dX10_undo_37 fX10_88) dX10_undo_40))))
theorem good_X10_undo : xGood yX10_undo cX10_undo 1 (some .int) 1 23 m_X10_undo :=
  x_methI (ini := false) (bz := false) (Or.inl ⟨rfl, rfl⟩) ⟨fun h => (by cases h), fun h => (by cases h)⟩ (fun h => by cases h) (by decide) (fun K C => bo_X10_undo C)

def lc_X10_layApart_1 : XB := (b_cmp r_lt (e_il 2) (e_lit 8))
def la_X10_layApart_1 : XS := (s_ast 0 (e_fld 10 26 (e_al 0)) (e_bin o_add (e_bin o_mul (e_lit 8) (e_il 1)) (e_il 2)) (e_tern (b_cmp r_eq (e_il 1) (e_il 2)) (e_lit 0) (e_lit 20)))
def lu_X10_layApart_1 : XS := (s_inc 2 1)
def lc_X10_layApart_2 : XB := (b_cmp r_lt (e_il 1) (e_lit 8))
def la_X10_layApart_2 : XS := (s_seq (s_iasg 2 (e_lit 0))
 (s_loop 1000 (lc_X10_layApart_1) (la_X10_layApart_1) (lu_X10_layApart_1)))
def lu_X10_layApart_2 : XS := (s_inc 1 1)
def lc_X10_layApart_3 : XB := (b_cmp r_lt (e_il 1) (e_fld 10 4 (e_al 0)))
def la_X10_layApart_3 : XS := (s_ite (b_not (b_cmp0 r_ne0 (e_call m_X10_isBroken [(e_al 0), (e_lit 0), (e_il 1)]))) (s_seq (s_ast 0 (e_fld 10 26 (e_al 0)) (e_bin o_add (e_bin o_mul (e_lit 8) (e_ald 0 (e_fld 10 6 (e_al 0)) (e_il 1))) (e_ald 0 (e_fld 10 7 (e_al 0)) (e_il 1))) (e_lit 1))
 (s_ast 0 (e_fld 10 26 (e_al 0)) (e_bin o_add (e_bin o_mul (e_lit 8) (e_ald 0 (e_fld 10 7 (e_al 0)) (e_il 1))) (e_ald 0 (e_fld 10 6 (e_al 0)) (e_il 1))) (e_lit 1)))
 s_skip)
def lu_X10_layApart_3 : XS := (s_inc 1 1)
def bd_X10_layApart : XS := (s_seq (s_iasg 1 (e_lit 0))
 (s_seq (s_loop 1000 (lc_X10_layApart_2) (la_X10_layApart_2) (lu_X10_layApart_2))
 (s_seq (s_iasg 1 (e_lit 0))
 (s_seq (s_loop 1000 (lc_X10_layApart_3) (la_X10_layApart_3) (lu_X10_layApart_3))
 s_retV))))
def m_X10_layApart : XF := xM 10 0 3 true bd_X10_layApart
theorem rc_X10_layApart : xRecv m_X10_layApart 10 0 := xM_recv
set_option maxRecDepth 100000 in
set_option maxHeartbeats 4000000 in
theorem bo_X10_layApart {K : XK} (C : xOK K RX10 cX10_layApart false false 1 22) : CS K 0 bd_X10_layApart 120 0 0 :=
 (cs_seq (p1 := 2) (cs_iasgn (p1 := 1) C (ce_iconst C dX10_layApart_0 (by decide)) dX10_layApart_1 rfl)
 (cs_seq (p1 := 50) (cs_loop (pB := 8) (pE := 50) (pu := 44) (p2 := 47) C (cc_ltN (p1 := 3) (p2 := 5) C (ce_iln C dX10_layApart_2 rfl) (ce_bipush C dX10_layApart_3 (by decide)) dX10_layApart_5 (by decide) rfl)
 (cs_seq (p1 := 10) (cs_iasgn (p1 := 9) C (ce_iconst C dX10_layApart_8 (by decide)) dX10_layApart_9 rfl)
 (cs_loop (pB := 16) (pE := 44) (pu := 38) (p2 := 41) C (cc_ltN (p1 := 11) (p2 := 13) C (ce_iln C dX10_layApart_10 rfl) (ce_bipush C dX10_layApart_11 (by decide)) dX10_layApart_13 (by decide) rfl)
 (cs_iast (p1 := 20) (p2 := 26) (p3 := 37) C (ce_fld C (ce_aln C dX10_layApart_16 rfl) dX10_layApart_17 fX10_43) (ce_bin (p1 := 24) (p2 := 25) (ce_bin (p1 := 22) (p2 := 23) (ce_bipush C dX10_layApart_20 (by decide)) (ce_iln C dX10_layApart_22 rfl) (ob_mul C dX10_layApart_23)) (ce_iln C dX10_layApart_24 rfl) (ob_add C dX10_layApart_25)) (ce_tern (pT := 31) (pF := 35) (p1 := 32) C (cc_eqN (p1 := 27) (p2 := 28) C (ce_iln C dX10_layApart_26 rfl) (ce_iln C dX10_layApart_27 rfl) dX10_layApart_28 (by decide) rfl) (ce_iconst C dX10_layApart_31 (by decide)) dX10_layApart_32 (by decide) (ce_bipush C dX10_layApart_35 (by decide))) dX10_layApart_37)
 (cs_inc C dX10_layApart_38 (by decide)) dX10_layApart_41 (by decide)))
 (cs_inc C dX10_layApart_44 (by decide)) dX10_layApart_47 (by decide))
 (cs_seq (p1 := 52) (cs_iasgn (p1 := 51) C (ce_iconst C dX10_layApart_50 (by decide)) dX10_layApart_51 rfl)
 (cs_seq (p1 := 119) (cs_loop (pB := 60) (pE := 119) (pu := 113) (p2 := 116) C (cc_ltN (p1 := 53) (p2 := 57) C (ce_iln C dX10_layApart_52 rfl) (ce_fld C (ce_aln C dX10_layApart_53 rfl) dX10_layApart_54 fX10_73) dX10_layApart_57 (by decide) rfl)
 (cs_itf (pT := 69) (pF := 113) (cc_not (cc_ne0J (p1 := 66) C (ce_call (p1 := 63) (ca_cons (p1 := 61) (ce_aln C dX10_layApart_60 rfl) (ca_cons (p1 := 62) (ce_iconst C dX10_layApart_61 (by decide)) (ca_cons (p1 := 63) (ce_iln C dX10_layApart_62 rfl) ca_nil))) (xCal_V (ci := 10) C dX10_layApart_63 wX10_isBroken vX10_163 rfl rfl good_X10_isBroken rc_X10_isBroken (by decide) (by decide)) (by decide)) dX10_layApart_66 (by decide) rfl)) (cs_seq (p1 := 91) (cs_iast (p1 := 73) (p2 := 89) (p3 := 90) C (ce_fld C (ce_aln C dX10_layApart_69 rfl) dX10_layApart_70 fX10_43) (ce_bin (p1 := 82) (p2 := 88) (ce_bin (p1 := 75) (p2 := 81) (ce_bipush C dX10_layApart_73 (by decide)) (ce_iald (p1 := 79) (p2 := 80) C (ce_fld C (ce_aln C dX10_layApart_75 rfl) dX10_layApart_76 fX10_16) (ce_iln C dX10_layApart_79 rfl) dX10_layApart_80) (ob_mul C dX10_layApart_81)) (ce_iald (p1 := 86) (p2 := 87) C (ce_fld C (ce_aln C dX10_layApart_82 rfl) dX10_layApart_83 fX10_19) (ce_iln C dX10_layApart_86 rfl) dX10_layApart_87) (ob_add C dX10_layApart_88)) (ce_iconst C dX10_layApart_89 (by decide)) dX10_layApart_90)
 (cs_iast (p1 := 95) (p2 := 111) (p3 := 112) C (ce_fld C (ce_aln C dX10_layApart_91 rfl) dX10_layApart_92 fX10_43) (ce_bin (p1 := 104) (p2 := 110) (ce_bin (p1 := 97) (p2 := 103) (ce_bipush C dX10_layApart_95 (by decide)) (ce_iald (p1 := 101) (p2 := 102) C (ce_fld C (ce_aln C dX10_layApart_97 rfl) dX10_layApart_98 fX10_19) (ce_iln C dX10_layApart_101 rfl) dX10_layApart_102) (ob_mul C dX10_layApart_103)) (ce_iald (p1 := 108) (p2 := 109) C (ce_fld C (ce_aln C dX10_layApart_104 rfl) dX10_layApart_105 fX10_16) (ce_iln C dX10_layApart_108 rfl) dX10_layApart_109) (ob_add C dX10_layApart_110)) (ce_iconst C dX10_layApart_111 (by decide)) dX10_layApart_112))
 cs_skip)
 (cs_inc C dX10_layApart_113 (by decide)) dX10_layApart_116 (by decide))
 (cs_retV C dX10_layApart_119)))))
theorem good_X10_layApart : xGood yX10_layApart cX10_layApart 3 none 1 22 m_X10_layApart :=
  x_methI (ini := false) (bz := false) (Or.inr (Or.inr rfl)) ⟨fun _ => rfl, fun _ => rfl⟩ (fun h => by cases h) (by decide) (fun K C => bo_X10_layApart C)

def lc_X10_closeApart_1 : XB := (b_cmp r_lt (e_il 3) (e_fld 10 3 (e_al 0)))
def la_X10_closeApart_1 : XS := (s_seq (s_iasg 4 (e_bin o_add (e_ald 0 (e_fld 10 26 (e_al 0)) (e_bin o_add (e_bin o_mul (e_lit 8) (e_il 2)) (e_il 1))) (e_ald 0 (e_fld 10 26 (e_al 0)) (e_bin o_add (e_bin o_mul (e_lit 8) (e_il 1)) (e_il 3)))))
 (s_ast 0 (e_fld 10 26 (e_al 0)) (e_bin o_add (e_bin o_mul (e_lit 8) (e_il 2)) (e_il 3)) (e_tern (b_cmp r_lt (e_il 4) (e_ald 0 (e_fld 10 26 (e_al 0)) (e_bin o_add (e_bin o_mul (e_lit 8) (e_il 2)) (e_il 3)))) (e_il 4) (e_ald 0 (e_fld 10 26 (e_al 0)) (e_bin o_add (e_bin o_mul (e_lit 8) (e_il 2)) (e_il 3))))))
def lu_X10_closeApart_1 : XS := (s_inc 3 1)
def lc_X10_closeApart_2 : XB := (b_cmp r_lt (e_il 2) (e_fld 10 3 (e_al 0)))
def la_X10_closeApart_2 : XS := (s_seq (s_iasg 3 (e_lit 0))
 (s_loop 1000 (lc_X10_closeApart_1) (la_X10_closeApart_1) (lu_X10_closeApart_1)))
def lu_X10_closeApart_2 : XS := (s_inc 2 1)
def lc_X10_closeApart_3 : XB := (b_cmp r_lt (e_il 1) (e_fld 10 3 (e_al 0)))
def la_X10_closeApart_3 : XS := (s_seq (s_iasg 2 (e_lit 0))
 (s_loop 1000 (lc_X10_closeApart_2) (la_X10_closeApart_2) (lu_X10_closeApart_2)))
def lu_X10_closeApart_3 : XS := (s_inc 1 1)
def bd_X10_closeApart : XS := (s_seq (s_iasg 1 (e_lit 0))
 (s_seq (s_loop 1000 (lc_X10_closeApart_3) (la_X10_closeApart_3) (lu_X10_closeApart_3))
 s_retV))
def m_X10_closeApart : XF := xM 10 0 5 true bd_X10_closeApart
theorem rc_X10_closeApart : xRecv m_X10_closeApart 10 0 := xM_recv
set_option maxRecDepth 100000 in
set_option maxHeartbeats 4000000 in
theorem bo_X10_closeApart {K : XK} (C : xOK K RX10 cX10_closeApart false false 0 0) : CS K 0 bd_X10_closeApart 117 0 0 :=
 (cs_seq (p1 := 2) (cs_iasgn (p1 := 1) C (ce_iconst C dX10_closeApart_0 (by decide)) dX10_closeApart_1 rfl)
 (cs_seq (p1 := 116) (cs_loop (pB := 10) (pE := 116) (pu := 110) (p2 := 113) C (cc_ltN (p1 := 3) (p2 := 7) C (ce_iln C dX10_closeApart_2 rfl) (ce_fld C (ce_aln C dX10_closeApart_3 rfl) dX10_closeApart_4 fX10_66) dX10_closeApart_7 (by decide) rfl)
 (cs_seq (p1 := 12) (cs_iasgn (p1 := 11) C (ce_iconst C dX10_closeApart_10 (by decide)) dX10_closeApart_11 rfl)
 (cs_loop (pB := 20) (pE := 110) (pu := 104) (p2 := 107) C (cc_ltN (p1 := 13) (p2 := 17) C (ce_iln C dX10_closeApart_12 rfl) (ce_fld C (ce_aln C dX10_closeApart_13 rfl) dX10_closeApart_14 fX10_66) dX10_closeApart_17 (by decide) rfl)
 (cs_seq (p1 := 22) (cs_iasgn (p1 := 21) C (ce_iconst C dX10_closeApart_20 (by decide)) dX10_closeApart_21 rfl)
 (cs_loop (pB := 30) (pE := 104) (pu := 98) (p2 := 101) C (cc_ltN (p1 := 23) (p2 := 27) C (ce_iln C dX10_closeApart_22 rfl) (ce_fld C (ce_aln C dX10_closeApart_23 rfl) dX10_closeApart_24 fX10_66) dX10_closeApart_27 (by decide) rfl)
 (cs_seq (p1 := 55) (cs_iasg (p1 := 53) C (ce_bin (p1 := 41) (p2 := 52) (ce_iald (p1 := 34) (p2 := 40) C (ce_fld C (ce_aln C dX10_closeApart_30 rfl) dX10_closeApart_31 fX10_43) (ce_bin (p1 := 38) (p2 := 39) (ce_bin (p1 := 36) (p2 := 37) (ce_bipush C dX10_closeApart_34 (by decide)) (ce_iln C dX10_closeApart_36 rfl) (ob_mul C dX10_closeApart_37)) (ce_iln C dX10_closeApart_38 rfl) (ob_add C dX10_closeApart_39)) dX10_closeApart_40) (ce_iald (p1 := 45) (p2 := 51) C (ce_fld C (ce_aln C dX10_closeApart_41 rfl) dX10_closeApart_42 fX10_43) (ce_bin (p1 := 49) (p2 := 50) (ce_bin (p1 := 47) (p2 := 48) (ce_bipush C dX10_closeApart_45 (by decide)) (ce_iln C dX10_closeApart_47 rfl) (ob_mul C dX10_closeApart_48)) (ce_iln C dX10_closeApart_49 rfl) (ob_add C dX10_closeApart_50)) dX10_closeApart_51) (ob_add C dX10_closeApart_52)) dX10_closeApart_53)
 (cs_iast (p1 := 59) (p2 := 65) (p3 := 97) C (ce_fld C (ce_aln C dX10_closeApart_55 rfl) dX10_closeApart_56 fX10_43) (ce_bin (p1 := 63) (p2 := 64) (ce_bin (p1 := 61) (p2 := 62) (ce_bipush C dX10_closeApart_59 (by decide)) (ce_iln C dX10_closeApart_61 rfl) (ob_mul C dX10_closeApart_62)) (ce_iln C dX10_closeApart_63 rfl) (ob_add C dX10_closeApart_64)) (ce_tern (pT := 81) (pF := 86) (p1 := 83) C (cc_ltN (p1 := 67) (p2 := 78) C (ce_il C dX10_closeApart_65) (ce_iald (p1 := 71) (p2 := 77) C (ce_fld C (ce_aln C dX10_closeApart_67 rfl) dX10_closeApart_68 fX10_43) (ce_bin (p1 := 75) (p2 := 76) (ce_bin (p1 := 73) (p2 := 74) (ce_bipush C dX10_closeApart_71 (by decide)) (ce_iln C dX10_closeApart_73 rfl) (ob_mul C dX10_closeApart_74)) (ce_iln C dX10_closeApart_75 rfl) (ob_add C dX10_closeApart_76)) dX10_closeApart_77) dX10_closeApart_78 (by decide) rfl) (ce_il C dX10_closeApart_81) dX10_closeApart_83 (by decide) (ce_iald (p1 := 90) (p2 := 96) C (ce_fld C (ce_aln C dX10_closeApart_86 rfl) dX10_closeApart_87 fX10_43) (ce_bin (p1 := 94) (p2 := 95) (ce_bin (p1 := 92) (p2 := 93) (ce_bipush C dX10_closeApart_90 (by decide)) (ce_iln C dX10_closeApart_92 rfl) (ob_mul C dX10_closeApart_93)) (ce_iln C dX10_closeApart_94 rfl) (ob_add C dX10_closeApart_95)) dX10_closeApart_96)) dX10_closeApart_97))
 (cs_inc C dX10_closeApart_98 (by decide)) dX10_closeApart_101 (by decide)))
 (cs_inc C dX10_closeApart_104 (by decide)) dX10_closeApart_107 (by decide)))
 (cs_inc C dX10_closeApart_110 (by decide)) dX10_closeApart_113 (by decide))
 (cs_retV C dX10_closeApart_116)))
theorem good_X10_closeApart : xGood yX10_closeApart cX10_closeApart 5 none 0 0 m_X10_closeApart :=
  x_methI (ini := false) (bz := false) (Or.inr (Or.inr rfl)) ⟨fun _ => rfl, fun _ => rfl⟩ (fun h => by cases h) (by decide) (fun K C => bo_X10_closeApart C)

def lc_X10_allApart_1 : XB := (b_cmp r_lt (e_il 3) (e_fld 10 3 (e_al 0)))
def la_X10_allApart_1 : XS := (s_iasg 1 (e_bin o_add (e_il 1) (e_ald 0 (e_fld 10 26 (e_al 0)) (e_bin o_add (e_bin o_mul (e_lit 8) (e_il 2)) (e_il 3)))))
def lu_X10_allApart_1 : XS := (s_inc 3 1)
def lc_X10_allApart_2 : XB := (b_cmp r_lt (e_il 2) (e_fld 10 3 (e_al 0)))
def la_X10_allApart_2 : XS := (s_seq (s_iasg 3 (e_bin o_add (e_il 2) (e_lit 1)))
 (s_loop 1000 (lc_X10_allApart_1) (la_X10_allApart_1) (lu_X10_allApart_1)))
def lu_X10_allApart_2 : XS := (s_inc 2 1)
def bd_X10_allApart : XS := (s_seq (s_iasg 1 (e_lit 0))
 (s_seq (s_iasg 2 (e_lit 0))
 (s_seq (s_loop 1000 (lc_X10_allApart_2) (la_X10_allApart_2) (lu_X10_allApart_2))
 (s_ret (e_il 1)))))
def m_X10_allApart : XF := xM 10 0 4 false bd_X10_allApart
theorem rc_X10_allApart : xRecv m_X10_allApart 10 0 := xM_recv
set_option maxRecDepth 100000 in
set_option maxHeartbeats 4000000 in
theorem bo_X10_allApart {K : XK} (C : xOK K RX10 cX10_allApart false false 0 0) : CS K 0 bd_X10_allApart 52 0 0 :=
 (cs_seq (p1 := 2) (cs_iasgn (p1 := 1) C (ce_iconst C dX10_allApart_0 (by decide)) dX10_allApart_1 rfl)
 (cs_seq (p1 := 4) (cs_iasgn (p1 := 3) C (ce_iconst C dX10_allApart_2 (by decide)) dX10_allApart_3 rfl)
 (cs_seq (p1 := 50) (cs_loop (pB := 12) (pE := 50) (pu := 44) (p2 := 47) C (cc_ltN (p1 := 5) (p2 := 9) C (ce_iln C dX10_allApart_4 rfl) (ce_fld C (ce_aln C dX10_allApart_5 rfl) dX10_allApart_6 fX10_66) dX10_allApart_9 (by decide) rfl)
 (cs_seq (p1 := 16) (cs_iasgn (p1 := 15) C (ce_bin (p1 := 13) (p2 := 14) (ce_iln C dX10_allApart_12 rfl) (ce_iconst C dX10_allApart_13 (by decide)) (ob_add C dX10_allApart_14)) dX10_allApart_15 rfl)
 (cs_loop (pB := 24) (pE := 44) (pu := 38) (p2 := 41) C (cc_ltN (p1 := 17) (p2 := 21) C (ce_iln C dX10_allApart_16 rfl) (ce_fld C (ce_aln C dX10_allApart_17 rfl) dX10_allApart_18 fX10_66) dX10_allApart_21 (by decide) rfl)
 (cs_iasgn (p1 := 37) C (ce_bin (p1 := 25) (p2 := 36) (ce_iln C dX10_allApart_24 rfl) (ce_iald (p1 := 29) (p2 := 35) C (ce_fld C (ce_aln C dX10_allApart_25 rfl) dX10_allApart_26 fX10_43) (ce_bin (p1 := 33) (p2 := 34) (ce_bin (p1 := 31) (p2 := 32) (ce_bipush C dX10_allApart_29 (by decide)) (ce_iln C dX10_allApart_31 rfl) (ob_mul C dX10_allApart_32)) (ce_iln C dX10_allApart_33 rfl) (ob_add C dX10_allApart_34)) dX10_allApart_35) (ob_add C dX10_allApart_36)) dX10_allApart_37 rfl)
 (cs_inc C dX10_allApart_38 (by decide)) dX10_allApart_41 (by decide)))
 (cs_inc C dX10_allApart_44 (by decide)) dX10_allApart_47 (by decide))
 (cs_ret (p1 := 51) C (ce_iln C dX10_allApart_50 rfl) dX10_allApart_51))))
theorem good_X10_allApart : xGood yX10_allApart cX10_allApart 4 (some .int) 0 0 m_X10_allApart :=
  x_methI (ini := false) (bz := false) (Or.inl ⟨rfl, rfl⟩) ⟨fun h => (by cases h), fun h => (by cases h)⟩ (fun h => by cases h) (by decide) (fun K C => bo_X10_allApart C)

def lc_X10_way_1 : XB := (b_and (b_cmp r_lt (e_il 6) (e_fld 10 4 (e_al 0))) (b_cmp0 r_gt0 (e_il 5)))
def la_X10_way_1 : XS := (s_ite (b_and (b_and (b_cmp0 r_ne0 (e_call m_X10_isAt [(e_al 0), (e_il 6), (e_il 4)])) (b_not (b_cmp0 r_ne0 (e_call m_X10_isBroken [(e_al 0), (e_lit 0), (e_il 6)])))) (b_cmp r_eq (e_ald 0 (e_fld 10 26 (e_al 0)) (e_bin o_add (e_bin o_mul (e_lit 8) (e_call m_X10_otherEnd [(e_al 0), (e_il 6), (e_il 4)])) (e_il 2))) (e_bin o_sub (e_il 5) (e_lit 1)))) (s_ret (e_il 6))
 s_skip)
def lu_X10_way_1 : XS := (s_inc 6 1)
def bd_X10_way : XS := (s_seq (s_ite (b_or (b_or (b_not (b_cmp0 r_ne0 (e_call m_X10_isWalker [(e_al 0), (e_il 1)]))) (b_not (b_cmp0 r_ne0 (e_call m_X10_isField [(e_al 0), (e_il 2)])))) (b_not (b_cmp0 r_ne0 (e_call m_X10_in [(e_un o_i2l (e_il 3)), (e_long 0), (e_long 1)])))) (s_ret (e_lit (-1)))
 s_skip)
 (s_seq (s_call m_X10_layApart [(e_al 0)])
 (s_seq (s_call m_X10_closeApart [(e_al 0)])
 (s_seq (s_iasg 4 (e_ald 0 (e_fld 10 0 (e_al 0)) (e_bin o_add (e_lit 10) (e_il 1))))
 (s_seq (s_iasg 5 (e_ald 0 (e_fld 10 26 (e_al 0)) (e_bin o_add (e_bin o_mul (e_lit 8) (e_il 4)) (e_il 2))))
 (s_seq (s_ite (b_cmp r_eq (e_il 5) (e_lit 20)) (s_ret (e_lit (-4)))
 s_skip)
 (s_seq (s_ite (b_cmp0 r_eq0 (e_il 3)) (s_ret (e_il 5))
 s_skip)
 (s_seq (s_iasg 6 (e_lit 0))
 (s_seq (s_loop 1000 (lc_X10_way_1) (la_X10_way_1) (lu_X10_way_1))
 (s_ret (e_lit (-4))))))))))))
def m_X10_way : XF := xM 10 3 7 false bd_X10_way
theorem rc_X10_way : xRecv m_X10_way 10 3 := xM_recv
set_option maxRecDepth 100000 in
set_option maxHeartbeats 4000000 in
theorem bo_X10_way {K : XK} (C : xOK K RX10 cX10_way false false 2 46) : CS K 0 bd_X10_way 153 0 0 :=
 (cs_seq (p1 := 28) (cs_itf (pT := 26) (pF := 28) (cc_or (pM := 16) (cc_or (pM := 8) (cc_not (cc_ne0N (p1 := 5) C (ce_call (p1 := 2) (ca_cons (p1 := 1) (ce_aln C dX10_way_0 rfl) (ca_cons (p1 := 2) (ce_iln C dX10_way_1 rfl) ca_nil)) (xCal_V (ci := 10) C dX10_way_2 wX10_isWalker vX10_167 rfl rfl good_X10_isWalker rc_X10_isWalker (by decide) (by decide)) (by decide)) dX10_way_5 (by decide) rfl)) (cc_not (cc_ne0N (p1 := 13) C (ce_call (p1 := 10) (ca_cons (p1 := 9) (ce_aln C dX10_way_8 rfl) (ca_cons (p1 := 10) (ce_iln C dX10_way_9 rfl) ca_nil)) (xCal_V (ci := 10) C dX10_way_10 wX10_isField vX10_189 rfl rfl good_X10_isField rc_X10_isField (by decide) (by decide)) (by decide)) dX10_way_13 (by decide) rfl))) (cc_not (cc_ne0J (p1 := 23) C (ce_call (p1 := 20) (ca_cons (p1 := 18) (ce_un (ce_iln C dX10_way_16 rfl) (ob_i2l C dX10_way_17)) (ca_cons (p1 := 19) (ce_lconst C dX10_way_18 rfl) (ca_cons (p1 := 20) (ce_lconst C dX10_way_19 rfl) ca_nil))) (xCal_S C dX10_way_20 wX10_in vX10_69 good_X10_in rc_X10_in (by decide) (by decide)) (by decide)) dX10_way_23 (by decide) rfl))) (cs_ret (p1 := 27) C (ce_iconst C dX10_way_26 (by decide)) dX10_way_27)
 cs_skip)
 (cs_seq (p1 := 32) (cs_call (p1 := 29) (ca_cons (p1 := 29) (ce_aln C dX10_way_28 rfl) ca_nil) (xCal_V (ci := 10) C dX10_way_29 wX10_layApart vX10_192 rfl rfl good_X10_layApart rc_X10_layApart (by decide) (by decide)))
 (cs_seq (p1 := 36) (cs_call (p1 := 33) (ca_cons (p1 := 33) (ce_aln C dX10_way_32 rfl) ca_nil) (xCal_V (ci := 10) C dX10_way_33 wX10_closeApart vX10_195 rfl rfl good_X10_closeApart rc_X10_closeApart (by decide) (by decide)))
 (cs_seq (p1 := 47) (cs_iasg (p1 := 45) C (ce_iald (p1 := 40) (p2 := 44) C (ce_fld C (ce_aln C dX10_way_36 rfl) dX10_way_37 fX10_7) (ce_bin (p1 := 42) (p2 := 43) (ce_bipush C dX10_way_40 (by decide)) (ce_iln C dX10_way_42 rfl) (ob_add C dX10_way_43)) dX10_way_44) dX10_way_45)
 (cs_seq (p1 := 61) (cs_iasg (p1 := 59) C (ce_iald (p1 := 51) (p2 := 58) C (ce_fld C (ce_aln C dX10_way_47 rfl) dX10_way_48 fX10_43) (ce_bin (p1 := 56) (p2 := 57) (ce_bin (p1 := 53) (p2 := 55) (ce_bipush C dX10_way_51 (by decide)) (ce_il C dX10_way_53) (ob_mul C dX10_way_55)) (ce_iln C dX10_way_56 rfl) (ob_add C dX10_way_57)) dX10_way_58) dX10_way_59)
 (cs_seq (p1 := 71) (cs_itf (pT := 68) (pF := 71) (cc_eqN (p1 := 63) (p2 := 65) C (ce_il C dX10_way_61) (ce_bipush C dX10_way_63 (by decide)) dX10_way_65 (by decide) rfl) (cs_ret (p1 := 70) C (ce_bipush C dX10_way_68 (by decide)) dX10_way_70)
 cs_skip)
 (cs_seq (p1 := 78) (cs_itf (pT := 75) (pF := 78) (cc_eq0N (p1 := 72) C (ce_iln C dX10_way_71 rfl) dX10_way_72 (by decide) rfl) (cs_ret (p1 := 77) C (ce_il C dX10_way_75) dX10_way_77)
 cs_skip)
 (cs_seq (p1 := 81) (cs_iasg (p1 := 79) C (ce_iconst C dX10_way_78 (by decide)) dX10_way_79)
 (cs_seq (p1 := 150) (cs_loop (pB := 95) (pE := 150) (pu := 144) (p2 := 147) C (cc_and (pM := 90) (cc_ltN (p1 := 83) (p2 := 87) C (ce_il C dX10_way_81) (ce_fld C (ce_aln C dX10_way_83 rfl) dX10_way_84 fX10_73) dX10_way_87 (by decide) rfl) (cc_gt0N (p1 := 92) C (ce_il C dX10_way_90) dX10_way_92 (by decide) rfl))
 (cs_itf (pT := 141) (pF := 144) (cc_and (pM := 116) (cc_and (pM := 106) (cc_ne0N (p1 := 103) C (ce_call (p1 := 100) (ca_cons (p1 := 96) (ce_aln C dX10_way_95 rfl) (ca_cons (p1 := 98) (ce_il C dX10_way_96) (ca_cons (p1 := 100) (ce_il C dX10_way_98) ca_nil))) (xCal_V (ci := 10) C dX10_way_100 wX10_isAt vX10_177 rfl rfl good_X10_isAt rc_X10_isAt (by decide) (by decide)) (by decide)) dX10_way_103 (by decide) rfl) (cc_not (cc_ne0J (p1 := 113) C (ce_call (p1 := 110) (ca_cons (p1 := 107) (ce_aln C dX10_way_106 rfl) (ca_cons (p1 := 108) (ce_iconst C dX10_way_107 (by decide)) (ca_cons (p1 := 110) (ce_il C dX10_way_108) ca_nil))) (xCal_V (ci := 10) C dX10_way_110 wX10_isBroken vX10_163 rfl rfl good_X10_isBroken rc_X10_isBroken (by decide) (by decide)) (by decide)) dX10_way_113 (by decide) rfl))) (cc_eqN (p1 := 134) (p2 := 138) C (ce_iald (p1 := 120) (p2 := 133) C (ce_fld C (ce_aln C dX10_way_116 rfl) dX10_way_117 fX10_43) (ce_bin (p1 := 131) (p2 := 132) (ce_bin (p1 := 122) (p2 := 130) (ce_bipush C dX10_way_120 (by decide)) (ce_call (p1 := 127) (ca_cons (p1 := 123) (ce_aln C dX10_way_122 rfl) (ca_cons (p1 := 125) (ce_il C dX10_way_123) (ca_cons (p1 := 127) (ce_il C dX10_way_125) ca_nil))) (xCal_V (ci := 10) C dX10_way_127 wX10_otherEnd vX10_146 rfl rfl good_X10_otherEnd rc_X10_otherEnd (by decide) (by decide)) (by decide)) (ob_mul C dX10_way_130)) (ce_iln C dX10_way_131 rfl) (ob_add C dX10_way_132)) dX10_way_133) (ce_bin (p1 := 136) (p2 := 137) (ce_il C dX10_way_134) (ce_iconst C dX10_way_136 (by decide)) (ob_sub C dX10_way_137)) dX10_way_138 (by decide) rfl)) (cs_ret (p1 := 143) C (ce_il C dX10_way_141) dX10_way_143)
 cs_skip)
 (cs_inc C dX10_way_144 (by decide)) dX10_way_147 (by decide))
 (cs_ret (p1 := 152) C (ce_bipush C dX10_way_150 (by decide)) dX10_way_152))))))))))
theorem good_X10_way : xGood yX10_way cX10_way 7 (some .int) 2 46 m_X10_way :=
  x_methI (ini := false) (bz := false) (Or.inl ⟨rfl, rfl⟩) ⟨fun h => (by cases h), fun h => (by cases h)⟩ (fun h => by cases h) (by decide) (fun K C => bo_X10_way C)

def lc_X10_joins_1 : XB := (b_cmp r_lt (e_il 3) (e_fld 10 3 (e_al 0)))
def la_X10_joins_1 : XS := (s_ast 0 (e_fld 10 27 (e_al 0)) (e_il 3) (e_tern (b_cmp r_eq (e_ald 0 (e_fld 10 27 (e_al 0)) (e_il 3)) (e_il 2)) (e_ald 0 (e_fld 10 27 (e_al 0)) (e_ald 0 (e_fld 10 6 (e_al 0)) (e_il 1))) (e_ald 0 (e_fld 10 27 (e_al 0)) (e_il 3))))
def lu_X10_joins_1 : XS := (s_inc 3 1)
def bd_X10_joins : XS := (s_seq (s_iasg 2 (e_ald 0 (e_fld 10 27 (e_al 0)) (e_ald 0 (e_fld 10 7 (e_al 0)) (e_il 1))))
 (s_seq (s_iasg 3 (e_lit 0))
 (s_seq (s_loop 1000 (lc_X10_joins_1) (la_X10_joins_1) (lu_X10_joins_1))
 s_retV)))
def m_X10_joins : XF := xM 10 1 4 true bd_X10_joins
theorem rc_X10_joins : xRecv m_X10_joins 10 1 := xM_recv
set_option maxRecDepth 100000 in
set_option maxHeartbeats 4000000 in
theorem bo_X10_joins {K : XK} (C : xOK K RX10 cX10_joins false false 0 0) : CS K 0 bd_X10_joins 65 0 0 :=
 (cs_seq (p1 := 12) (cs_iasgn (p1 := 11) C (ce_iald (p1 := 4) (p2 := 10) C (ce_fld C (ce_aln C dX10_joins_0 rfl) dX10_joins_1 fX10_46) (ce_iald (p1 := 8) (p2 := 9) C (ce_fld C (ce_aln C dX10_joins_4 rfl) dX10_joins_5 fX10_19) (ce_iln C dX10_joins_8 rfl) dX10_joins_9) dX10_joins_10) dX10_joins_11 rfl)
 (cs_seq (p1 := 14) (cs_iasgn (p1 := 13) C (ce_iconst C dX10_joins_12 (by decide)) dX10_joins_13 rfl)
 (cs_seq (p1 := 64) (cs_loop (pB := 22) (pE := 64) (pu := 58) (p2 := 61) C (cc_ltN (p1 := 15) (p2 := 19) C (ce_iln C dX10_joins_14 rfl) (ce_fld C (ce_aln C dX10_joins_15 rfl) dX10_joins_16 fX10_66) dX10_joins_19 (by decide) rfl)
 (cs_iast (p1 := 26) (p2 := 27) (p3 := 57) C (ce_fld C (ce_aln C dX10_joins_22 rfl) dX10_joins_23 fX10_46) (ce_iln C dX10_joins_26 rfl) (ce_tern (pT := 37) (pF := 51) (p1 := 48) C (cc_eqN (p1 := 33) (p2 := 34) C (ce_iald (p1 := 31) (p2 := 32) C (ce_fld C (ce_aln C dX10_joins_27 rfl) dX10_joins_28 fX10_46) (ce_iln C dX10_joins_31 rfl) dX10_joins_32) (ce_iln C dX10_joins_33 rfl) dX10_joins_34 (by decide) rfl) (ce_iald (p1 := 41) (p2 := 47) C (ce_fld C (ce_aln C dX10_joins_37 rfl) dX10_joins_38 fX10_46) (ce_iald (p1 := 45) (p2 := 46) C (ce_fld C (ce_aln C dX10_joins_41 rfl) dX10_joins_42 fX10_16) (ce_iln C dX10_joins_45 rfl) dX10_joins_46) dX10_joins_47) dX10_joins_48 (by decide) (ce_iald (p1 := 55) (p2 := 56) C (ce_fld C (ce_aln C dX10_joins_51 rfl) dX10_joins_52 fX10_46) (ce_iln C dX10_joins_55 rfl) dX10_joins_56)) dX10_joins_57)
 (cs_inc C dX10_joins_58 (by decide)) dX10_joins_61 (by decide))
 (cs_retV C dX10_joins_64))))
theorem good_X10_joins : xGood yX10_joins cX10_joins 4 none 0 0 m_X10_joins :=
  x_methI (ini := false) (bz := false) (Or.inr (Or.inr rfl)) ⟨fun _ => rfl, fun _ => rfl⟩ (fun h => by cases h) (by decide) (fun K C => bo_X10_joins C)

def lc_X10_hangs_1 : XB := (b_cmp r_lt (e_il 3) (e_fld 10 3 (e_al 0)))
def la_X10_hangs_1 : XS := (s_ast 0 (e_fld 10 27 (e_al 0)) (e_il 3) (e_il 3))
def lu_X10_hangs_1 : XS := (s_inc 3 1)
def lc_X10_hangs_2 : XB := (b_cmp r_lt (e_il 3) (e_fld 10 4 (e_al 0)))
def la_X10_hangs_2 : XS := (s_ite (b_or (b_cmp0 r_ne0 (e_call m_X10_has [(e_il 2), (e_il 3)])) (b_cmp0 r_ne0 (e_ald 0 (e_fld 10 0 (e_al 0)) (e_bin o_add (e_bin o_add (e_lit 22) (e_bin o_mul (e_lit 9) (e_il 1))) (e_il 3))))) (s_call m_X10_joins [(e_al 0), (e_il 3)])
 s_skip)
def lu_X10_hangs_2 : XS := (s_inc 3 1)
def lc_X10_hangs_3 : XB := (b_cmp r_lt (e_il 4) (e_fld 10 4 (e_al 0)))
def la_X10_hangs_3 : XS := (s_iasg 3 (e_tern (b_and (b_cmp0 r_ne0 (e_il 3)) (b_or (b_cmp0 r_eq0 (e_ald 0 (e_fld 10 0 (e_al 0)) (e_bin o_add (e_bin o_add (e_lit 22) (e_bin o_mul (e_lit 9) (e_il 1))) (e_il 4)))) (b_cmp r_eq (e_ald 0 (e_fld 10 27 (e_al 0)) (e_ald 0 (e_fld 10 6 (e_al 0)) (e_il 4))) (e_ald 0 (e_fld 10 27 (e_al 0)) (e_ald 0 (e_fld 10 0 (e_al 0)) (e_bin o_add (e_lit 10) (e_il 1))))))) (e_lit 1) (e_lit 0)))
def lu_X10_hangs_3 : XS := (s_inc 4 1)
def bd_X10_hangs : XS := (s_seq (s_iasg 3 (e_lit 0))
 (s_seq (s_loop 1000 (lc_X10_hangs_1) (la_X10_hangs_1) (lu_X10_hangs_1))
 (s_seq (s_iasg 3 (e_lit 0))
 (s_seq (s_loop 1000 (lc_X10_hangs_2) (la_X10_hangs_2) (lu_X10_hangs_2))
 (s_seq (s_iasg 3 (e_lit 1))
 (s_seq (s_iasg 4 (e_lit 0))
 (s_seq (s_loop 1000 (lc_X10_hangs_3) (la_X10_hangs_3) (lu_X10_hangs_3))
 (s_retZ (e_il 3)))))))))
def m_X10_hangs : XF := xM 10 2 5 false bd_X10_hangs
theorem rc_X10_hangs : xRecv m_X10_hangs 10 2 := xM_recv
set_option maxRecDepth 100000 in
set_option maxHeartbeats 4000000 in
theorem bo_X10_hangs {K : XK} (C : xOK K RX10 cX10_hangs false true 1 23) : CS K 0 bd_X10_hangs 148 0 0 :=
 (cs_seq (p1 := 2) (cs_iasgn (p1 := 1) C (ce_iconst C dX10_hangs_0 (by decide)) dX10_hangs_1 rfl)
 (cs_seq (p1 := 23) (cs_loop (pB := 10) (pE := 23) (pu := 17) (p2 := 20) C (cc_ltN (p1 := 3) (p2 := 7) C (ce_iln C dX10_hangs_2 rfl) (ce_fld C (ce_aln C dX10_hangs_3 rfl) dX10_hangs_4 fX10_66) dX10_hangs_7 (by decide) rfl)
 (cs_iast (p1 := 14) (p2 := 15) (p3 := 16) C (ce_fld C (ce_aln C dX10_hangs_10 rfl) dX10_hangs_11 fX10_46) (ce_iln C dX10_hangs_14 rfl) (ce_iln C dX10_hangs_15 rfl) dX10_hangs_16)
 (cs_inc C dX10_hangs_17 (by decide)) dX10_hangs_20 (by decide))
 (cs_seq (p1 := 25) (cs_iasgn (p1 := 24) C (ce_iconst C dX10_hangs_23 (by decide)) dX10_hangs_24 rfl)
 (cs_seq (p1 := 69) (cs_loop (pB := 33) (pE := 69) (pu := 63) (p2 := 66) C (cc_ltN (p1 := 26) (p2 := 30) C (ce_iln C dX10_hangs_25 rfl) (ce_fld C (ce_aln C dX10_hangs_26 rfl) dX10_hangs_27 fX10_73) dX10_hangs_30 (by decide) rfl)
 (cs_itf (pT := 58) (pF := 63) (cc_or (pM := 41) (cc_ne0J (p1 := 38) C (ce_call (p1 := 35) (ca_cons (p1 := 34) (ce_iln C dX10_hangs_33 rfl) (ca_cons (p1 := 35) (ce_iln C dX10_hangs_34 rfl) ca_nil)) (xCal_S C dX10_hangs_35 wX10_has vX10_198 good_X10_has rc_X10_has (by decide) (by decide)) (by decide)) dX10_hangs_38 (by decide) rfl) (cc_ne0N (p1 := 55) C (ce_iald (p1 := 45) (p2 := 54) C (ce_fld C (ce_aln C dX10_hangs_41 rfl) dX10_hangs_42 fX10_7) (ce_bin (p1 := 52) (p2 := 53) (ce_bin (p1 := 47) (p2 := 51) (ce_bipush C dX10_hangs_45 (by decide)) (ce_bin (p1 := 49) (p2 := 50) (ce_bipush C dX10_hangs_47 (by decide)) (ce_iln C dX10_hangs_49 rfl) (ob_mul C dX10_hangs_50)) (ob_add C dX10_hangs_51)) (ce_iln C dX10_hangs_52 rfl) (ob_add C dX10_hangs_53)) dX10_hangs_54) dX10_hangs_55 (by decide) rfl)) (cs_call (p1 := 60) (ca_cons (p1 := 59) (ce_aln C dX10_hangs_58 rfl) (ca_cons (p1 := 60) (ce_iln C dX10_hangs_59 rfl) ca_nil)) (xCal_V (ci := 10) C dX10_hangs_60 wX10_joins vX10_201 rfl rfl good_X10_joins rc_X10_joins (by decide) (by decide)))
 cs_skip)
 (cs_inc C dX10_hangs_63 (by decide)) dX10_hangs_66 (by decide))
 (cs_seq (p1 := 71) (cs_iasgn (p1 := 70) C (ce_iconst C dX10_hangs_69 (by decide)) dX10_hangs_70 rfl)
 (cs_seq (p1 := 74) (cs_iasg (p1 := 72) C (ce_iconst C dX10_hangs_71 (by decide)) dX10_hangs_72)
 (cs_seq (p1 := 146) (cs_loop (pB := 83) (pE := 146) (pu := 140) (p2 := 143) C (cc_ltN (p1 := 76) (p2 := 80) C (ce_il C dX10_hangs_74) (ce_fld C (ce_aln C dX10_hangs_76 rfl) dX10_hangs_77 fX10_73) dX10_hangs_80 (by decide) rfl)
 (cs_iasgn (p1 := 139) C (ce_tern (pT := 134) (pF := 138) (p1 := 135) C (cc_and (pM := 87) (cc_ne0N (p1 := 84) C (ce_iln C dX10_hangs_83 rfl) dX10_hangs_84 (by decide) rfl) (cc_or (pM := 105) (cc_eq0J (p1 := 102) C (ce_iald (p1 := 91) (p2 := 101) C (ce_fld C (ce_aln C dX10_hangs_87 rfl) dX10_hangs_88 fX10_7) (ce_bin (p1 := 98) (p2 := 100) (ce_bin (p1 := 93) (p2 := 97) (ce_bipush C dX10_hangs_91 (by decide)) (ce_bin (p1 := 95) (p2 := 96) (ce_bipush C dX10_hangs_93 (by decide)) (ce_iln C dX10_hangs_95 rfl) (ob_mul C dX10_hangs_96)) (ob_add C dX10_hangs_97)) (ce_il C dX10_hangs_98) (ob_add C dX10_hangs_100)) dX10_hangs_101) dX10_hangs_102 (by decide) rfl) (cc_eqN (p1 := 117) (p2 := 131) C (ce_iald (p1 := 109) (p2 := 116) C (ce_fld C (ce_aln C dX10_hangs_105 rfl) dX10_hangs_106 fX10_46) (ce_iald (p1 := 113) (p2 := 115) C (ce_fld C (ce_aln C dX10_hangs_109 rfl) dX10_hangs_110 fX10_16) (ce_il C dX10_hangs_113) dX10_hangs_115) dX10_hangs_116) (ce_iald (p1 := 121) (p2 := 130) C (ce_fld C (ce_aln C dX10_hangs_117 rfl) dX10_hangs_118 fX10_46) (ce_iald (p1 := 125) (p2 := 129) C (ce_fld C (ce_aln C dX10_hangs_121 rfl) dX10_hangs_122 fX10_7) (ce_bin (p1 := 127) (p2 := 128) (ce_bipush C dX10_hangs_125 (by decide)) (ce_iln C dX10_hangs_127 rfl) (ob_add C dX10_hangs_128)) dX10_hangs_129) dX10_hangs_130) dX10_hangs_131 (by decide) rfl))) (ce_iconst C dX10_hangs_134 (by decide)) dX10_hangs_135 (by decide) (ce_iconst C dX10_hangs_138 (by decide))) dX10_hangs_139 rfl)
 (cs_inc C dX10_hangs_140 (by decide)) dX10_hangs_143 (by decide))
 (cs_retZ (p1 := 147) C (ce_iln C dX10_hangs_146 rfl) dX10_hangs_147))))))))
theorem good_X10_hangs : xGood yX10_hangs cX10_hangs 5 (some .boolean) 1 23 m_X10_hangs :=
  x_methI (ini := false) (bz := true) (Or.inr (Or.inl ⟨rfl, rfl⟩)) ⟨fun h => (by cases h), fun h => (by cases h)⟩ (fun h => by cases h) (by decide) (fun K C => bo_X10_hangs C)

def lc_X10_owedOut_1 : XB := (b_cmp r_lt (e_il 4) (e_fld 10 4 (e_al 0)))
def la_X10_owedOut_1 : XS := (s_seq (s_iasg 3 (e_bin o_add (e_il 3) (e_tern (b_cmp r_eq (e_ald 0 (e_fld 10 7 (e_al 0)) (e_il 4)) (e_il 2)) (e_ald 0 (e_fld 10 0 (e_al 0)) (e_bin o_add (e_bin o_add (e_lit 22) (e_bin o_mul (e_lit 9) (e_il 1))) (e_il 4))) (e_lit 0))))
 (s_iasg 3 (e_bin o_sub (e_il 3) (e_tern (b_cmp r_eq (e_ald 0 (e_fld 10 6 (e_al 0)) (e_il 4)) (e_il 2)) (e_ald 0 (e_fld 10 0 (e_al 0)) (e_bin o_add (e_bin o_add (e_lit 22) (e_bin o_mul (e_lit 9) (e_il 1))) (e_il 4))) (e_lit 0)))))
def lu_X10_owedOut_1 : XS := (s_inc 4 1)
def bd_X10_owedOut : XS := (s_seq (s_iasg 3 (e_lit 0))
 (s_seq (s_iasg 4 (e_lit 0))
 (s_seq (s_loop 1000 (lc_X10_owedOut_1) (la_X10_owedOut_1) (lu_X10_owedOut_1))
 (s_ret (e_il 3)))))
def m_X10_owedOut : XF := xM 10 2 5 false bd_X10_owedOut
theorem rc_X10_owedOut : xRecv m_X10_owedOut 10 2 := xM_recv
set_option maxRecDepth 100000 in
set_option maxHeartbeats 4000000 in
theorem bo_X10_owedOut {K : XK} (C : xOK K RX10 cX10_owedOut false false 0 0) : CS K 0 bd_X10_owedOut 88 0 0 :=
 (cs_seq (p1 := 2) (cs_iasgn (p1 := 1) C (ce_iconst C dX10_owedOut_0 (by decide)) dX10_owedOut_1 rfl)
 (cs_seq (p1 := 5) (cs_iasg (p1 := 3) C (ce_iconst C dX10_owedOut_2 (by decide)) dX10_owedOut_3)
 (cs_seq (p1 := 86) (cs_loop (pB := 14) (pE := 86) (pu := 80) (p2 := 83) C (cc_ltN (p1 := 7) (p2 := 11) C (ce_il C dX10_owedOut_5) (ce_fld C (ce_aln C dX10_owedOut_7 rfl) dX10_owedOut_8 fX10_73) dX10_owedOut_11 (by decide) rfl)
 (cs_seq (p1 := 47) (cs_iasgn (p1 := 46) C (ce_bin (p1 := 15) (p2 := 45) (ce_iln C dX10_owedOut_14 rfl) (ce_tern (pT := 26) (pF := 44) (p1 := 41) C (cc_eqN (p1 := 22) (p2 := 23) C (ce_iald (p1 := 19) (p2 := 21) C (ce_fld C (ce_aln C dX10_owedOut_15 rfl) dX10_owedOut_16 fX10_19) (ce_il C dX10_owedOut_19) dX10_owedOut_21) (ce_iln C dX10_owedOut_22 rfl) dX10_owedOut_23 (by decide) rfl) (ce_iald (p1 := 30) (p2 := 40) C (ce_fld C (ce_aln C dX10_owedOut_26 rfl) dX10_owedOut_27 fX10_7) (ce_bin (p1 := 37) (p2 := 39) (ce_bin (p1 := 32) (p2 := 36) (ce_bipush C dX10_owedOut_30 (by decide)) (ce_bin (p1 := 34) (p2 := 35) (ce_bipush C dX10_owedOut_32 (by decide)) (ce_iln C dX10_owedOut_34 rfl) (ob_mul C dX10_owedOut_35)) (ob_add C dX10_owedOut_36)) (ce_il C dX10_owedOut_37) (ob_add C dX10_owedOut_39)) dX10_owedOut_40) dX10_owedOut_41 (by decide) (ce_iconst C dX10_owedOut_44 (by decide))) (ob_add C dX10_owedOut_45)) dX10_owedOut_46 rfl)
 (cs_iasgn (p1 := 79) C (ce_bin (p1 := 48) (p2 := 78) (ce_iln C dX10_owedOut_47 rfl) (ce_tern (pT := 59) (pF := 77) (p1 := 74) C (cc_eqN (p1 := 55) (p2 := 56) C (ce_iald (p1 := 52) (p2 := 54) C (ce_fld C (ce_aln C dX10_owedOut_48 rfl) dX10_owedOut_49 fX10_16) (ce_il C dX10_owedOut_52) dX10_owedOut_54) (ce_iln C dX10_owedOut_55 rfl) dX10_owedOut_56 (by decide) rfl) (ce_iald (p1 := 63) (p2 := 73) C (ce_fld C (ce_aln C dX10_owedOut_59 rfl) dX10_owedOut_60 fX10_7) (ce_bin (p1 := 70) (p2 := 72) (ce_bin (p1 := 65) (p2 := 69) (ce_bipush C dX10_owedOut_63 (by decide)) (ce_bin (p1 := 67) (p2 := 68) (ce_bipush C dX10_owedOut_65 (by decide)) (ce_iln C dX10_owedOut_67 rfl) (ob_mul C dX10_owedOut_68)) (ob_add C dX10_owedOut_69)) (ce_il C dX10_owedOut_70) (ob_add C dX10_owedOut_72)) dX10_owedOut_73) dX10_owedOut_74 (by decide) (ce_iconst C dX10_owedOut_77 (by decide))) (ob_sub C dX10_owedOut_78)) dX10_owedOut_79 rfl))
 (cs_inc C dX10_owedOut_80 (by decide)) dX10_owedOut_83 (by decide))
 (cs_ret (p1 := 87) C (ce_iln C dX10_owedOut_86 rfl) dX10_owedOut_87))))
theorem good_X10_owedOut : xGood yX10_owedOut cX10_owedOut 5 (some .int) 0 0 m_X10_owedOut :=
  x_methI (ini := false) (bz := false) (Or.inl ⟨rfl, rfl⟩) ⟨fun h => (by cases h), fun h => (by cases h)⟩ (fun h => by cases h) (by decide) (fun K C => bo_X10_owedOut C)

def lc_X10_isOwed_1 : XB := (b_cmp r_lt (e_il 4) (e_fld 10 3 (e_al 0)))
def la_X10_isOwed_1 : XS := (s_seq (s_iasg 5 (e_call m_X10_owedOut [(e_al 0), (e_il 1), (e_il 4)]))
 (s_seq (s_iasg 2 (e_bin o_add (e_il 2) (e_tern (b_cmp r_eq (e_il 5) (e_lit (-1))) (e_lit 1) (e_lit 0))))
 (s_iasg 3 (e_tern (b_and (b_cmp0 r_ne0 (e_il 3)) (b_or (b_or (b_cmp0 r_eq0 (e_il 5)) (b_cmp r_eq (e_il 5) (e_lit (-1)))) (b_and (b_cmp r_eq (e_il 5) (e_lit 1)) (b_cmp r_eq (e_il 4) (e_ald 0 (e_fld 10 0 (e_al 0)) (e_bin o_add (e_lit 10) (e_il 1))))))) (e_lit 1) (e_lit 0)))))
def lu_X10_isOwed_1 : XS := (s_inc 4 1)
def bd_X10_isOwed : XS := (s_seq (s_iasg 2 (e_lit 0))
 (s_seq (s_iasg 3 (e_lit 1))
 (s_seq (s_iasg 4 (e_lit 0))
 (s_seq (s_loop 1000 (lc_X10_isOwed_1) (la_X10_isOwed_1) (lu_X10_isOwed_1))
 (s_retZ (e_tern (b_and (b_cmp0 r_ne0 (e_il 3)) (b_cmp r_eq (e_il 2) (e_tern (b_cmp r_eq (e_call m_X10_owedOut [(e_al 0), (e_il 1), (e_ald 0 (e_fld 10 0 (e_al 0)) (e_bin o_add (e_lit 10) (e_il 1)))]) (e_lit 1)) (e_lit 1) (e_lit 0)))) (e_lit 1) (e_lit 0)))))))
def m_X10_isOwed : XF := xM 10 1 6 false bd_X10_isOwed
theorem rc_X10_isOwed : xRecv m_X10_isOwed 10 1 := xM_recv
set_option maxRecDepth 100000 in
set_option maxHeartbeats 4000000 in
theorem bo_X10_isOwed {K : XK} (C : xOK K RX10 cX10_isOwed false true 1 24) : CS K 0 bd_X10_isOwed 123 0 0 :=
 (cs_seq (p1 := 2) (cs_iasgn (p1 := 1) C (ce_iconst C dX10_isOwed_0 (by decide)) dX10_isOwed_1 rfl)
 (cs_seq (p1 := 4) (cs_iasgn (p1 := 3) C (ce_iconst C dX10_isOwed_2 (by decide)) dX10_isOwed_3 rfl)
 (cs_seq (p1 := 7) (cs_iasg (p1 := 5) C (ce_iconst C dX10_isOwed_4 (by decide)) dX10_isOwed_5)
 (cs_seq (p1 := 86) (cs_loop (pB := 16) (pE := 86) (pu := 80) (p2 := 83) C (cc_ltN (p1 := 9) (p2 := 13) C (ce_il C dX10_isOwed_7) (ce_fld C (ce_aln C dX10_isOwed_9 rfl) dX10_isOwed_10 fX10_66) dX10_isOwed_13 (by decide) rfl)
 (cs_seq (p1 := 25) (cs_iasg (p1 := 23) C (ce_call (p1 := 20) (ca_cons (p1 := 17) (ce_aln C dX10_isOwed_16 rfl) (ca_cons (p1 := 18) (ce_iln C dX10_isOwed_17 rfl) (ca_cons (p1 := 20) (ce_il C dX10_isOwed_18) ca_nil))) (xCal_V (ci := 10) C dX10_isOwed_20 wX10_owedOut vX10_205 rfl rfl good_X10_owedOut rc_X10_owedOut (by decide) (by decide)) (by decide)) dX10_isOwed_23)
 (cs_seq (p1 := 39) (cs_iasgn (p1 := 38) C (ce_bin (p1 := 26) (p2 := 37) (ce_iln C dX10_isOwed_25 rfl) (ce_tern (pT := 32) (pF := 36) (p1 := 33) C (cc_eqN (p1 := 28) (p2 := 29) C (ce_il C dX10_isOwed_26) (ce_iconst C dX10_isOwed_28 (by decide)) dX10_isOwed_29 (by decide) rfl) (ce_iconst C dX10_isOwed_32 (by decide)) dX10_isOwed_33 (by decide) (ce_iconst C dX10_isOwed_36 (by decide))) (ob_add C dX10_isOwed_37)) dX10_isOwed_38 rfl)
 (cs_iasgn (p1 := 79) C (ce_tern (pT := 74) (pF := 78) (p1 := 75) C (cc_and (pM := 43) (cc_ne0N (p1 := 40) C (ce_iln C dX10_isOwed_39 rfl) dX10_isOwed_40 (by decide) rfl) (cc_or (pM := 54) (cc_or (pM := 48) (cc_eq0J (p1 := 45) C (ce_il C dX10_isOwed_43) dX10_isOwed_45 (by decide) rfl) (cc_eqJ (p1 := 50) (p2 := 51) C (ce_il C dX10_isOwed_48) (ce_iconst C dX10_isOwed_50 (by decide)) dX10_isOwed_51 (by decide) rfl)) (cc_and (pM := 60) (cc_eqN (p1 := 56) (p2 := 57) C (ce_il C dX10_isOwed_54) (ce_iconst C dX10_isOwed_56 (by decide)) dX10_isOwed_57 (by decide) rfl) (cc_eqN (p1 := 62) (p2 := 71) C (ce_il C dX10_isOwed_60) (ce_iald (p1 := 66) (p2 := 70) C (ce_fld C (ce_aln C dX10_isOwed_62 rfl) dX10_isOwed_63 fX10_7) (ce_bin (p1 := 68) (p2 := 69) (ce_bipush C dX10_isOwed_66 (by decide)) (ce_iln C dX10_isOwed_68 rfl) (ob_add C dX10_isOwed_69)) dX10_isOwed_70) dX10_isOwed_71 (by decide) rfl)))) (ce_iconst C dX10_isOwed_74 (by decide)) dX10_isOwed_75 (by decide) (ce_iconst C dX10_isOwed_78 (by decide))) dX10_isOwed_79 rfl)))
 (cs_inc C dX10_isOwed_80 (by decide)) dX10_isOwed_83 (by decide))
 (cs_retZ (p1 := 122) C (ce_tern (pT := 117) (pF := 121) (p1 := 118) C (cc_and (pM := 90) (cc_ne0N (p1 := 87) C (ce_iln C dX10_isOwed_86 rfl) dX10_isOwed_87 (by decide) rfl) (cc_eqN (p1 := 91) (p2 := 114) C (ce_iln C dX10_isOwed_90 rfl) (ce_tern (pT := 109) (pF := 113) (p1 := 110) C (cc_eqN (p1 := 105) (p2 := 106) C (ce_call (p1 := 102) (ca_cons (p1 := 92) (ce_aln C dX10_isOwed_91 rfl) (ca_cons (p1 := 93) (ce_iln C dX10_isOwed_92 rfl) (ca_cons (p1 := 102) (ce_iald (p1 := 97) (p2 := 101) C (ce_fld C (ce_aln C dX10_isOwed_93 rfl) dX10_isOwed_94 fX10_7) (ce_bin (p1 := 99) (p2 := 100) (ce_bipush C dX10_isOwed_97 (by decide)) (ce_iln C dX10_isOwed_99 rfl) (ob_add C dX10_isOwed_100)) dX10_isOwed_101) ca_nil))) (xCal_V (ci := 10) C dX10_isOwed_102 wX10_owedOut vX10_205 rfl rfl good_X10_owedOut rc_X10_owedOut (by decide) (by decide)) (by decide)) (ce_iconst C dX10_isOwed_105 (by decide)) dX10_isOwed_106 (by decide) rfl) (ce_iconst C dX10_isOwed_109 (by decide)) dX10_isOwed_110 (by decide) (ce_iconst C dX10_isOwed_113 (by decide))) dX10_isOwed_114 (by decide) rfl)) (ce_iconst C dX10_isOwed_117 (by decide)) dX10_isOwed_118 (by decide) (ce_iconst C dX10_isOwed_121 (by decide))) dX10_isOwed_122)))))
theorem good_X10_isOwed : xGood yX10_isOwed cX10_isOwed 6 (some .boolean) 1 24 m_X10_isOwed :=
  x_methI (ini := false) (bz := true) (Or.inr (Or.inl ⟨rfl, rfl⟩)) ⟨fun h => (by cases h), fun h => (by cases h)⟩ (fun h => by cases h) (by decide) (fun K C => bo_X10_isOwed C)

def lc_X10_even_1 : XB := (b_cmp r_lt (e_il 3) (e_fld 10 4 (e_al 0)))
def la_X10_even_1 : XS := (s_seq (s_iasg 4 (e_ald 0 (e_fld 10 0 (e_al 0)) (e_bin o_add (e_bin o_add (e_lit 22) (e_bin o_mul (e_lit 9) (e_il 1))) (e_il 3))))
 (s_iasg 2 (e_bin o_add (e_il 2) (e_tern (b_cmp0 r_lt0 (e_il 4)) (e_un o_neg (e_il 4)) (e_il 4)))))
def lu_X10_even_1 : XS := (s_inc 3 1)
def lc_X10_even_2 : XB := (b_cmp r_lt (e_il 4) (e_bin o_shl (e_lit 1) (e_fld 10 4 (e_al 0))))
def la_X10_even_2 : XS := (s_iasg 3 (e_tern (b_and (b_cmp r_lt (e_call m_X10_ones [(e_il 4)]) (e_il 3)) (b_cmp0 r_ne0 (e_call m_X10_hangs [(e_al 0), (e_il 1), (e_il 4)]))) (e_call m_X10_ones [(e_il 4)]) (e_il 3)))
def lu_X10_even_2 : XS := (s_inc 4 1)
def bd_X10_even : XS := (s_seq (s_ite (b_not (b_cmp0 r_ne0 (e_call m_X10_isWalker [(e_al 0), (e_il 1)]))) (s_ret (e_lit (-1)))
 s_skip)
 (s_seq (s_ite (b_not (b_cmp0 r_ne0 (e_call m_X10_isOwed [(e_al 0), (e_il 1)]))) (s_ret (e_lit (-4)))
 s_skip)
 (s_seq (s_iasg 2 (e_lit 0))
 (s_seq (s_iasg 3 (e_lit 0))
 (s_seq (s_loop 1000 (lc_X10_even_1) (la_X10_even_1) (lu_X10_even_1))
 (s_seq (s_iasg 3 (e_lit 1000000))
 (s_seq (s_iasg 4 (e_lit 0))
 (s_seq (s_loop 1000 (lc_X10_even_2) (la_X10_even_2) (lu_X10_even_2))
 (s_ret (e_tern (b_cmp r_eq (e_il 3) (e_lit 1000000)) (e_lit (-4)) (e_bin o_add (e_il 2) (e_bin o_mul (e_lit 2) (e_il 3)))))))))))))
def m_X10_even : XF := xM 10 1 5 false bd_X10_even
theorem rc_X10_even : xRecv m_X10_even 10 1 := xM_recv
set_option maxRecDepth 100000 in
set_option maxHeartbeats 4000000 in
theorem bo_X10_even {K : XK} (C : xOK K RX10 cX10_even false false 2 49) : CS K 0 bd_X10_even 140 0 0 :=
 (cs_seq (p1 := 10) (cs_itf (pT := 8) (pF := 10) (cc_not (cc_ne0J (p1 := 5) C (ce_call (p1 := 2) (ca_cons (p1 := 1) (ce_aln C dX10_even_0 rfl) (ca_cons (p1 := 2) (ce_iln C dX10_even_1 rfl) ca_nil)) (xCal_V (ci := 10) C dX10_even_2 wX10_isWalker vX10_167 rfl rfl good_X10_isWalker rc_X10_isWalker (by decide) (by decide)) (by decide)) dX10_even_5 (by decide) rfl)) (cs_ret (p1 := 9) C (ce_iconst C dX10_even_8 (by decide)) dX10_even_9)
 cs_skip)
 (cs_seq (p1 := 21) (cs_itf (pT := 18) (pF := 21) (cc_not (cc_ne0J (p1 := 15) C (ce_call (p1 := 12) (ca_cons (p1 := 11) (ce_aln C dX10_even_10 rfl) (ca_cons (p1 := 12) (ce_iln C dX10_even_11 rfl) ca_nil)) (xCal_V (ci := 10) C dX10_even_12 wX10_isOwed vX10_208 rfl rfl good_X10_isOwed rc_X10_isOwed (by decide) (by decide)) (by decide)) dX10_even_15 (by decide) rfl)) (cs_ret (p1 := 20) C (ce_bipush C dX10_even_18 (by decide)) dX10_even_20)
 cs_skip)
 (cs_seq (p1 := 23) (cs_iasgn (p1 := 22) C (ce_iconst C dX10_even_21 (by decide)) dX10_even_22 rfl)
 (cs_seq (p1 := 25) (cs_iasgn (p1 := 24) C (ce_iconst C dX10_even_23 (by decide)) dX10_even_24 rfl)
 (cs_seq (p1 := 71) (cs_loop (pB := 33) (pE := 71) (pu := 65) (p2 := 68) C (cc_ltN (p1 := 26) (p2 := 30) C (ce_iln C dX10_even_25 rfl) (ce_fld C (ce_aln C dX10_even_26 rfl) dX10_even_27 fX10_73) dX10_even_30 (by decide) rfl)
 (cs_seq (p1 := 49) (cs_iasg (p1 := 47) C (ce_iald (p1 := 37) (p2 := 46) C (ce_fld C (ce_aln C dX10_even_33 rfl) dX10_even_34 fX10_7) (ce_bin (p1 := 44) (p2 := 45) (ce_bin (p1 := 39) (p2 := 43) (ce_bipush C dX10_even_37 (by decide)) (ce_bin (p1 := 41) (p2 := 42) (ce_bipush C dX10_even_39 (by decide)) (ce_iln C dX10_even_41 rfl) (ob_mul C dX10_even_42)) (ob_add C dX10_even_43)) (ce_iln C dX10_even_44 rfl) (ob_add C dX10_even_45)) dX10_even_46) dX10_even_47)
 (cs_iasgn (p1 := 64) C (ce_bin (p1 := 50) (p2 := 63) (ce_iln C dX10_even_49 rfl) (ce_tern (pT := 55) (pF := 61) (p1 := 58) C (cc_lt0N (p1 := 52) C (ce_il C dX10_even_50) dX10_even_52 (by decide) rfl) (ce_un (ce_il C dX10_even_55) (ob_neg C dX10_even_57)) dX10_even_58 (by decide) (ce_il C dX10_even_61)) (ob_add C dX10_even_63)) dX10_even_64 rfl))
 (cs_inc C dX10_even_65 (by decide)) dX10_even_68 (by decide))
 (cs_seq (p1 := 74) (cs_iasgn (p1 := 73) C (ce_ldc C dX10_even_71 kX10_211) dX10_even_73 rfl)
 (cs_seq (p1 := 77) (cs_iasg (p1 := 75) C (ce_iconst C dX10_even_74 (by decide)) dX10_even_75)
 (cs_seq (p1 := 123) (cs_loop (pB := 88) (pE := 123) (pu := 117) (p2 := 120) C (cc_ltN (p1 := 79) (p2 := 85) C (ce_il C dX10_even_77) (ce_bin (p1 := 80) (p2 := 84) (ce_iconst C dX10_even_79 (by decide)) (ce_fld C (ce_aln C dX10_even_80 rfl) dX10_even_81 fX10_73) (ob_shl C dX10_even_84)) dX10_even_85 (by decide) rfl)
 (cs_iasgn (p1 := 116) C (ce_tern (pT := 107) (pF := 115) (p1 := 112) C (cc_and (pM := 97) (cc_ltN (p1 := 93) (p2 := 94) C (ce_call (p1 := 90) (ca_cons (p1 := 90) (ce_il C dX10_even_88) ca_nil) (xCal_S C dX10_even_90 wX10_ones vX10_212 good_X10_ones rc_X10_ones (by decide) (by decide)) (by decide)) (ce_iln C dX10_even_93 rfl) dX10_even_94 (by decide) rfl) (cc_ne0N (p1 := 104) C (ce_call (p1 := 101) (ca_cons (p1 := 98) (ce_aln C dX10_even_97 rfl) (ca_cons (p1 := 99) (ce_iln C dX10_even_98 rfl) (ca_cons (p1 := 101) (ce_il C dX10_even_99) ca_nil))) (xCal_V (ci := 10) C dX10_even_101 wX10_hangs vX10_215 rfl rfl good_X10_hangs rc_X10_hangs (by decide) (by decide)) (by decide)) dX10_even_104 (by decide) rfl)) (ce_call (p1 := 109) (ca_cons (p1 := 109) (ce_il C dX10_even_107) ca_nil) (xCal_S C dX10_even_109 wX10_ones vX10_212 good_X10_ones rc_X10_ones (by decide) (by decide)) (by decide)) dX10_even_112 (by decide) (ce_iln C dX10_even_115 rfl)) dX10_even_116 rfl)
 (cs_inc C dX10_even_117 (by decide)) dX10_even_120 (by decide))
 (cs_ret (p1 := 139) C (ce_tern (pT := 129) (pF := 134) (p1 := 131) C (cc_eqN (p1 := 124) (p2 := 126) C (ce_iln C dX10_even_123 rfl) (ce_ldc C dX10_even_124 kX10_211) dX10_even_126 (by decide) rfl) (ce_bipush C dX10_even_129 (by decide)) dX10_even_131 (by decide) (ce_bin (p1 := 135) (p2 := 138) (ce_iln C dX10_even_134 rfl) (ce_bin (p1 := 136) (p2 := 137) (ce_iconst C dX10_even_135 (by decide)) (ce_iln C dX10_even_136 rfl) (ob_mul C dX10_even_137)) (ob_add C dX10_even_138))) dX10_even_139)))))))))
theorem good_X10_even : xGood yX10_even cX10_even 5 (some .int) 2 49 m_X10_even :=
  x_methI (ini := false) (bz := false) (Or.inl ⟨rfl, rfl⟩) ⟨fun h => (by cases h), fun h => (by cases h)⟩ (fun h => by cases h) (by decide) (fun K C => bo_X10_even C)

def lc_X10_meets_1 : XB := (b_cmp r_lt (e_il 4) (e_fld 10 4 (e_al 0)))
def la_X10_meets_1 : XS := (s_iasg 3 (e_tern (b_or (b_cmp0 r_ne0 (e_il 3)) (b_and (b_cmp0 r_ne0 (e_call m_X10_has [(e_il 2), (e_il 4)])) (b_cmp0 r_ne0 (e_ald 0 (e_fld 10 0 (e_al 0)) (e_bin o_add (e_bin o_add (e_lit 22) (e_bin o_mul (e_lit 9) (e_il 1))) (e_il 4)))))) (e_lit 1) (e_lit 0)))
def lu_X10_meets_1 : XS := (s_inc 4 1)
def bd_X10_meets : XS := (s_seq (s_iasg 3 (e_call m_X10_isLevel [(e_al 0), (e_il 1)]))
 (s_seq (s_iasg 4 (e_lit 0))
 (s_seq (s_loop 1000 (lc_X10_meets_1) (la_X10_meets_1) (lu_X10_meets_1))
 (s_retZ (e_il 3)))))
def m_X10_meets : XF := xM 10 2 5 false bd_X10_meets
theorem rc_X10_meets : xRecv m_X10_meets 10 2 := xM_recv
set_option maxRecDepth 100000 in
set_option maxHeartbeats 4000000 in
theorem bo_X10_meets {K : XK} (C : xOK K RX10 cX10_meets false true 1 23) : CS K 0 bd_X10_meets 63 0 0 :=
 (cs_seq (p1 := 6) (cs_iasgn (p1 := 5) C (ce_call (p1 := 2) (ca_cons (p1 := 1) (ce_aln C dX10_meets_0 rfl) (ca_cons (p1 := 2) (ce_iln C dX10_meets_1 rfl) ca_nil)) (xCal_V (ci := 10) C dX10_meets_2 wX10_isLevel vX10_170 rfl rfl good_X10_isLevel rc_X10_isLevel (by decide) (by decide)) (by decide)) dX10_meets_5 rfl)
 (cs_seq (p1 := 9) (cs_iasg (p1 := 7) C (ce_iconst C dX10_meets_6 (by decide)) dX10_meets_7)
 (cs_seq (p1 := 61) (cs_loop (pB := 18) (pE := 61) (pu := 55) (p2 := 58) C (cc_ltN (p1 := 11) (p2 := 15) C (ce_il C dX10_meets_9) (ce_fld C (ce_aln C dX10_meets_11 rfl) dX10_meets_12 fX10_73) dX10_meets_15 (by decide) rfl)
 (cs_iasgn (p1 := 54) C (ce_tern (pT := 49) (pF := 53) (p1 := 50) C (cc_or (pM := 22) (cc_ne0J (p1 := 19) C (ce_iln C dX10_meets_18 rfl) dX10_meets_19 (by decide) rfl) (cc_and (pM := 31) (cc_ne0N (p1 := 28) C (ce_call (p1 := 25) (ca_cons (p1 := 23) (ce_iln C dX10_meets_22 rfl) (ca_cons (p1 := 25) (ce_il C dX10_meets_23) ca_nil)) (xCal_S C dX10_meets_25 wX10_has vX10_198 good_X10_has rc_X10_has (by decide) (by decide)) (by decide)) dX10_meets_28 (by decide) rfl) (cc_ne0N (p1 := 46) C (ce_iald (p1 := 35) (p2 := 45) C (ce_fld C (ce_aln C dX10_meets_31 rfl) dX10_meets_32 fX10_7) (ce_bin (p1 := 42) (p2 := 44) (ce_bin (p1 := 37) (p2 := 41) (ce_bipush C dX10_meets_35 (by decide)) (ce_bin (p1 := 39) (p2 := 40) (ce_bipush C dX10_meets_37 (by decide)) (ce_iln C dX10_meets_39 rfl) (ob_mul C dX10_meets_40)) (ob_add C dX10_meets_41)) (ce_il C dX10_meets_42) (ob_add C dX10_meets_44)) dX10_meets_45) dX10_meets_46 (by decide) rfl))) (ce_iconst C dX10_meets_49 (by decide)) dX10_meets_50 (by decide) (ce_iconst C dX10_meets_53 (by decide))) dX10_meets_54 rfl)
 (cs_inc C dX10_meets_55 (by decide)) dX10_meets_58 (by decide))
 (cs_retZ (p1 := 62) C (ce_iln C dX10_meets_61 rfl) dX10_meets_62))))
theorem good_X10_meets : xGood yX10_meets cX10_meets 5 (some .boolean) 1 23 m_X10_meets :=
  x_methI (ini := false) (bz := true) (Or.inr (Or.inl ⟨rfl, rfl⟩)) ⟨fun h => (by cases h), fun h => (by cases h)⟩ (fun h => by cases h) (by decide) (fun K C => bo_X10_meets C)

def lc_X10_measure_1 : XB := (b_cmp r_lt (e_il 5) (e_fld 10 8 (e_al 0)))
def la_X10_measure_1 : XS := (s_iasg 4 (e_tern (b_and (b_cmp0 r_ne0 (e_il 4)) (b_cmp0 r_ne0 (e_call m_X10_meets [(e_al 0), (e_il 5), (e_il 3)]))) (e_lit 1) (e_lit 0)))
def lu_X10_measure_1 : XS := (s_inc 5 1)
def lc_X10_measure_2 : XB := (b_cmp r_lt (e_il 3) (e_bin o_shl (e_lit 1) (e_fld 10 4 (e_al 0))))
def la_X10_measure_2 : XS := (s_seq (s_iasg 4 (e_tern (b_or (b_cmp r_eq (e_il 2) (e_lit (-4))) (b_cmp r_lt (e_call m_X10_ones [(e_il 3)]) (e_call m_X10_ones [(e_il 2)]))) (e_lit 1) (e_lit 0)))
 (s_seq (s_iasg 5 (e_lit 0))
 (s_seq (s_loop 1000 (lc_X10_measure_1) (la_X10_measure_1) (lu_X10_measure_1))
 (s_iasg 2 (e_tern (b_cmp0 r_ne0 (e_il 4)) (e_il 3) (e_il 2))))))
def lu_X10_measure_2 : XS := (s_inc 3 1)
def bd_X10_measure : XS := (s_seq (s_ite (b_not (b_cmp0 r_ne0 (e_call m_X10_in [(e_un o_i2l (e_il 1)), (e_long 0), (e_long 1)]))) (s_ret (e_lit (-1)))
 s_skip)
 (s_seq (s_iasg 2 (e_lit (-4)))
 (s_seq (s_iasg 3 (e_lit 0))
 (s_seq (s_loop 1000 (lc_X10_measure_2) (la_X10_measure_2) (lu_X10_measure_2))
 (s_ret (e_tern (b_cmp0 r_eq0 (e_il 1)) (e_il 2) (e_call m_X10_ones [(e_il 2)])))))))
def m_X10_measure : XF := xM 10 1 6 false bd_X10_measure
theorem rc_X10_measure : xRecv m_X10_measure 10 1 := xM_recv
set_option maxRecDepth 100000 in
set_option maxHeartbeats 4000000 in
theorem bo_X10_measure {K : XK} (C : xOK K RX10 cX10_measure false false 2 47) : CS K 0 bd_X10_measure 121 0 0 :=
 (cs_seq (p1 := 12) (cs_itf (pT := 10) (pF := 12) (cc_not (cc_ne0J (p1 := 7) C (ce_call (p1 := 4) (ca_cons (p1 := 2) (ce_un (ce_iln C dX10_measure_0 rfl) (ob_i2l C dX10_measure_1)) (ca_cons (p1 := 3) (ce_lconst C dX10_measure_2 rfl) (ca_cons (p1 := 4) (ce_lconst C dX10_measure_3 rfl) ca_nil))) (xCal_S C dX10_measure_4 wX10_in vX10_69 good_X10_in rc_X10_in (by decide) (by decide)) (by decide)) dX10_measure_7 (by decide) rfl)) (cs_ret (p1 := 11) C (ce_iconst C dX10_measure_10 (by decide)) dX10_measure_11)
 cs_skip)
 (cs_seq (p1 := 15) (cs_iasgn (p1 := 14) C (ce_bipush C dX10_measure_12 (by decide)) dX10_measure_14 rfl)
 (cs_seq (p1 := 17) (cs_iasgn (p1 := 16) C (ce_iconst C dX10_measure_15 (by decide)) dX10_measure_16 rfl)
 (cs_seq (p1 := 108) (cs_loop (pB := 27) (pE := 108) (pu := 102) (p2 := 105) C (cc_ltN (p1 := 18) (p2 := 24) C (ce_iln C dX10_measure_17 rfl) (ce_bin (p1 := 19) (p2 := 23) (ce_iconst C dX10_measure_18 (by decide)) (ce_fld C (ce_aln C dX10_measure_19 rfl) dX10_measure_20 fX10_73) (ob_shl C dX10_measure_23)) dX10_measure_24 (by decide) rfl)
 (cs_seq (p1 := 51) (cs_iasg (p1 := 49) C (ce_tern (pT := 44) (pF := 48) (p1 := 45) C (cc_or (pM := 33) (cc_eqJ (p1 := 28) (p2 := 30) C (ce_iln C dX10_measure_27 rfl) (ce_bipush C dX10_measure_28 (by decide)) dX10_measure_30 (by decide) rfl) (cc_ltN (p1 := 37) (p2 := 41) C (ce_call (p1 := 34) (ca_cons (p1 := 34) (ce_iln C dX10_measure_33 rfl) ca_nil) (xCal_S C dX10_measure_34 wX10_ones vX10_212 good_X10_ones rc_X10_ones (by decide) (by decide)) (by decide)) (ce_call (p1 := 38) (ca_cons (p1 := 38) (ce_iln C dX10_measure_37 rfl) ca_nil) (xCal_S C dX10_measure_38 wX10_ones vX10_212 good_X10_ones rc_X10_ones (by decide) (by decide)) (by decide)) dX10_measure_41 (by decide) rfl)) (ce_iconst C dX10_measure_44 (by decide)) dX10_measure_45 (by decide) (ce_iconst C dX10_measure_48 (by decide))) dX10_measure_49)
 (cs_seq (p1 := 54) (cs_iasg (p1 := 52) C (ce_iconst C dX10_measure_51 (by decide)) dX10_measure_52)
 (cs_seq (p1 := 91) (cs_loop (pB := 63) (pE := 91) (pu := 85) (p2 := 88) C (cc_ltN (p1 := 56) (p2 := 60) C (ce_il C dX10_measure_54) (ce_fld C (ce_aln C dX10_measure_56 rfl) dX10_measure_57 fX10_76) dX10_measure_60 (by decide) rfl)
 (cs_iasg (p1 := 83) C (ce_tern (pT := 78) (pF := 82) (p1 := 79) C (cc_and (pM := 68) (cc_ne0N (p1 := 65) C (ce_il C dX10_measure_63) dX10_measure_65 (by decide) rfl) (cc_ne0N (p1 := 75) C (ce_call (p1 := 72) (ca_cons (p1 := 69) (ce_aln C dX10_measure_68 rfl) (ca_cons (p1 := 71) (ce_il C dX10_measure_69) (ca_cons (p1 := 72) (ce_iln C dX10_measure_71 rfl) ca_nil))) (xCal_V (ci := 10) C dX10_measure_72 wX10_meets vX10_218 rfl rfl good_X10_meets rc_X10_meets (by decide) (by decide)) (by decide)) dX10_measure_75 (by decide) rfl)) (ce_iconst C dX10_measure_78 (by decide)) dX10_measure_79 (by decide) (ce_iconst C dX10_measure_82 (by decide))) dX10_measure_83)
 (cs_inc C dX10_measure_85 (by decide)) dX10_measure_88 (by decide))
 (cs_iasgn (p1 := 101) C (ce_tern (pT := 96) (pF := 100) (p1 := 97) C (cc_ne0N (p1 := 93) C (ce_il C dX10_measure_91) dX10_measure_93 (by decide) rfl) (ce_iln C dX10_measure_96 rfl) dX10_measure_97 (by decide) (ce_iln C dX10_measure_100 rfl)) dX10_measure_101 rfl))))
 (cs_inc C dX10_measure_102 (by decide)) dX10_measure_105 (by decide))
 (cs_ret (p1 := 120) C (ce_tern (pT := 112) (pF := 116) (p1 := 113) C (cc_eq0N (p1 := 109) C (ce_iln C dX10_measure_108 rfl) dX10_measure_109 (by decide) rfl) (ce_iln C dX10_measure_112 rfl) dX10_measure_113 (by decide) (ce_call (p1 := 117) (ca_cons (p1 := 117) (ce_iln C dX10_measure_116 rfl) ca_nil) (xCal_S C dX10_measure_117 wX10_ones vX10_212 good_X10_ones rc_X10_ones (by decide) (by decide)) (by decide))) dX10_measure_120)))))
theorem good_X10_measure : xGood yX10_measure cX10_measure 6 (some .int) 2 47 m_X10_measure :=
  x_methI (ini := false) (bz := false) (Or.inl ⟨rfl, rfl⟩) ⟨fun h => (by cases h), fun h => (by cases h)⟩ (fun h => by cases h) (by decide) (fun K C => bo_X10_measure C)

def lc_X10_areJoined_1 : XB := (b_cmp r_lt (e_il 4) (e_fld 10 4 (e_al 0)))
def la_X10_areJoined_1 : XS := (s_iasg 3 (e_tern (b_or (b_or (b_cmp0 r_ne0 (e_il 3)) (b_and (b_cmp r_eq (e_ald 0 (e_fld 10 6 (e_al 0)) (e_il 4)) (e_il 1)) (b_cmp r_eq (e_ald 0 (e_fld 10 7 (e_al 0)) (e_il 4)) (e_il 2)))) (b_and (b_cmp r_eq (e_ald 0 (e_fld 10 6 (e_al 0)) (e_il 4)) (e_il 2)) (b_cmp r_eq (e_ald 0 (e_fld 10 7 (e_al 0)) (e_il 4)) (e_il 1)))) (e_lit 1) (e_lit 0)))
def lu_X10_areJoined_1 : XS := (s_inc 4 1)
def bd_X10_areJoined : XS := (s_seq (s_iasg 3 (e_lit 0))
 (s_seq (s_iasg 4 (e_lit 0))
 (s_seq (s_loop 1000 (lc_X10_areJoined_1) (la_X10_areJoined_1) (lu_X10_areJoined_1))
 (s_retZ (e_il 3)))))
def m_X10_areJoined : XF := xM 10 2 5 false bd_X10_areJoined
theorem rc_X10_areJoined : xRecv m_X10_areJoined 10 2 := xM_recv
set_option maxRecDepth 100000 in
set_option maxHeartbeats 4000000 in
theorem bo_X10_areJoined {K : XK} (C : xOK K RX10 cX10_areJoined false true 0 0) : CS K 0 bd_X10_areJoined 76 0 0 :=
 (cs_seq (p1 := 2) (cs_iasgn (p1 := 1) C (ce_iconst C dX10_areJoined_0 (by decide)) dX10_areJoined_1 rfl)
 (cs_seq (p1 := 5) (cs_iasg (p1 := 3) C (ce_iconst C dX10_areJoined_2 (by decide)) dX10_areJoined_3)
 (cs_seq (p1 := 74) (cs_loop (pB := 14) (pE := 74) (pu := 68) (p2 := 71) C (cc_ltN (p1 := 7) (p2 := 11) C (ce_il C dX10_areJoined_5) (ce_fld C (ce_aln C dX10_areJoined_7 rfl) dX10_areJoined_8 fX10_73) dX10_areJoined_11 (by decide) rfl)
 (cs_iasgn (p1 := 67) C (ce_tern (pT := 62) (pF := 66) (p1 := 63) C (cc_or (pM := 40) (cc_or (pM := 18) (cc_ne0J (p1 := 15) C (ce_iln C dX10_areJoined_14 rfl) dX10_areJoined_15 (by decide) rfl) (cc_and (pM := 29) (cc_eqN (p1 := 25) (p2 := 26) C (ce_iald (p1 := 22) (p2 := 24) C (ce_fld C (ce_aln C dX10_areJoined_18 rfl) dX10_areJoined_19 fX10_16) (ce_il C dX10_areJoined_22) dX10_areJoined_24) (ce_iln C dX10_areJoined_25 rfl) dX10_areJoined_26 (by decide) rfl) (cc_eqJ (p1 := 36) (p2 := 37) C (ce_iald (p1 := 33) (p2 := 35) C (ce_fld C (ce_aln C dX10_areJoined_29 rfl) dX10_areJoined_30 fX10_19) (ce_il C dX10_areJoined_33) dX10_areJoined_35) (ce_iln C dX10_areJoined_36 rfl) dX10_areJoined_37 (by decide) rfl))) (cc_and (pM := 51) (cc_eqN (p1 := 47) (p2 := 48) C (ce_iald (p1 := 44) (p2 := 46) C (ce_fld C (ce_aln C dX10_areJoined_40 rfl) dX10_areJoined_41 fX10_16) (ce_il C dX10_areJoined_44) dX10_areJoined_46) (ce_iln C dX10_areJoined_47 rfl) dX10_areJoined_48 (by decide) rfl) (cc_eqN (p1 := 58) (p2 := 59) C (ce_iald (p1 := 55) (p2 := 57) C (ce_fld C (ce_aln C dX10_areJoined_51 rfl) dX10_areJoined_52 fX10_19) (ce_il C dX10_areJoined_55) dX10_areJoined_57) (ce_iln C dX10_areJoined_58 rfl) dX10_areJoined_59 (by decide) rfl))) (ce_iconst C dX10_areJoined_62 (by decide)) dX10_areJoined_63 (by decide) (ce_iconst C dX10_areJoined_66 (by decide))) dX10_areJoined_67 rfl)
 (cs_inc C dX10_areJoined_68 (by decide)) dX10_areJoined_71 (by decide))
 (cs_retZ (p1 := 75) C (ce_iln C dX10_areJoined_74 rfl) dX10_areJoined_75))))
theorem good_X10_areJoined : xGood yX10_areJoined cX10_areJoined 5 (some .boolean) 0 0 m_X10_areJoined :=
  x_methI (ini := false) (bz := true) (Or.inr (Or.inl ⟨rfl, rfl⟩)) ⟨fun h => (by cases h), fun h => (by cases h)⟩ (fun h => by cases h) (by decide) (fun K C => bo_X10_areJoined C)

def lc_X10_fresh_1 : XB := (b_cmp r_lt (e_il 6) (e_fld 10 3 (e_al 0)))
def la_X10_fresh_1 : XS := (s_ite (b_not (b_cmp0 r_ne0 (e_call m_X10_areJoined [(e_al 0), (e_il 5), (e_il 6)]))) (s_seq (s_call m_X10_layApart [(e_al 0)])
 (s_seq (s_ast 0 (e_fld 10 26 (e_al 0)) (e_bin o_add (e_bin o_mul (e_lit 8) (e_il 5)) (e_il 6)) (e_lit 1))
 (s_seq (s_ast 0 (e_fld 10 26 (e_al 0)) (e_bin o_add (e_bin o_mul (e_lit 8) (e_il 6)) (e_il 5)) (e_lit 1))
 (s_seq (s_call m_X10_closeApart [(e_al 0)])
 (s_seq (s_iasg 7 (e_call m_X10_allApart [(e_al 0)]))
 (s_seq (s_iasg 3 (e_tern (b_cmp r_lt (e_il 7) (e_il 4)) (e_bin o_add (e_bin o_mul (e_lit 10) (e_il 5)) (e_il 6)) (e_il 3)))
 (s_iasg 4 (e_tern (b_cmp r_lt (e_il 7) (e_il 4)) (e_il 7) (e_il 4)))))))))
 s_skip)
def lu_X10_fresh_1 : XS := (s_inc 6 1)
def lc_X10_fresh_2 : XB := (b_cmp r_lt (e_il 5) (e_fld 10 3 (e_al 0)))
def la_X10_fresh_2 : XS := (s_seq (s_iasg 6 (e_bin o_add (e_il 5) (e_lit 1)))
 (s_loop 1000 (lc_X10_fresh_1) (la_X10_fresh_1) (lu_X10_fresh_1)))
def lu_X10_fresh_2 : XS := (s_inc 5 1)
def bd_X10_fresh : XS := (s_seq (s_ite (b_not (b_cmp0 r_ne0 (e_call m_X10_in [(e_un o_i2l (e_il 1)), (e_long 0), (e_long 1)]))) (s_ret (e_lit (-1)))
 s_skip)
 (s_seq (s_call m_X10_layApart [(e_al 0)])
 (s_seq (s_call m_X10_closeApart [(e_al 0)])
 (s_seq (s_iasg 2 (e_call m_X10_allApart [(e_al 0)]))
 (s_seq (s_iasg 3 (e_lit (-4)))
 (s_seq (s_iasg 4 (e_lit 1000000))
 (s_seq (s_iasg 5 (e_lit 0))
 (s_seq (s_loop 1000 (lc_X10_fresh_2) (la_X10_fresh_2) (lu_X10_fresh_2))
 (s_ret (e_tern (b_or (b_cmp r_eq (e_il 3) (e_lit (-4))) (b_cmp0 r_eq0 (e_il 1))) (e_il 3) (e_bin o_sub (e_il 2) (e_il 4))))))))))))
def m_X10_fresh : XF := xM 10 1 8 false bd_X10_fresh
theorem rc_X10_fresh : xRecv m_X10_fresh 10 1 := xM_recv
set_option maxRecDepth 100000 in
set_option maxHeartbeats 4000000 in
theorem bo_X10_fresh {K : XK} (C : xOK K RX10 cX10_fresh false false 2 44) : CS K 0 bd_X10_fresh 179 0 0 :=
 (cs_seq (p1 := 12) (cs_itf (pT := 10) (pF := 12) (cc_not (cc_ne0J (p1 := 7) C (ce_call (p1 := 4) (ca_cons (p1 := 2) (ce_un (ce_iln C dX10_fresh_0 rfl) (ob_i2l C dX10_fresh_1)) (ca_cons (p1 := 3) (ce_lconst C dX10_fresh_2 rfl) (ca_cons (p1 := 4) (ce_lconst C dX10_fresh_3 rfl) ca_nil))) (xCal_S C dX10_fresh_4 wX10_in vX10_69 good_X10_in rc_X10_in (by decide) (by decide)) (by decide)) dX10_fresh_7 (by decide) rfl)) (cs_ret (p1 := 11) C (ce_iconst C dX10_fresh_10 (by decide)) dX10_fresh_11)
 cs_skip)
 (cs_seq (p1 := 16) (cs_call (p1 := 13) (ca_cons (p1 := 13) (ce_aln C dX10_fresh_12 rfl) ca_nil) (xCal_V (ci := 10) C dX10_fresh_13 wX10_layApart vX10_192 rfl rfl good_X10_layApart rc_X10_layApart (by decide) (by decide)))
 (cs_seq (p1 := 20) (cs_call (p1 := 17) (ca_cons (p1 := 17) (ce_aln C dX10_fresh_16 rfl) ca_nil) (xCal_V (ci := 10) C dX10_fresh_17 wX10_closeApart vX10_195 rfl rfl good_X10_closeApart rc_X10_closeApart (by decide) (by decide)))
 (cs_seq (p1 := 25) (cs_iasgn (p1 := 24) C (ce_call (p1 := 21) (ca_cons (p1 := 21) (ce_aln C dX10_fresh_20 rfl) ca_nil) (xCal_V (ci := 10) C dX10_fresh_21 wX10_allApart vX10_221 rfl rfl good_X10_allApart rc_X10_allApart (by decide) (by decide)) (by decide)) dX10_fresh_24 rfl)
 (cs_seq (p1 := 28) (cs_iasgn (p1 := 27) C (ce_bipush C dX10_fresh_25 (by decide)) dX10_fresh_27 rfl)
 (cs_seq (p1 := 32) (cs_iasg (p1 := 30) C (ce_ldc C dX10_fresh_28 kX10_211) dX10_fresh_30)
 (cs_seq (p1 := 35) (cs_iasg (p1 := 33) C (ce_iconst C dX10_fresh_32 (by decide)) dX10_fresh_33)
 (cs_seq (p1 := 160) (cs_loop (pB := 44) (pE := 160) (pu := 154) (p2 := 157) C (cc_ltN (p1 := 37) (p2 := 41) C (ce_il C dX10_fresh_35) (ce_fld C (ce_aln C dX10_fresh_37 rfl) dX10_fresh_38 fX10_66) dX10_fresh_41 (by decide) rfl)
 (cs_seq (p1 := 50) (cs_iasg (p1 := 48) C (ce_bin (p1 := 46) (p2 := 47) (ce_il C dX10_fresh_44) (ce_iconst C dX10_fresh_46 (by decide)) (ob_add C dX10_fresh_47)) dX10_fresh_48)
 (cs_loop (pB := 59) (pE := 154) (pu := 148) (p2 := 151) C (cc_ltN (p1 := 52) (p2 := 56) C (ce_il C dX10_fresh_50) (ce_fld C (ce_aln C dX10_fresh_52 rfl) dX10_fresh_53 fX10_66) dX10_fresh_56 (by decide) rfl)
 (cs_itf (pT := 70) (pF := 148) (cc_not (cc_ne0J (p1 := 67) C (ce_call (p1 := 64) (ca_cons (p1 := 60) (ce_aln C dX10_fresh_59 rfl) (ca_cons (p1 := 62) (ce_il C dX10_fresh_60) (ca_cons (p1 := 64) (ce_il C dX10_fresh_62) ca_nil))) (xCal_V (ci := 10) C dX10_fresh_64 wX10_areJoined vX10_224 rfl rfl good_X10_areJoined rc_X10_areJoined (by decide) (by decide)) (by decide)) dX10_fresh_67 (by decide) rfl)) (cs_seq (p1 := 74) (cs_call (p1 := 71) (ca_cons (p1 := 71) (ce_aln C dX10_fresh_70 rfl) ca_nil) (xCal_V (ci := 10) C dX10_fresh_71 wX10_layApart vX10_192 rfl rfl good_X10_layApart rc_X10_layApart (by decide) (by decide)))
 (cs_seq (p1 := 88) (cs_iast (p1 := 78) (p2 := 86) (p3 := 87) C (ce_fld C (ce_aln C dX10_fresh_74 rfl) dX10_fresh_75 fX10_43) (ce_bin (p1 := 83) (p2 := 85) (ce_bin (p1 := 80) (p2 := 82) (ce_bipush C dX10_fresh_78 (by decide)) (ce_il C dX10_fresh_80) (ob_mul C dX10_fresh_82)) (ce_il C dX10_fresh_83) (ob_add C dX10_fresh_85)) (ce_iconst C dX10_fresh_86 (by decide)) dX10_fresh_87)
 (cs_seq (p1 := 102) (cs_iast (p1 := 92) (p2 := 100) (p3 := 101) C (ce_fld C (ce_aln C dX10_fresh_88 rfl) dX10_fresh_89 fX10_43) (ce_bin (p1 := 97) (p2 := 99) (ce_bin (p1 := 94) (p2 := 96) (ce_bipush C dX10_fresh_92 (by decide)) (ce_il C dX10_fresh_94) (ob_mul C dX10_fresh_96)) (ce_il C dX10_fresh_97) (ob_add C dX10_fresh_99)) (ce_iconst C dX10_fresh_100 (by decide)) dX10_fresh_101)
 (cs_seq (p1 := 106) (cs_call (p1 := 103) (ca_cons (p1 := 103) (ce_aln C dX10_fresh_102 rfl) ca_nil) (xCal_V (ci := 10) C dX10_fresh_103 wX10_closeApart vX10_195 rfl rfl good_X10_closeApart rc_X10_closeApart (by decide) (by decide)))
 (cs_seq (p1 := 112) (cs_iasg (p1 := 110) C (ce_call (p1 := 107) (ca_cons (p1 := 107) (ce_aln C dX10_fresh_106 rfl) ca_nil) (xCal_V (ci := 10) C dX10_fresh_107 wX10_allApart vX10_221 rfl rfl good_X10_allApart rc_X10_allApart (by decide) (by decide)) (by decide)) dX10_fresh_110)
 (cs_seq (p1 := 132) (cs_iasgn (p1 := 131) C (ce_tern (pT := 119) (pF := 130) (p1 := 127) C (cc_ltN (p1 := 114) (p2 := 116) C (ce_il C dX10_fresh_112) (ce_il C dX10_fresh_114) dX10_fresh_116 (by decide) rfl) (ce_bin (p1 := 124) (p2 := 126) (ce_bin (p1 := 121) (p2 := 123) (ce_bipush C dX10_fresh_119 (by decide)) (ce_il C dX10_fresh_121) (ob_mul C dX10_fresh_123)) (ce_il C dX10_fresh_124) (ob_add C dX10_fresh_126)) dX10_fresh_127 (by decide) (ce_iln C dX10_fresh_130 rfl)) dX10_fresh_131 rfl)
 (cs_iasg (p1 := 146) C (ce_tern (pT := 139) (pF := 144) (p1 := 141) C (cc_ltN (p1 := 134) (p2 := 136) C (ce_il C dX10_fresh_132) (ce_il C dX10_fresh_134) dX10_fresh_136 (by decide) rfl) (ce_il C dX10_fresh_139) dX10_fresh_141 (by decide) (ce_il C dX10_fresh_144)) dX10_fresh_146)))))))
 cs_skip)
 (cs_inc C dX10_fresh_148 (by decide)) dX10_fresh_151 (by decide)))
 (cs_inc C dX10_fresh_154 (by decide)) dX10_fresh_157 (by decide))
 (cs_ret (p1 := 178) C (ce_tern (pT := 170) (pF := 174) (p1 := 171) C (cc_or (pM := 166) (cc_eqJ (p1 := 161) (p2 := 163) C (ce_iln C dX10_fresh_160 rfl) (ce_bipush C dX10_fresh_161 (by decide)) dX10_fresh_163 (by decide) rfl) (cc_eq0N (p1 := 167) C (ce_iln C dX10_fresh_166 rfl) dX10_fresh_167 (by decide) rfl)) (ce_iln C dX10_fresh_170 rfl) dX10_fresh_171 (by decide) (ce_bin (p1 := 175) (p2 := 177) (ce_iln C dX10_fresh_174 rfl) (ce_il C dX10_fresh_175) (ob_sub C dX10_fresh_177))) dX10_fresh_178)))))))))
theorem good_X10_fresh : xGood yX10_fresh cX10_fresh 8 (some .int) 2 44 m_X10_fresh :=
  x_methI (ini := false) (bz := false) (Or.inl ⟨rfl, rfl⟩) ⟨fun h => (by cases h), fun h => (by cases h)⟩ (fun h => by cases h) (by decide) (fun K C => bo_X10_fresh C)

def bd_X10_lasts : XS := (s_seq (s_ite (b_or (b_not (b_cmp0 r_ne0 (e_call m_X10_isStile [(e_al 0), (e_il 1)]))) (b_not (b_cmp0 r_ne0 (e_call m_X10_isWalker [(e_al 0), (e_il 2)])))) (s_ret (e_lit (-1)))
 s_skip)
 (s_seq (s_iasg 3 (e_call m_X10_wears [(e_al 0), (e_il 2), (e_il 1)]))
 (s_seq (s_iasg 4 (e_bin o_sub (e_fld 10 11 (e_al 0)) (e_ald 0 (e_fld 10 0 (e_al 0)) (e_bin o_add (e_lit 1) (e_il 1)))))
 (s_ret (e_tern (b_cmp0 r_le0 (e_il 4)) (e_lit 0) (e_tern (b_cmp0 r_eq0 (e_il 3)) (e_lit (-4)) (e_bin o_div (e_bin o_sub (e_bin o_add (e_il 4) (e_il 3)) (e_lit 1)) (e_il 3))))))))
def m_X10_lasts : XF := xM 10 2 5 false bd_X10_lasts
theorem rc_X10_lasts : xRecv m_X10_lasts 10 2 := xM_recv
set_option maxRecDepth 100000 in
set_option maxHeartbeats 4000000 in
theorem bo_X10_lasts {K : XK} (C : xOK K RX10 cX10_lasts false false 2 46) : CS K 0 bd_X10_lasts 67 0 0 :=
 (cs_seq (p1 := 18) (cs_itf (pT := 16) (pF := 18) (cc_or (pM := 8) (cc_not (cc_ne0N (p1 := 5) C (ce_call (p1 := 2) (ca_cons (p1 := 1) (ce_aln C dX10_lasts_0 rfl) (ca_cons (p1 := 2) (ce_iln C dX10_lasts_1 rfl) ca_nil)) (xCal_V (ci := 10) C dX10_lasts_2 wX10_isStile vX10_159 rfl rfl good_X10_isStile rc_X10_isStile (by decide) (by decide)) (by decide)) dX10_lasts_5 (by decide) rfl)) (cc_not (cc_ne0J (p1 := 13) C (ce_call (p1 := 10) (ca_cons (p1 := 9) (ce_aln C dX10_lasts_8 rfl) (ca_cons (p1 := 10) (ce_iln C dX10_lasts_9 rfl) ca_nil)) (xCal_V (ci := 10) C dX10_lasts_10 wX10_isWalker vX10_167 rfl rfl good_X10_isWalker rc_X10_isWalker (by decide) (by decide)) (by decide)) dX10_lasts_13 (by decide) rfl))) (cs_ret (p1 := 17) C (ce_iconst C dX10_lasts_16 (by decide)) dX10_lasts_17)
 cs_skip)
 (cs_seq (p1 := 25) (cs_iasgn (p1 := 24) C (ce_call (p1 := 21) (ca_cons (p1 := 19) (ce_aln C dX10_lasts_18 rfl) (ca_cons (p1 := 20) (ce_iln C dX10_lasts_19 rfl) (ca_cons (p1 := 21) (ce_iln C dX10_lasts_20 rfl) ca_nil))) (xCal_V (ci := 10) C dX10_lasts_21 wX10_wears vX10_150 rfl rfl good_X10_wears rc_X10_wears (by decide) (by decide)) (by decide)) dX10_lasts_24 rfl)
 (cs_seq (p1 := 40) (cs_iasg (p1 := 38) C (ce_bin (p1 := 29) (p2 := 37) (ce_fld C (ce_aln C dX10_lasts_25 rfl) dX10_lasts_26 fX10_85) (ce_iald (p1 := 33) (p2 := 36) C (ce_fld C (ce_aln C dX10_lasts_29 rfl) dX10_lasts_30 fX10_7) (ce_bin (p1 := 34) (p2 := 35) (ce_iconst C dX10_lasts_33 (by decide)) (ce_iln C dX10_lasts_34 rfl) (ob_add C dX10_lasts_35)) dX10_lasts_36) (ob_sub C dX10_lasts_37)) dX10_lasts_38)
 (cs_ret (p1 := 66) C (ce_tern (pT := 45) (pF := 49) (p1 := 46) C (cc_le0N (p1 := 42) C (ce_il C dX10_lasts_40) dX10_lasts_42 (by decide) rfl) (ce_iconst C dX10_lasts_45 (by decide)) dX10_lasts_46 (by decide) (ce_tern (pT := 53) (pF := 58) (p1 := 55) C (cc_eq0N (p1 := 50) C (ce_iln C dX10_lasts_49 rfl) dX10_lasts_50 (by decide) rfl) (ce_bipush C dX10_lasts_53 (by decide)) dX10_lasts_55 (by decide) (ce_bin (p1 := 64) (p2 := 65) (ce_bin (p1 := 62) (p2 := 63) (ce_bin (p1 := 60) (p2 := 61) (ce_il C dX10_lasts_58) (ce_iln C dX10_lasts_60 rfl) (ob_add C dX10_lasts_61)) (ce_iconst C dX10_lasts_62 (by decide)) (ob_sub C dX10_lasts_63)) (ce_iln C dX10_lasts_64 rfl) (ob_div C dX10_lasts_65)))) dX10_lasts_66))))
theorem good_X10_lasts : xGood yX10_lasts cX10_lasts 5 (some .int) 2 46 m_X10_lasts :=
  x_methI (ini := false) (bz := false) (Or.inl ⟨rfl, rfl⟩) ⟨fun h => (by cases h), fun h => (by cases h)⟩ (fun h => by cases h) (by decide) (fun K C => bo_X10_lasts C)

def lc_X10_richest_1 : XB := (b_cmp r_lt (e_il 2) (e_fld 10 8 (e_al 0)))
def la_X10_richest_1 : XS := (s_iasg 1 (e_tern (b_cmp r_gt (e_ald 0 (e_fld 10 0 (e_al 0)) (e_bin o_add (e_lit 14) (e_il 2))) (e_ald 0 (e_fld 10 0 (e_al 0)) (e_bin o_add (e_lit 14) (e_il 1)))) (e_il 2) (e_il 1)))
def lu_X10_richest_1 : XS := (s_inc 2 1)
def bd_X10_richest : XS := (s_seq (s_iasg 1 (e_lit 0))
 (s_seq (s_iasg 2 (e_lit 1))
 (s_seq (s_loop 1000 (lc_X10_richest_1) (la_X10_richest_1) (lu_X10_richest_1))
 (s_ret (e_il 1)))))
def m_X10_richest : XF := xM 10 0 3 false bd_X10_richest
theorem rc_X10_richest : xRecv m_X10_richest 10 0 := xM_recv
set_option maxRecDepth 100000 in
set_option maxHeartbeats 4000000 in
theorem bo_X10_richest {K : XK} (C : xOK K RX10 cX10_richest false false 0 0) : CS K 0 bd_X10_richest 47 0 0 :=
 (cs_seq (p1 := 2) (cs_iasgn (p1 := 1) C (ce_iconst C dX10_richest_0 (by decide)) dX10_richest_1 rfl)
 (cs_seq (p1 := 4) (cs_iasgn (p1 := 3) C (ce_iconst C dX10_richest_2 (by decide)) dX10_richest_3 rfl)
 (cs_seq (p1 := 45) (cs_loop (pB := 12) (pE := 45) (pu := 39) (p2 := 42) C (cc_ltN (p1 := 5) (p2 := 9) C (ce_iln C dX10_richest_4 rfl) (ce_fld C (ce_aln C dX10_richest_5 rfl) dX10_richest_6 fX10_76) dX10_richest_9 (by decide) rfl)
 (cs_iasgn (p1 := 38) C (ce_tern (pT := 33) (pF := 37) (p1 := 34) C (cc_gtN (p1 := 21) (p2 := 30) C (ce_iald (p1 := 16) (p2 := 20) C (ce_fld C (ce_aln C dX10_richest_12 rfl) dX10_richest_13 fX10_7) (ce_bin (p1 := 18) (p2 := 19) (ce_bipush C dX10_richest_16 (by decide)) (ce_iln C dX10_richest_18 rfl) (ob_add C dX10_richest_19)) dX10_richest_20) (ce_iald (p1 := 25) (p2 := 29) C (ce_fld C (ce_aln C dX10_richest_21 rfl) dX10_richest_22 fX10_7) (ce_bin (p1 := 27) (p2 := 28) (ce_bipush C dX10_richest_25 (by decide)) (ce_iln C dX10_richest_27 rfl) (ob_add C dX10_richest_28)) dX10_richest_29) dX10_richest_30 (by decide) rfl) (ce_iln C dX10_richest_33 rfl) dX10_richest_34 (by decide) (ce_iln C dX10_richest_37 rfl)) dX10_richest_38 rfl)
 (cs_inc C dX10_richest_39 (by decide)) dX10_richest_42 (by decide))
 (cs_ret (p1 := 46) C (ce_iln C dX10_richest_45 rfl) dX10_richest_46))))
theorem good_X10_richest : xGood yX10_richest cX10_richest 3 (some .int) 0 0 m_X10_richest :=
  x_methI (ini := false) (bz := false) (Or.inl ⟨rfl, rfl⟩) ⟨fun h => (by cases h), fun h => (by cases h)⟩ (fun h => by cases h) (by decide) (fun K C => bo_X10_richest C)

def bd_X10_see : XS := (s_seq (s_ite (b_or (b_not (b_cmp0 r_ne0 (e_call m_X10_isStile [(e_al 0), (e_il 1)]))) (b_not (b_cmp0 r_ne0 (e_call m_X10_in [(e_un o_i2l (e_il 2)), (e_long 0), (e_long 999)])))) (s_ret (e_lit (-1)))
 s_skip)
 (s_seq (s_ite (b_cmp r_eq (e_fld 10 12 (e_al 0)) (e_lit 6)) (s_ret (e_lit (-3)))
 s_skip)
 (s_seq (s_ast 0 (e_fld 10 13 (e_al 0)) (e_fld 10 12 (e_al 0)) (e_il 1))
 (s_seq (s_ast 0 (e_fld 10 14 (e_al 0)) (e_fld 10 12 (e_al 0)) (e_il 2))
 (s_seq (s_putop 10 12 o_add (e_al 0) (e_lit 1))
 (s_ret (e_fld 10 12 (e_al 0))))))))
def m_X10_see : XF := xM 10 2 3 false bd_X10_see
theorem rc_X10_see : xRecv m_X10_see 10 2 := xM_recv
set_option maxRecDepth 100000 in
set_option maxHeartbeats 4000000 in
theorem bo_X10_see {K : XK} (C : xOK K RX10 cX10_see false false 2 46) : CS K 0 bd_X10_see 69 0 0 :=
 (cs_seq (p1 := 22) (cs_itf (pT := 20) (pF := 22) (cc_or (pM := 8) (cc_not (cc_ne0N (p1 := 5) C (ce_call (p1 := 2) (ca_cons (p1 := 1) (ce_aln C dX10_see_0 rfl) (ca_cons (p1 := 2) (ce_iln C dX10_see_1 rfl) ca_nil)) (xCal_V (ci := 10) C dX10_see_2 wX10_isStile vX10_159 rfl rfl good_X10_isStile rc_X10_isStile (by decide) (by decide)) (by decide)) dX10_see_5 (by decide) rfl)) (cc_not (cc_ne0J (p1 := 17) C (ce_call (p1 := 14) (ca_cons (p1 := 10) (ce_un (ce_iln C dX10_see_8 rfl) (ob_i2l C dX10_see_9)) (ca_cons (p1 := 11) (ce_lconst C dX10_see_10 rfl) (ca_cons (p1 := 14) (ce_ldc2 C dX10_see_11 kX10_227) ca_nil))) (xCal_S C dX10_see_14 wX10_in vX10_69 good_X10_in rc_X10_in (by decide) (by decide)) (by decide)) dX10_see_17 (by decide) rfl))) (cs_ret (p1 := 21) C (ce_iconst C dX10_see_20 (by decide)) dX10_see_21)
 cs_skip)
 (cs_seq (p1 := 34) (cs_itf (pT := 31) (pF := 34) (cc_eqN (p1 := 26) (p2 := 28) C (ce_fld C (ce_aln C dX10_see_22 rfl) dX10_see_23 fX10_94) (ce_bipush C dX10_see_26 (by decide)) dX10_see_28 (by decide) rfl) (cs_ret (p1 := 33) C (ce_bipush C dX10_see_31 (by decide)) dX10_see_33)
 cs_skip)
 (cs_seq (p1 := 44) (cs_iast (p1 := 38) (p2 := 42) (p3 := 43) C (ce_fld C (ce_aln C dX10_see_34 rfl) dX10_see_35 fX10_28) (ce_fld C (ce_aln C dX10_see_38 rfl) dX10_see_39 fX10_94) (ce_iln C dX10_see_42 rfl) dX10_see_43)
 (cs_seq (p1 := 54) (cs_iast (p1 := 48) (p2 := 52) (p3 := 53) C (ce_fld C (ce_aln C dX10_see_44 rfl) dX10_see_45 fX10_31) (ce_fld C (ce_aln C dX10_see_48 rfl) dX10_see_49 fX10_94) (ce_iln C dX10_see_52 rfl) dX10_see_53)
 (cs_seq (p1 := 64) (cs_putop (p1 := 55) (p2 := 60) C (ce_aln C dX10_see_54 rfl) dX10_see_55 dX10_see_56 fX10_94 (ce_iconst C dX10_see_59 (by decide)) (ob_add C dX10_see_60) dX10_see_61 pX10_94_false)
 (cs_ret (p1 := 68) C (ce_fld C (ce_aln C dX10_see_64 rfl) dX10_see_65 fX10_94) dX10_see_68))))))
theorem good_X10_see : xGood yX10_see cX10_see 3 (some .int) 2 46 m_X10_see :=
  x_methI (ini := false) (bz := false) (Or.inl ⟨rfl, rfl⟩) ⟨fun h => (by cases h), fun h => (by cases h)⟩ (fun h => by cases h) (by decide) (fun K C => bo_X10_see C)

def bd_X10_forget : XS := (s_seq (s_iasg 1 (e_fld 10 12 (e_al 0)))
 (s_seq (s_put 10 12 0 (e_al 0) (e_lit 0))
 (s_ret (e_il 1))))
def m_X10_forget : XF := xM 10 0 2 false bd_X10_forget
theorem rc_X10_forget : xRecv m_X10_forget 10 0 := xM_recv
set_option maxRecDepth 100000 in
set_option maxHeartbeats 4000000 in
theorem bo_X10_forget {K : XK} (C : xOK K RX10 cX10_forget false false 0 0) : CS K 0 bd_X10_forget 12 0 0 :=
 (cs_seq (p1 := 5) (cs_iasgn (p1 := 4) C (ce_fld C (ce_aln C dX10_forget_0 rfl) dX10_forget_1 fX10_94) dX10_forget_4 rfl)
 (cs_seq (p1 := 10) (cs_put (p1 := 6) (p2 := 7) C (ce_aln C dX10_forget_5 rfl) (ce_iconst C dX10_forget_6 (by decide)) dX10_forget_7 pX10_94_false)
 (cs_ret (p1 := 11) C (ce_iln C dX10_forget_10 rfl) dX10_forget_11)))
theorem good_X10_forget : xGood yX10_forget cX10_forget 2 (some .int) 0 0 m_X10_forget :=
  x_methI (ini := false) (bz := false) (Or.inl ⟨rfl, rfl⟩) ⟨fun h => (by cases h), fun h => (by cases h)⟩ (fun h => by cases h) (by decide) (fun K C => bo_X10_forget C)

def bd_X10_oftenBy : XS := (s_seq (s_iasg 4 (e_call m_X10_wears [(e_al 0), (e_il 1), (e_il 2)]))
 (s_seq (s_ite (b_cmp0 r_eq0 (e_il 3)) (s_ret (e_lit 0))
 s_skip)
 (s_ret (e_tern (b_or (b_cmp0 r_eq0 (e_il 4)) (b_cmp0 r_ne0 (e_bin o_rem (e_il 3) (e_il 4)))) (e_lit (-4)) (e_bin o_div (e_il 3) (e_il 4))))))
def m_X10_oftenBy : XF := xM 10 3 5 false bd_X10_oftenBy
theorem rc_X10_oftenBy : xRecv m_X10_oftenBy 10 3 := xM_recv
set_option maxRecDepth 100000 in
set_option maxHeartbeats 4000000 in
theorem bo_X10_oftenBy {K : XK} (C : xOK K RX10 cX10_oftenBy false false 1 23) : CS K 0 bd_X10_oftenBy 36 0 0 :=
 (cs_seq (p1 := 8) (cs_iasg (p1 := 6) C (ce_call (p1 := 3) (ca_cons (p1 := 1) (ce_aln C dX10_oftenBy_0 rfl) (ca_cons (p1 := 2) (ce_iln C dX10_oftenBy_1 rfl) (ca_cons (p1 := 3) (ce_iln C dX10_oftenBy_2 rfl) ca_nil))) (xCal_V (ci := 10) C dX10_oftenBy_3 wX10_wears vX10_150 rfl rfl good_X10_wears rc_X10_wears (by decide) (by decide)) (by decide)) dX10_oftenBy_6)
 (cs_seq (p1 := 14) (cs_itf (pT := 12) (pF := 14) (cc_eq0N (p1 := 9) C (ce_iln C dX10_oftenBy_8 rfl) dX10_oftenBy_9 (by decide) rfl) (cs_ret (p1 := 13) C (ce_iconst C dX10_oftenBy_12 (by decide)) dX10_oftenBy_13)
 cs_skip)
 (cs_ret (p1 := 35) C (ce_tern (pT := 26) (pF := 31) (p1 := 28) C (cc_or (pM := 19) (cc_eq0J (p1 := 16) C (ce_il C dX10_oftenBy_14) dX10_oftenBy_16 (by decide) rfl) (cc_ne0N (p1 := 23) C (ce_bin (p1 := 20) (p2 := 22) (ce_iln C dX10_oftenBy_19 rfl) (ce_il C dX10_oftenBy_20) (ob_rem C dX10_oftenBy_22)) dX10_oftenBy_23 (by decide) rfl)) (ce_bipush C dX10_oftenBy_26 (by decide)) dX10_oftenBy_28 (by decide) (ce_bin (p1 := 32) (p2 := 34) (ce_iln C dX10_oftenBy_31 rfl) (ce_il C dX10_oftenBy_32) (ob_div C dX10_oftenBy_34))) dX10_oftenBy_35)))
theorem good_X10_oftenBy : xGood yX10_oftenBy cX10_oftenBy 5 (some .int) 1 23 m_X10_oftenBy :=
  x_methI (ini := false) (bz := false) (Or.inl ⟨rfl, rfl⟩) ⟨fun h => (by cases h), fun h => (by cases h)⟩ (fun h => by cases h) (by decide) (fun K C => bo_X10_oftenBy C)

def lc_X10_whose_1 : XB := (b_cmp r_lt (e_il 5) (e_fld 10 12 (e_al 0)))
def la_X10_whose_1 : XS := (s_iasg 4 (e_tern (b_and (b_cmp0 r_ne0 (e_il 4)) (b_or (b_cmp r_ne (e_ald 0 (e_fld 10 13 (e_al 0)) (e_il 5)) (e_il 1)) (b_cmp r_ne (e_call m_X10_oftenBy [(e_al 0), (e_il 3), (e_il 1), (e_ald 0 (e_fld 10 14 (e_al 0)) (e_il 5))]) (e_lit (-4))))) (e_lit 1) (e_lit 0)))
def lu_X10_whose_1 : XS := (s_inc 5 1)
def lc_X10_whose_2 : XB := (b_cmp r_lt (e_il 3) (e_fld 10 8 (e_al 0)))
def la_X10_whose_2 : XS := (s_seq (s_iasg 4 (e_lit 1))
 (s_seq (s_iasg 5 (e_lit 0))
 (s_seq (s_loop 1000 (lc_X10_whose_1) (la_X10_whose_1) (lu_X10_whose_1))
 (s_iasg 2 (e_bin o_or (e_il 2) (e_tern (b_cmp0 r_ne0 (e_il 4)) (e_bin o_shl (e_lit 1) (e_il 3)) (e_lit 0)))))))
def lu_X10_whose_2 : XS := (s_inc 3 1)
def bd_X10_whose : XS := (s_seq (s_ite (b_not (b_cmp0 r_ne0 (e_call m_X10_isStile [(e_al 0), (e_il 1)]))) (s_ret (e_lit (-1)))
 s_skip)
 (s_seq (s_iasg 2 (e_lit 0))
 (s_seq (s_iasg 3 (e_lit 0))
 (s_seq (s_loop 1000 (lc_X10_whose_2) (la_X10_whose_2) (lu_X10_whose_2))
 (s_ret (e_il 2))))))
def m_X10_whose : XF := xM 10 1 6 false bd_X10_whose
theorem rc_X10_whose : xRecv m_X10_whose 10 1 := xM_recv
set_option maxRecDepth 100000 in
set_option maxHeartbeats 4000000 in
theorem bo_X10_whose {K : XK} (C : xOK K RX10 cX10_whose false false 2 47) : CS K 0 bd_X10_whose 107 0 0 :=
 (cs_seq (p1 := 10) (cs_itf (pT := 8) (pF := 10) (cc_not (cc_ne0J (p1 := 5) C (ce_call (p1 := 2) (ca_cons (p1 := 1) (ce_aln C dX10_whose_0 rfl) (ca_cons (p1 := 2) (ce_iln C dX10_whose_1 rfl) ca_nil)) (xCal_V (ci := 10) C dX10_whose_2 wX10_isStile vX10_159 rfl rfl good_X10_isStile rc_X10_isStile (by decide) (by decide)) (by decide)) dX10_whose_5 (by decide) rfl)) (cs_ret (p1 := 9) C (ce_iconst C dX10_whose_8 (by decide)) dX10_whose_9)
 cs_skip)
 (cs_seq (p1 := 12) (cs_iasgn (p1 := 11) C (ce_iconst C dX10_whose_10 (by decide)) dX10_whose_11 rfl)
 (cs_seq (p1 := 14) (cs_iasgn (p1 := 13) C (ce_iconst C dX10_whose_12 (by decide)) dX10_whose_13 rfl)
 (cs_seq (p1 := 105) (cs_loop (pB := 22) (pE := 105) (pu := 99) (p2 := 102) C (cc_ltN (p1 := 15) (p2 := 19) C (ce_iln C dX10_whose_14 rfl) (ce_fld C (ce_aln C dX10_whose_15 rfl) dX10_whose_16 fX10_76) dX10_whose_19 (by decide) rfl)
 (cs_seq (p1 := 25) (cs_iasg (p1 := 23) C (ce_iconst C dX10_whose_22 (by decide)) dX10_whose_23)
 (cs_seq (p1 := 28) (cs_iasg (p1 := 26) C (ce_iconst C dX10_whose_25 (by decide)) dX10_whose_26)
 (cs_seq (p1 := 84) (cs_loop (pB := 37) (pE := 84) (pu := 78) (p2 := 81) C (cc_ltN (p1 := 30) (p2 := 34) C (ce_il C dX10_whose_28) (ce_fld C (ce_aln C dX10_whose_30 rfl) dX10_whose_31 fX10_94) dX10_whose_34 (by decide) rfl)
 (cs_iasg (p1 := 76) C (ce_tern (pT := 71) (pF := 75) (p1 := 72) C (cc_and (pM := 42) (cc_ne0N (p1 := 39) C (ce_il C dX10_whose_37) dX10_whose_39 (by decide) rfl) (cc_or (pM := 53) (cc_neJ (p1 := 49) (p2 := 50) C (ce_iald (p1 := 46) (p2 := 48) C (ce_fld C (ce_aln C dX10_whose_42 rfl) dX10_whose_43 fX10_28) (ce_il C dX10_whose_46) dX10_whose_48) (ce_iln C dX10_whose_49 rfl) dX10_whose_50 (by decide) rfl) (cc_neN (p1 := 66) (p2 := 68) C (ce_call (p1 := 63) (ca_cons (p1 := 54) (ce_aln C dX10_whose_53 rfl) (ca_cons (p1 := 55) (ce_iln C dX10_whose_54 rfl) (ca_cons (p1 := 56) (ce_iln C dX10_whose_55 rfl) (ca_cons (p1 := 63) (ce_iald (p1 := 60) (p2 := 62) C (ce_fld C (ce_aln C dX10_whose_56 rfl) dX10_whose_57 fX10_31) (ce_il C dX10_whose_60) dX10_whose_62) ca_nil)))) (xCal_V (ci := 10) C dX10_whose_63 wX10_oftenBy vX10_229 rfl rfl good_X10_oftenBy rc_X10_oftenBy (by decide) (by decide)) (by decide)) (ce_bipush C dX10_whose_66 (by decide)) dX10_whose_68 (by decide) rfl))) (ce_iconst C dX10_whose_71 (by decide)) dX10_whose_72 (by decide) (ce_iconst C dX10_whose_75 (by decide))) dX10_whose_76)
 (cs_inc C dX10_whose_78 (by decide)) dX10_whose_81 (by decide))
 (cs_iasgn (p1 := 98) C (ce_bin (p1 := 85) (p2 := 97) (ce_iln C dX10_whose_84 rfl) (ce_tern (pT := 90) (pF := 96) (p1 := 93) C (cc_ne0N (p1 := 87) C (ce_il C dX10_whose_85) dX10_whose_87 (by decide) rfl) (ce_bin (p1 := 91) (p2 := 92) (ce_iconst C dX10_whose_90 (by decide)) (ce_iln C dX10_whose_91 rfl) (ob_shl C dX10_whose_92)) dX10_whose_93 (by decide) (ce_iconst C dX10_whose_96 (by decide))) (ob_or C dX10_whose_97)) dX10_whose_98 rfl))))
 (cs_inc C dX10_whose_99 (by decide)) dX10_whose_102 (by decide))
 (cs_ret (p1 := 106) C (ce_iln C dX10_whose_105 rfl) dX10_whose_106)))))
theorem good_X10_whose : xGood yX10_whose cX10_whose 6 (some .int) 2 47 m_X10_whose :=
  x_methI (ini := false) (bz := false) (Or.inl ⟨rfl, rfl⟩) ⟨fun h => (by cases h), fun h => (by cases h)⟩ (fun h => by cases h) (by decide) (fun K C => bo_X10_whose C)

def bd_X10_often : XS := (s_ret (e_tern (b_and (b_and (b_cmp0 r_ne0 (e_call m_X10_isWalker [(e_al 0), (e_il 1)])) (b_cmp0 r_ne0 (e_call m_X10_isStile [(e_al 0), (e_il 2)]))) (b_cmp0 r_ne0 (e_call m_X10_in [(e_un o_i2l (e_il 3)), (e_long 0), (e_long 999)]))) (e_call m_X10_oftenBy [(e_al 0), (e_il 1), (e_il 2), (e_il 3)]) (e_lit (-1))))
def m_X10_often : XF := xM 10 3 4 false bd_X10_often
theorem rc_X10_often : xRecv m_X10_often 10 3 := xM_recv
set_option maxRecDepth 100000 in
set_option maxHeartbeats 4000000 in
theorem bo_X10_often {K : XK} (C : xOK K RX10 cX10_often false false 2 47) : CS K 0 bd_X10_often 40 0 0 :=
 (cs_ret (p1 := 39) C (ce_tern (pT := 28) (pF := 38) (p1 := 35) C (cc_and (pM := 16) (cc_and (pM := 8) (cc_ne0N (p1 := 5) C (ce_call (p1 := 2) (ca_cons (p1 := 1) (ce_aln C dX10_often_0 rfl) (ca_cons (p1 := 2) (ce_iln C dX10_often_1 rfl) ca_nil)) (xCal_V (ci := 10) C dX10_often_2 wX10_isWalker vX10_167 rfl rfl good_X10_isWalker rc_X10_isWalker (by decide) (by decide)) (by decide)) dX10_often_5 (by decide) rfl) (cc_ne0N (p1 := 13) C (ce_call (p1 := 10) (ca_cons (p1 := 9) (ce_aln C dX10_often_8 rfl) (ca_cons (p1 := 10) (ce_iln C dX10_often_9 rfl) ca_nil)) (xCal_V (ci := 10) C dX10_often_10 wX10_isStile vX10_159 rfl rfl good_X10_isStile rc_X10_isStile (by decide) (by decide)) (by decide)) dX10_often_13 (by decide) rfl)) (cc_ne0N (p1 := 25) C (ce_call (p1 := 22) (ca_cons (p1 := 18) (ce_un (ce_iln C dX10_often_16 rfl) (ob_i2l C dX10_often_17)) (ca_cons (p1 := 19) (ce_lconst C dX10_often_18 rfl) (ca_cons (p1 := 22) (ce_ldc2 C dX10_often_19 kX10_227) ca_nil))) (xCal_S C dX10_often_22 wX10_in vX10_69 good_X10_in rc_X10_in (by decide) (by decide)) (by decide)) dX10_often_25 (by decide) rfl)) (ce_call (p1 := 32) (ca_cons (p1 := 29) (ce_aln C dX10_often_28 rfl) (ca_cons (p1 := 30) (ce_iln C dX10_often_29 rfl) (ca_cons (p1 := 31) (ce_iln C dX10_often_30 rfl) (ca_cons (p1 := 32) (ce_iln C dX10_often_31 rfl) ca_nil)))) (xCal_V (ci := 10) C dX10_often_32 wX10_oftenBy vX10_229 rfl rfl good_X10_oftenBy rc_X10_oftenBy (by decide) (by decide)) (by decide)) dX10_often_35 (by decide) (ce_iconst C dX10_often_38 (by decide))) dX10_often_39)
theorem good_X10_often : xGood yX10_often cX10_often 4 (some .int) 2 47 m_X10_often :=
  x_methI (ini := false) (bz := false) (Or.inl ⟨rfl, rfl⟩) ⟨fun h => (by cases h), fun h => (by cases h)⟩ (fun h => by cases h) (by decide) (fun K C => bo_X10_often C)

def lc_X10_nthAt_1 : XB := (b_cmp r_lt (e_il 5) (e_fld 10 4 (e_al 0)))
def la_X10_nthAt_1 : XS := (s_ite (b_and (b_cmp0 r_ne0 (e_call m_X10_isAt [(e_al 0), (e_il 5), (e_il 2)])) (b_not (b_cmp0 r_ne0 (e_call m_X10_isBroken [(e_al 0), (e_il 1), (e_il 5)])))) (s_seq (s_ite (b_cmp r_eq (e_il 4) (e_il 3)) (s_ret (e_il 5))
 s_skip)
 (s_inc 4 1))
 s_skip)
def lu_X10_nthAt_1 : XS := (s_inc 5 1)
def bd_X10_nthAt : XS := (s_seq (s_iasg 4 (e_lit 0))
 (s_seq (s_iasg 5 (e_lit 0))
 (s_seq (s_loop 1000 (lc_X10_nthAt_1) (la_X10_nthAt_1) (lu_X10_nthAt_1))
 (s_ret (e_lit (-4))))))
def m_X10_nthAt : XF := xM 10 3 6 false bd_X10_nthAt
theorem rc_X10_nthAt : xRecv m_X10_nthAt 10 3 := xM_recv
set_option maxRecDepth 100000 in
set_option maxHeartbeats 4000000 in
theorem bo_X10_nthAt {K : XK} (C : xOK K RX10 cX10_nthAt false false 1 22) : CS K 0 bd_X10_nthAt 56 0 0 :=
 (cs_seq (p1 := 3) (cs_iasg (p1 := 1) C (ce_iconst C dX10_nthAt_0 (by decide)) dX10_nthAt_1)
 (cs_seq (p1 := 6) (cs_iasg (p1 := 4) C (ce_iconst C dX10_nthAt_3 (by decide)) dX10_nthAt_4)
 (cs_seq (p1 := 53) (cs_loop (pB := 15) (pE := 53) (pu := 47) (p2 := 50) C (cc_ltN (p1 := 8) (p2 := 12) C (ce_il C dX10_nthAt_6) (ce_fld C (ce_aln C dX10_nthAt_8 rfl) dX10_nthAt_9 fX10_73) dX10_nthAt_12 (by decide) rfl)
 (cs_itf (pT := 35) (pF := 47) (cc_and (pM := 25) (cc_ne0N (p1 := 22) C (ce_call (p1 := 19) (ca_cons (p1 := 16) (ce_aln C dX10_nthAt_15 rfl) (ca_cons (p1 := 18) (ce_il C dX10_nthAt_16) (ca_cons (p1 := 19) (ce_iln C dX10_nthAt_18 rfl) ca_nil))) (xCal_V (ci := 10) C dX10_nthAt_19 wX10_isAt vX10_177 rfl rfl good_X10_isAt rc_X10_isAt (by decide) (by decide)) (by decide)) dX10_nthAt_22 (by decide) rfl) (cc_not (cc_ne0J (p1 := 32) C (ce_call (p1 := 29) (ca_cons (p1 := 26) (ce_aln C dX10_nthAt_25 rfl) (ca_cons (p1 := 27) (ce_iln C dX10_nthAt_26 rfl) (ca_cons (p1 := 29) (ce_il C dX10_nthAt_27) ca_nil))) (xCal_V (ci := 10) C dX10_nthAt_29 wX10_isBroken vX10_163 rfl rfl good_X10_isBroken rc_X10_isBroken (by decide) (by decide)) (by decide)) dX10_nthAt_32 (by decide) rfl))) (cs_seq (p1 := 44) (cs_itf (pT := 41) (pF := 44) (cc_eqN (p1 := 37) (p2 := 38) C (ce_il C dX10_nthAt_35) (ce_iln C dX10_nthAt_37 rfl) dX10_nthAt_38 (by decide) rfl) (cs_ret (p1 := 43) C (ce_il C dX10_nthAt_41) dX10_nthAt_43)
 cs_skip)
 (cs_inc C dX10_nthAt_44 (by decide)))
 cs_skip)
 (cs_inc C dX10_nthAt_47 (by decide)) dX10_nthAt_50 (by decide))
 (cs_ret (p1 := 55) C (ce_bipush C dX10_nthAt_53 (by decide)) dX10_nthAt_55))))
theorem good_X10_nthAt : xGood yX10_nthAt cX10_nthAt 6 (some .int) 1 22 m_X10_nthAt :=
  x_methI (ini := false) (bz := false) (Or.inl ⟨rfl, rfl⟩) ⟨fun h => (by cases h), fun h => (by cases h)⟩ (fun h => by cases h) (by decide) (fun K C => bo_X10_nthAt C)

def lc_X10_manyAt_1 : XB := (b_cmp r_lt (e_il 4) (e_fld 10 4 (e_al 0)))
def la_X10_manyAt_1 : XS := (s_iasg 3 (e_bin o_add (e_il 3) (e_tern (b_and (b_cmp0 r_ne0 (e_call m_X10_isAt [(e_al 0), (e_il 4), (e_il 2)])) (b_not (b_cmp0 r_ne0 (e_call m_X10_isBroken [(e_al 0), (e_il 1), (e_il 4)])))) (e_lit 1) (e_lit 0))))
def lu_X10_manyAt_1 : XS := (s_inc 4 1)
def bd_X10_manyAt : XS := (s_seq (s_iasg 3 (e_lit 0))
 (s_seq (s_iasg 4 (e_lit 0))
 (s_seq (s_loop 1000 (lc_X10_manyAt_1) (la_X10_manyAt_1) (lu_X10_manyAt_1))
 (s_ret (e_il 3)))))
def m_X10_manyAt : XF := xM 10 2 5 false bd_X10_manyAt
theorem rc_X10_manyAt : xRecv m_X10_manyAt 10 2 := xM_recv
set_option maxRecDepth 100000 in
set_option maxHeartbeats 4000000 in
theorem bo_X10_manyAt {K : XK} (C : xOK K RX10 cX10_manyAt false false 1 22) : CS K 0 bd_X10_manyAt 50 0 0 :=
 (cs_seq (p1 := 2) (cs_iasgn (p1 := 1) C (ce_iconst C dX10_manyAt_0 (by decide)) dX10_manyAt_1 rfl)
 (cs_seq (p1 := 5) (cs_iasg (p1 := 3) C (ce_iconst C dX10_manyAt_2 (by decide)) dX10_manyAt_3)
 (cs_seq (p1 := 48) (cs_loop (pB := 14) (pE := 48) (pu := 42) (p2 := 45) C (cc_ltN (p1 := 7) (p2 := 11) C (ce_il C dX10_manyAt_5) (ce_fld C (ce_aln C dX10_manyAt_7 rfl) dX10_manyAt_8 fX10_73) dX10_manyAt_11 (by decide) rfl)
 (cs_iasgn (p1 := 41) C (ce_bin (p1 := 15) (p2 := 40) (ce_iln C dX10_manyAt_14 rfl) (ce_tern (pT := 35) (pF := 39) (p1 := 36) C (cc_and (pM := 25) (cc_ne0N (p1 := 22) C (ce_call (p1 := 19) (ca_cons (p1 := 16) (ce_aln C dX10_manyAt_15 rfl) (ca_cons (p1 := 18) (ce_il C dX10_manyAt_16) (ca_cons (p1 := 19) (ce_iln C dX10_manyAt_18 rfl) ca_nil))) (xCal_V (ci := 10) C dX10_manyAt_19 wX10_isAt vX10_177 rfl rfl good_X10_isAt rc_X10_isAt (by decide) (by decide)) (by decide)) dX10_manyAt_22 (by decide) rfl) (cc_not (cc_ne0J (p1 := 32) C (ce_call (p1 := 29) (ca_cons (p1 := 26) (ce_aln C dX10_manyAt_25 rfl) (ca_cons (p1 := 27) (ce_iln C dX10_manyAt_26 rfl) (ca_cons (p1 := 29) (ce_il C dX10_manyAt_27) ca_nil))) (xCal_V (ci := 10) C dX10_manyAt_29 wX10_isBroken vX10_163 rfl rfl good_X10_isBroken rc_X10_isBroken (by decide) (by decide)) (by decide)) dX10_manyAt_32 (by decide) rfl))) (ce_iconst C dX10_manyAt_35 (by decide)) dX10_manyAt_36 (by decide) (ce_iconst C dX10_manyAt_39 (by decide))) (ob_add C dX10_manyAt_40)) dX10_manyAt_41 rfl)
 (cs_inc C dX10_manyAt_42 (by decide)) dX10_manyAt_45 (by decide))
 (cs_ret (p1 := 49) C (ce_iln C dX10_manyAt_48 rfl) dX10_manyAt_49))))
theorem good_X10_manyAt : xGood yX10_manyAt cX10_manyAt 5 (some .int) 1 22 m_X10_manyAt :=
  x_methI (ini := false) (bz := false) (Or.inl ⟨rfl, rfl⟩) ⟨fun h => (by cases h), fun h => (by cases h)⟩ (fun h => by cases h) (by decide) (fun K C => bo_X10_manyAt C)

def lc_X10_drunk_1 : XB := (b_cmp r_lt (e_il 8) (e_il 3))
def la_X10_drunk_1 : XS := (s_iasg 7 (e_bin o_mul (e_il 7) (e_lit 10)))
def lu_X10_drunk_1 : XS := (s_inc 8 1)
def lc_X10_drunk_2 : XB := (b_cmp r_lt (e_il 11) (e_il 3))
def la_X10_drunk_2 : XS := (s_seq (s_iasg 9 (e_bin o_mul (e_il 9) (e_tern (b_cmp0 r_ne0 (e_call m_X10_has [(e_il 8), (e_il 11)])) (e_il 4) (e_bin o_sub (e_lit 10) (e_il 4)))))
 (s_seq (s_iasg 12 (e_call m_X10_manyAt [(e_al 0), (e_lit 0), (e_il 10)]))
 (s_iasg 10 (e_tern (b_cmp0 r_eq0 (e_il 12)) (e_il 10) (e_call m_X10_otherEnd [(e_al 0), (e_call m_X10_nthAt [(e_al 0), (e_lit 0), (e_il 10), (e_tern (b_cmp0 r_ne0 (e_call m_X10_has [(e_il 8), (e_il 11)])) (e_lit 0) (e_bin o_sub (e_il 12) (e_lit 1)))]), (e_il 10)])))))
def lu_X10_drunk_2 : XS := (s_inc 11 1)
def lc_X10_drunk_3 : XB := (b_cmp r_lt (e_il 8) (e_bin o_shl (e_lit 1) (e_il 3)))
def la_X10_drunk_3 : XS := (s_seq (s_iasg 9 (e_lit 1))
 (s_seq (s_iasg 10 (e_ald 0 (e_fld 10 0 (e_al 0)) (e_bin o_add (e_lit 10) (e_il 1))))
 (s_seq (s_iasg 11 (e_lit 0))
 (s_seq (s_loop 1000 (lc_X10_drunk_2) (la_X10_drunk_2) (lu_X10_drunk_2))
 (s_iasg 6 (e_bin o_add (e_il 6) (e_tern (b_cmp r_eq (e_il 10) (e_il 2)) (e_il 9) (e_lit 0))))))))
def lu_X10_drunk_3 : XS := (s_inc 8 1)
def lc_X10_drunk_4 : XB := (b_cmp0 r_ne0 (e_il 9))
def la_X10_drunk_4 : XS := (s_seq (s_iasg 10 (e_bin o_rem (e_il 8) (e_il 9)))
 (s_seq (s_iasg 8 (e_il 9))
 (s_iasg 9 (e_il 10))))
def lu_X10_drunk_4 : XS := s_skip
def bd_X10_drunk : XS := (s_seq (s_ite (b_or (b_or (b_or (b_or (b_not (b_cmp0 r_ne0 (e_call m_X10_isWalker [(e_al 0), (e_il 1)]))) (b_not (b_cmp0 r_ne0 (e_call m_X10_isField [(e_al 0), (e_il 2)])))) (b_not (b_cmp0 r_ne0 (e_call m_X10_in [(e_un o_i2l (e_il 3)), (e_long 0), (e_long 8)])))) (b_not (b_cmp0 r_ne0 (e_call m_X10_in [(e_un o_i2l (e_il 4)), (e_long 0), (e_long 10)])))) (b_not (b_cmp0 r_ne0 (e_call m_X10_in [(e_un o_i2l (e_il 5)), (e_long 0), (e_long 1)])))) (s_ret (e_lit (-1)))
 s_skip)
 (s_seq (s_iasg 6 (e_lit 0))
 (s_seq (s_iasg 7 (e_lit 1))
 (s_seq (s_iasg 8 (e_lit 0))
 (s_seq (s_loop 1000 (lc_X10_drunk_1) (la_X10_drunk_1) (lu_X10_drunk_1))
 (s_seq (s_iasg 8 (e_lit 0))
 (s_seq (s_loop 1000 (lc_X10_drunk_3) (la_X10_drunk_3) (lu_X10_drunk_3))
 (s_seq (s_iasg 8 (e_il 6))
 (s_seq (s_iasg 9 (e_il 7))
 (s_seq (s_loop 1000 (lc_X10_drunk_4) (la_X10_drunk_4) (lu_X10_drunk_4))
 (s_ret (e_tern (b_cmp0 r_eq0 (e_il 5)) (e_bin o_div (e_il 6) (e_il 8)) (e_bin o_div (e_il 7) (e_il 8))))))))))))))
def m_X10_drunk : XF := xM 10 5 13 false bd_X10_drunk
theorem rc_X10_drunk : xRecv m_X10_drunk 10 5 := xM_recv
set_option maxRecDepth 100000 in
set_option maxHeartbeats 4000000 in
theorem bo_X10_drunk {K : XK} (C : xOK K RX10 cX10_drunk false false 2 47) : CS K 0 bd_X10_drunk 272 0 0 :=
 (cs_seq (p1 := 54) (cs_itf (pT := 52) (pF := 54) (cc_or (pM := 41) (cc_or (pM := 28) (cc_or (pM := 16) (cc_or (pM := 8) (cc_not (cc_ne0N (p1 := 5) C (ce_call (p1 := 2) (ca_cons (p1 := 1) (ce_aln C dX10_drunk_0 rfl) (ca_cons (p1 := 2) (ce_iln C dX10_drunk_1 rfl) ca_nil)) (xCal_V (ci := 10) C dX10_drunk_2 wX10_isWalker vX10_167 rfl rfl good_X10_isWalker rc_X10_isWalker (by decide) (by decide)) (by decide)) dX10_drunk_5 (by decide) rfl)) (cc_not (cc_ne0N (p1 := 13) C (ce_call (p1 := 10) (ca_cons (p1 := 9) (ce_aln C dX10_drunk_8 rfl) (ca_cons (p1 := 10) (ce_iln C dX10_drunk_9 rfl) ca_nil)) (xCal_V (ci := 10) C dX10_drunk_10 wX10_isField vX10_189 rfl rfl good_X10_isField rc_X10_isField (by decide) (by decide)) (by decide)) dX10_drunk_13 (by decide) rfl))) (cc_not (cc_ne0N (p1 := 25) C (ce_call (p1 := 22) (ca_cons (p1 := 18) (ce_un (ce_iln C dX10_drunk_16 rfl) (ob_i2l C dX10_drunk_17)) (ca_cons (p1 := 19) (ce_lconst C dX10_drunk_18 rfl) (ca_cons (p1 := 22) (ce_ldc2 C dX10_drunk_19 kX10_233) ca_nil))) (xCal_S C dX10_drunk_22 wX10_in vX10_69 good_X10_in rc_X10_in (by decide) (by decide)) (by decide)) dX10_drunk_25 (by decide) rfl))) (cc_not (cc_ne0N (p1 := 38) C (ce_call (p1 := 35) (ca_cons (p1 := 31) (ce_un (ce_il C dX10_drunk_28) (ob_i2l C dX10_drunk_30)) (ca_cons (p1 := 32) (ce_lconst C dX10_drunk_31 rfl) (ca_cons (p1 := 35) (ce_ldc2 C dX10_drunk_32 kX10_235) ca_nil))) (xCal_S C dX10_drunk_35 wX10_in vX10_69 good_X10_in rc_X10_in (by decide) (by decide)) (by decide)) dX10_drunk_38 (by decide) rfl))) (cc_not (cc_ne0J (p1 := 49) C (ce_call (p1 := 46) (ca_cons (p1 := 44) (ce_un (ce_il C dX10_drunk_41) (ob_i2l C dX10_drunk_43)) (ca_cons (p1 := 45) (ce_lconst C dX10_drunk_44 rfl) (ca_cons (p1 := 46) (ce_lconst C dX10_drunk_45 rfl) ca_nil))) (xCal_S C dX10_drunk_46 wX10_in vX10_69 good_X10_in rc_X10_in (by decide) (by decide)) (by decide)) dX10_drunk_49 (by decide) rfl))) (cs_ret (p1 := 53) C (ce_iconst C dX10_drunk_52 (by decide)) dX10_drunk_53)
 cs_skip)
 (cs_seq (p1 := 57) (cs_iasg (p1 := 55) C (ce_iconst C dX10_drunk_54 (by decide)) dX10_drunk_55)
 (cs_seq (p1 := 60) (cs_iasg (p1 := 58) C (ce_iconst C dX10_drunk_57 (by decide)) dX10_drunk_58)
 (cs_seq (p1 := 63) (cs_iasg (p1 := 61) C (ce_iconst C dX10_drunk_60 (by decide)) dX10_drunk_61)
 (cs_seq (p1 := 82) (cs_loop (pB := 69) (pE := 82) (pu := 76) (p2 := 79) C (cc_ltN (p1 := 65) (p2 := 66) C (ce_il C dX10_drunk_63) (ce_iln C dX10_drunk_65 rfl) dX10_drunk_66 (by decide) rfl)
 (cs_iasg (p1 := 74) C (ce_bin (p1 := 71) (p2 := 73) (ce_il C dX10_drunk_69) (ce_bipush C dX10_drunk_71 (by decide)) (ob_mul C dX10_drunk_73)) dX10_drunk_74)
 (cs_inc C dX10_drunk_76 (by decide)) dX10_drunk_79 (by decide))
 (cs_seq (p1 := 85) (cs_iasg (p1 := 83) C (ce_iconst C dX10_drunk_82 (by decide)) dX10_drunk_83)
 (cs_seq (p1 := 222) (cs_loop (pB := 93) (pE := 222) (pu := 216) (p2 := 219) C (cc_ltN (p1 := 87) (p2 := 90) C (ce_il C dX10_drunk_85) (ce_bin (p1 := 88) (p2 := 89) (ce_iconst C dX10_drunk_87 (by decide)) (ce_iln C dX10_drunk_88 rfl) (ob_shl C dX10_drunk_89)) dX10_drunk_90 (by decide) rfl)
 (cs_seq (p1 := 96) (cs_iasg (p1 := 94) C (ce_iconst C dX10_drunk_93 (by decide)) dX10_drunk_94)
 (cs_seq (p1 := 107) (cs_iasg (p1 := 105) C (ce_iald (p1 := 100) (p2 := 104) C (ce_fld C (ce_aln C dX10_drunk_96 rfl) dX10_drunk_97 fX10_7) (ce_bin (p1 := 102) (p2 := 103) (ce_bipush C dX10_drunk_100 (by decide)) (ce_iln C dX10_drunk_102 rfl) (ob_add C dX10_drunk_103)) dX10_drunk_104) dX10_drunk_105)
 (cs_seq (p1 := 110) (cs_iasg (p1 := 108) C (ce_iconst C dX10_drunk_107 (by decide)) dX10_drunk_108)
 (cs_seq (p1 := 199) (cs_loop (pB := 116) (pE := 199) (pu := 193) (p2 := 196) C (cc_ltN (p1 := 112) (p2 := 113) C (ce_il C dX10_drunk_110) (ce_iln C dX10_drunk_112 rfl) dX10_drunk_113 (by decide) rfl)
 (cs_seq (p1 := 141) (cs_iasg (p1 := 139) C (ce_bin (p1 := 118) (p2 := 138) (ce_il C dX10_drunk_116) (ce_tern (pT := 128) (pF := 133) (p1 := 130) C (cc_ne0N (p1 := 125) C (ce_call (p1 := 122) (ca_cons (p1 := 120) (ce_il C dX10_drunk_118) (ca_cons (p1 := 122) (ce_il C dX10_drunk_120) ca_nil)) (xCal_S C dX10_drunk_122 wX10_has vX10_198 good_X10_has rc_X10_has (by decide) (by decide)) (by decide)) dX10_drunk_125 (by decide) rfl) (ce_il C dX10_drunk_128) dX10_drunk_130 (by decide) (ce_bin (p1 := 135) (p2 := 137) (ce_bipush C dX10_drunk_133 (by decide)) (ce_il C dX10_drunk_135) (ob_sub C dX10_drunk_137))) (ob_mul C dX10_drunk_138)) dX10_drunk_139)
 (cs_seq (p1 := 150) (cs_iasg (p1 := 148) C (ce_call (p1 := 145) (ca_cons (p1 := 142) (ce_aln C dX10_drunk_141 rfl) (ca_cons (p1 := 143) (ce_iconst C dX10_drunk_142 (by decide)) (ca_cons (p1 := 145) (ce_il C dX10_drunk_143) ca_nil))) (xCal_V (ci := 10) C dX10_drunk_145 wX10_manyAt vX10_237 rfl rfl good_X10_manyAt rc_X10_manyAt (by decide) (by decide)) (by decide)) dX10_drunk_148)
 (cs_iasg (p1 := 191) C (ce_tern (pT := 155) (pF := 160) (p1 := 157) C (cc_eq0N (p1 := 152) C (ce_il C dX10_drunk_150) dX10_drunk_152 (by decide) rfl) (ce_il C dX10_drunk_155) dX10_drunk_157 (by decide) (ce_call (p1 := 188) (ca_cons (p1 := 161) (ce_aln C dX10_drunk_160 rfl) (ca_cons (p1 := 186) (ce_call (p1 := 183) (ca_cons (p1 := 162) (ce_aln C dX10_drunk_161 rfl) (ca_cons (p1 := 163) (ce_iconst C dX10_drunk_162 (by decide)) (ca_cons (p1 := 165) (ce_il C dX10_drunk_163) (ca_cons (p1 := 183) (ce_tern (pT := 175) (pF := 179) (p1 := 176) C (cc_ne0N (p1 := 172) C (ce_call (p1 := 169) (ca_cons (p1 := 167) (ce_il C dX10_drunk_165) (ca_cons (p1 := 169) (ce_il C dX10_drunk_167) ca_nil)) (xCal_S C dX10_drunk_169 wX10_has vX10_198 good_X10_has rc_X10_has (by decide) (by decide)) (by decide)) dX10_drunk_172 (by decide) rfl) (ce_iconst C dX10_drunk_175 (by decide)) dX10_drunk_176 (by decide) (ce_bin (p1 := 181) (p2 := 182) (ce_il C dX10_drunk_179) (ce_iconst C dX10_drunk_181 (by decide)) (ob_sub C dX10_drunk_182))) ca_nil)))) (xCal_V (ci := 10) C dX10_drunk_183 wX10_nthAt vX10_240 rfl rfl good_X10_nthAt rc_X10_nthAt (by decide) (by decide)) (by decide)) (ca_cons (p1 := 188) (ce_il C dX10_drunk_186) ca_nil))) (xCal_V (ci := 10) C dX10_drunk_188 wX10_otherEnd vX10_146 rfl rfl good_X10_otherEnd rc_X10_otherEnd (by decide) (by decide)) (by decide))) dX10_drunk_191)))
 (cs_inc C dX10_drunk_193 (by decide)) dX10_drunk_196 (by decide))
 (cs_iasg (p1 := 214) C (ce_bin (p1 := 201) (p2 := 213) (ce_il C dX10_drunk_199) (ce_tern (pT := 207) (pF := 212) (p1 := 209) C (cc_eqN (p1 := 203) (p2 := 204) C (ce_il C dX10_drunk_201) (ce_iln C dX10_drunk_203 rfl) dX10_drunk_204 (by decide) rfl) (ce_il C dX10_drunk_207) dX10_drunk_209 (by decide) (ce_iconst C dX10_drunk_212 (by decide))) (ob_add C dX10_drunk_213)) dX10_drunk_214)))))
 (cs_inc C dX10_drunk_216 (by decide)) dX10_drunk_219 (by decide))
 (cs_seq (p1 := 226) (cs_iasg (p1 := 224) C (ce_il C dX10_drunk_222) dX10_drunk_224)
 (cs_seq (p1 := 230) (cs_iasg (p1 := 228) C (ce_il C dX10_drunk_226) dX10_drunk_228)
 (cs_seq (p1 := 253) (cs_loop (pB := 235) (pE := 253) (pu := 250) (p2 := 250) C (cc_ne0N (p1 := 232) C (ce_il C dX10_drunk_230) dX10_drunk_232 (by decide) rfl)
 (cs_seq (p1 := 242) (cs_iasg (p1 := 240) C (ce_bin (p1 := 237) (p2 := 239) (ce_il C dX10_drunk_235) (ce_il C dX10_drunk_237) (ob_rem C dX10_drunk_239)) dX10_drunk_240)
 (cs_seq (p1 := 246) (cs_iasg (p1 := 244) C (ce_il C dX10_drunk_242) dX10_drunk_244)
 (cs_iasg (p1 := 248) C (ce_il C dX10_drunk_246) dX10_drunk_248)))
 cs_skip dX10_drunk_250 (by decide))
 (cs_ret (p1 := 271) C (ce_tern (pT := 258) (pF := 266) (p1 := 263) C (cc_eq0N (p1 := 255) C (ce_il C dX10_drunk_253) dX10_drunk_255 (by decide) rfl) (ce_bin (p1 := 260) (p2 := 262) (ce_il C dX10_drunk_258) (ce_il C dX10_drunk_260) (ob_div C dX10_drunk_262)) dX10_drunk_263 (by decide) (ce_bin (p1 := 268) (p2 := 270) (ce_il C dX10_drunk_266) (ce_il C dX10_drunk_268) (ob_div C dX10_drunk_270))) dX10_drunk_271)))))))))))
theorem good_X10_drunk : xGood yX10_drunk cX10_drunk 13 (some .int) 2 47 m_X10_drunk :=
  x_methI (ini := false) (bz := false) (Or.inl ⟨rfl, rfl⟩) ⟨fun h => (by cases h), fun h => (by cases h)⟩ (fun h => by cases h) (by decide) (fun K C => bo_X10_drunk C)

def lc_X10_lowestAt_1 : XB := (b_cmp r_lt (e_il 2) (e_fld 10 4 (e_al 0)))
def la_X10_lowestAt_1 : XS := (s_ite (b_cmp0 r_ne0 (e_call m_X10_isAt [(e_al 0), (e_il 2), (e_il 1)])) (s_ret (e_il 2))
 s_skip)
def lu_X10_lowestAt_1 : XS := (s_inc 2 1)
def bd_X10_lowestAt : XS := (s_seq (s_iasg 2 (e_lit 0))
 (s_seq (s_loop 1000 (lc_X10_lowestAt_1) (la_X10_lowestAt_1) (lu_X10_lowestAt_1))
 (s_ret (e_lit (-4)))))
def m_X10_lowestAt : XF := xM 10 1 3 false bd_X10_lowestAt
theorem rc_X10_lowestAt : xRecv m_X10_lowestAt 10 1 := xM_recv
set_option maxRecDepth 100000 in
set_option maxHeartbeats 4000000 in
theorem bo_X10_lowestAt {K : XK} (C : xOK K RX10 cX10_lowestAt false false 1 22) : CS K 0 bd_X10_lowestAt 30 0 0 :=
 (cs_seq (p1 := 2) (cs_iasgn (p1 := 1) C (ce_iconst C dX10_lowestAt_0 (by decide)) dX10_lowestAt_1 rfl)
 (cs_seq (p1 := 27) (cs_loop (pB := 10) (pE := 27) (pu := 21) (p2 := 24) C (cc_ltN (p1 := 3) (p2 := 7) C (ce_iln C dX10_lowestAt_2 rfl) (ce_fld C (ce_aln C dX10_lowestAt_3 rfl) dX10_lowestAt_4 fX10_73) dX10_lowestAt_7 (by decide) rfl)
 (cs_itf (pT := 19) (pF := 21) (cc_ne0N (p1 := 16) C (ce_call (p1 := 13) (ca_cons (p1 := 11) (ce_aln C dX10_lowestAt_10 rfl) (ca_cons (p1 := 12) (ce_iln C dX10_lowestAt_11 rfl) (ca_cons (p1 := 13) (ce_iln C dX10_lowestAt_12 rfl) ca_nil))) (xCal_V (ci := 10) C dX10_lowestAt_13 wX10_isAt vX10_177 rfl rfl good_X10_isAt rc_X10_isAt (by decide) (by decide)) (by decide)) dX10_lowestAt_16 (by decide) rfl) (cs_ret (p1 := 20) C (ce_iln C dX10_lowestAt_19 rfl) dX10_lowestAt_20)
 cs_skip)
 (cs_inc C dX10_lowestAt_21 (by decide)) dX10_lowestAt_24 (by decide))
 (cs_ret (p1 := 29) C (ce_bipush C dX10_lowestAt_27 (by decide)) dX10_lowestAt_29)))
theorem good_X10_lowestAt : xGood yX10_lowestAt cX10_lowestAt 3 (some .int) 1 22 m_X10_lowestAt :=
  x_methI (ini := false) (bz := false) (Or.inl ⟨rfl, rfl⟩) ⟨fun h => (by cases h), fun h => (by cases h)⟩ (fun h => by cases h) (by decide) (fun K C => bo_X10_lowestAt C)

def lc_X10_creditIn_1 : XB := (b_cmp r_lt (e_il 3) (e_fld 10 8 (e_al 0)))
def la_X10_creditIn_1 : XS := (s_iasg 2 (e_bin o_add (e_il 2) (e_ald 0 (e_fld 10 0 (e_al 0)) (e_bin o_add (e_bin o_add (e_il 1) (e_lit 14)) (e_il 3)))))
def lu_X10_creditIn_1 : XS := (s_inc 3 1)
def bd_X10_creditIn : XS := (s_seq (s_iasg 2 (e_lit 0))
 (s_seq (s_iasg 3 (e_lit 0))
 (s_seq (s_loop 1000 (lc_X10_creditIn_1) (la_X10_creditIn_1) (lu_X10_creditIn_1))
 (s_ret (e_il 2)))))
def m_X10_creditIn : XF := xM 10 1 4 false bd_X10_creditIn
theorem rc_X10_creditIn : xRecv m_X10_creditIn 10 1 := xM_recv
set_option maxRecDepth 100000 in
set_option maxHeartbeats 4000000 in
theorem bo_X10_creditIn {K : XK} (C : xOK K RX10 cX10_creditIn false false 0 0) : CS K 0 bd_X10_creditIn 34 0 0 :=
 (cs_seq (p1 := 2) (cs_iasgn (p1 := 1) C (ce_iconst C dX10_creditIn_0 (by decide)) dX10_creditIn_1 rfl)
 (cs_seq (p1 := 4) (cs_iasgn (p1 := 3) C (ce_iconst C dX10_creditIn_2 (by decide)) dX10_creditIn_3 rfl)
 (cs_seq (p1 := 32) (cs_loop (pB := 12) (pE := 32) (pu := 26) (p2 := 29) C (cc_ltN (p1 := 5) (p2 := 9) C (ce_iln C dX10_creditIn_4 rfl) (ce_fld C (ce_aln C dX10_creditIn_5 rfl) dX10_creditIn_6 fX10_76) dX10_creditIn_9 (by decide) rfl)
 (cs_iasgn (p1 := 25) C (ce_bin (p1 := 13) (p2 := 24) (ce_iln C dX10_creditIn_12 rfl) (ce_iald (p1 := 17) (p2 := 23) C (ce_fld C (ce_aln C dX10_creditIn_13 rfl) dX10_creditIn_14 fX10_7) (ce_bin (p1 := 21) (p2 := 22) (ce_bin (p1 := 18) (p2 := 20) (ce_iln C dX10_creditIn_17 rfl) (ce_bipush C dX10_creditIn_18 (by decide)) (ob_add C dX10_creditIn_20)) (ce_iln C dX10_creditIn_21 rfl) (ob_add C dX10_creditIn_22)) dX10_creditIn_23) (ob_add C dX10_creditIn_24)) dX10_creditIn_25 rfl)
 (cs_inc C dX10_creditIn_26 (by decide)) dX10_creditIn_29 (by decide))
 (cs_ret (p1 := 33) C (ce_iln C dX10_creditIn_32 rfl) dX10_creditIn_33))))
theorem good_X10_creditIn : xGood yX10_creditIn cX10_creditIn 4 (some .int) 0 0 m_X10_creditIn :=
  x_methI (ini := false) (bz := false) (Or.inl ⟨rfl, rfl⟩) ⟨fun h => (by cases h), fun h => (by cases h)⟩ (fun h => by cases h) (by decide) (fun K C => bo_X10_creditIn C)

def lc_X10_brokenIn_1 : XB := (b_cmp r_lt (e_il 3) (e_fld 10 4 (e_al 0)))
def la_X10_brokenIn_1 : XS := (s_iasg 2 (e_bin o_add (e_il 2) (e_tern (b_cmp0 r_ne0 (e_call m_X10_isBroken [(e_al 0), (e_il 1), (e_il 3)])) (e_lit 1) (e_lit 0))))
def lu_X10_brokenIn_1 : XS := (s_inc 3 1)
def bd_X10_brokenIn : XS := (s_seq (s_iasg 2 (e_lit 0))
 (s_seq (s_iasg 3 (e_lit 0))
 (s_seq (s_loop 1000 (lc_X10_brokenIn_1) (la_X10_brokenIn_1) (lu_X10_brokenIn_1))
 (s_ret (e_il 2)))))
def m_X10_brokenIn : XF := xM 10 1 4 false bd_X10_brokenIn
theorem rc_X10_brokenIn : xRecv m_X10_brokenIn 10 1 := xM_recv
set_option maxRecDepth 100000 in
set_option maxHeartbeats 4000000 in
theorem bo_X10_brokenIn {K : XK} (C : xOK K RX10 cX10_brokenIn false false 1 22) : CS K 0 bd_X10_brokenIn 37 0 0 :=
 (cs_seq (p1 := 2) (cs_iasgn (p1 := 1) C (ce_iconst C dX10_brokenIn_0 (by decide)) dX10_brokenIn_1 rfl)
 (cs_seq (p1 := 4) (cs_iasgn (p1 := 3) C (ce_iconst C dX10_brokenIn_2 (by decide)) dX10_brokenIn_3 rfl)
 (cs_seq (p1 := 35) (cs_loop (pB := 12) (pE := 35) (pu := 29) (p2 := 32) C (cc_ltN (p1 := 5) (p2 := 9) C (ce_iln C dX10_brokenIn_4 rfl) (ce_fld C (ce_aln C dX10_brokenIn_5 rfl) dX10_brokenIn_6 fX10_73) dX10_brokenIn_9 (by decide) rfl)
 (cs_iasgn (p1 := 28) C (ce_bin (p1 := 13) (p2 := 27) (ce_iln C dX10_brokenIn_12 rfl) (ce_tern (pT := 22) (pF := 26) (p1 := 23) C (cc_ne0N (p1 := 19) C (ce_call (p1 := 16) (ca_cons (p1 := 14) (ce_aln C dX10_brokenIn_13 rfl) (ca_cons (p1 := 15) (ce_iln C dX10_brokenIn_14 rfl) (ca_cons (p1 := 16) (ce_iln C dX10_brokenIn_15 rfl) ca_nil))) (xCal_V (ci := 10) C dX10_brokenIn_16 wX10_isBroken vX10_163 rfl rfl good_X10_isBroken rc_X10_isBroken (by decide) (by decide)) (by decide)) dX10_brokenIn_19 (by decide) rfl) (ce_iconst C dX10_brokenIn_22 (by decide)) dX10_brokenIn_23 (by decide) (ce_iconst C dX10_brokenIn_26 (by decide))) (ob_add C dX10_brokenIn_27)) dX10_brokenIn_28 rfl)
 (cs_inc C dX10_brokenIn_29 (by decide)) dX10_brokenIn_32 (by decide))
 (cs_ret (p1 := 36) C (ce_iln C dX10_brokenIn_35 rfl) dX10_brokenIn_36))))
theorem good_X10_brokenIn : xGood yX10_brokenIn cX10_brokenIn 4 (some .int) 1 22 m_X10_brokenIn :=
  x_methI (ini := false) (bz := false) (Or.inl ⟨rfl, rfl⟩) ⟨fun h => (by cases h), fun h => (by cases h)⟩ (fun h => by cases h) (by decide) (fun K C => bo_X10_brokenIn C)

def lc_X10_year_1 : XB := (b_cmp r_lt (e_il 4) (e_il 2))
def la_X10_year_1 : XS := (s_seq (s_lasg 5 (e_bin o_ladd (e_bin o_ladd (e_bin o_lmul (e_long 7919) (e_un o_i2l (e_il 1))) (e_bin o_lmul (e_long 6151) (e_un o_i2l (e_il 4)))) (e_long 1)))
 (s_seq (s_iasg 7 (e_un o_l2i (e_bin o_lrem (e_bin o_lmul (e_ll 5) (e_ll 5)) (e_long 65521))))
 (s_seq (s_iasg 8 (e_bin o_rem (e_il 7) (e_fld 10 8 (e_al 0))))
 (s_seq (s_iasg 9 (e_ald 0 (e_fld 10 0 (e_al 0)) (e_bin o_add (e_lit 68) (e_il 8))))
 (s_seq (s_iasg 10 (e_call m_X10_manyAt [(e_al 0), (e_lit 58), (e_il 9)]))
 (s_ite (b_cmp0 r_gt0 (e_il 10)) (s_call m_X10_goes [(e_al 0), (e_lit 58), (e_il 8), (e_call m_X10_nthAt [(e_al 0), (e_lit 58), (e_il 9), (e_bin o_rem (e_bin o_div (e_il 7) (e_lit 4)) (e_il 10))])])
 (s_ite (b_cmp r_ne (e_call m_X10_lowestAt [(e_al 0), (e_il 9)]) (e_lit (-4))) (s_call m_X10_isAnew [(e_al 0), (e_lit 58), (e_call m_X10_lowestAt [(e_al 0), (e_il 9)])])
 s_skip)))))))
def lu_X10_year_1 : XS := (s_inc 4 1)
def bd_X10_year : XS := (s_seq (s_ite (b_or (b_or (b_not (b_cmp0 r_ne0 (e_call m_X10_in [(e_un o_i2l (e_il 1)), (e_long 0), (e_long 9999)]))) (b_not (b_cmp0 r_ne0 (e_call m_X10_in [(e_un o_i2l (e_il 2)), (e_long 1), (e_long 60)])))) (b_not (b_cmp0 r_ne0 (e_call m_X10_in [(e_un o_i2l (e_il 3)), (e_long 0), (e_long 1)])))) (s_ret (e_lit (-1)))
 s_skip)
 (s_seq (s_call m_X10_copy [(e_al 0), (e_lit 0), (e_lit 58)])
 (s_seq (s_iasg 4 (e_lit 0))
 (s_seq (s_loop 1000 (lc_X10_year_1) (la_X10_year_1) (lu_X10_year_1))
 (s_ret (e_tern (b_cmp0 r_eq0 (e_il 3)) (e_call m_X10_creditIn [(e_al 0), (e_lit 58)]) (e_call m_X10_brokenIn [(e_al 0), (e_lit 58)])))))))
def m_X10_year : XF := xM 10 3 11 false bd_X10_year
theorem rc_X10_year : xRecv m_X10_year 10 3 := xM_recv
set_option maxRecDepth 100000 in
set_option maxHeartbeats 4000000 in
theorem bo_X10_year {K : XK} (C : xOK K RX10 cX10_year false false 2 48) : CS K 0 bd_X10_year 193 0 0 :=
 (cs_seq (p1 := 36) (cs_itf (pT := 34) (pF := 36) (cc_or (pM := 24) (cc_or (pM := 12) (cc_not (cc_ne0N (p1 := 9) C (ce_call (p1 := 6) (ca_cons (p1 := 2) (ce_un (ce_iln C dX10_year_0 rfl) (ob_i2l C dX10_year_1)) (ca_cons (p1 := 3) (ce_lconst C dX10_year_2 rfl) (ca_cons (p1 := 6) (ce_ldc2 C dX10_year_3 kX10_243) ca_nil))) (xCal_S C dX10_year_6 wX10_in vX10_69 good_X10_in rc_X10_in (by decide) (by decide)) (by decide)) dX10_year_9 (by decide) rfl)) (cc_not (cc_ne0N (p1 := 21) C (ce_call (p1 := 18) (ca_cons (p1 := 14) (ce_un (ce_iln C dX10_year_12 rfl) (ob_i2l C dX10_year_13)) (ca_cons (p1 := 15) (ce_lconst C dX10_year_14 rfl) (ca_cons (p1 := 18) (ce_ldc2 C dX10_year_15 kX10_245) ca_nil))) (xCal_S C dX10_year_18 wX10_in vX10_69 good_X10_in rc_X10_in (by decide) (by decide)) (by decide)) dX10_year_21 (by decide) rfl))) (cc_not (cc_ne0J (p1 := 31) C (ce_call (p1 := 28) (ca_cons (p1 := 26) (ce_un (ce_iln C dX10_year_24 rfl) (ob_i2l C dX10_year_25)) (ca_cons (p1 := 27) (ce_lconst C dX10_year_26 rfl) (ca_cons (p1 := 28) (ce_lconst C dX10_year_27 rfl) ca_nil))) (xCal_S C dX10_year_28 wX10_in vX10_69 good_X10_in rc_X10_in (by decide) (by decide)) (by decide)) dX10_year_31 (by decide) rfl))) (cs_ret (p1 := 35) C (ce_iconst C dX10_year_34 (by decide)) dX10_year_35)
 cs_skip)
 (cs_seq (p1 := 43) (cs_call (p1 := 40) (ca_cons (p1 := 37) (ce_aln C dX10_year_36 rfl) (ca_cons (p1 := 38) (ce_iconst C dX10_year_37 (by decide)) (ca_cons (p1 := 40) (ce_bipush C dX10_year_38 (by decide)) ca_nil))) (xCal_V (ci := 10) C dX10_year_40 wX10_copy vX10_173 rfl rfl good_X10_copy rc_X10_copy (by decide) (by decide)))
 (cs_seq (p1 := 46) (cs_iasg (p1 := 44) C (ce_iconst C dX10_year_43 (by decide)) dX10_year_44)
 (cs_seq (p1 := 173) (cs_loop (pB := 52) (pE := 173) (pu := 167) (p2 := 170) C (cc_ltN (p1 := 48) (p2 := 49) C (ce_il C dX10_year_46) (ce_iln C dX10_year_48 rfl) dX10_year_49 (by decide) rfl)
 (cs_seq (p1 := 70) (cs_lasg (p1 := 68) C (ce_bin (p1 := 66) (p2 := 67) (ce_bin (p1 := 58) (p2 := 65) (ce_bin (p1 := 55) (p2 := 57) (ce_ldc2 C dX10_year_52 kX10_247) (ce_un (ce_iln C dX10_year_55 rfl) (ob_i2l C dX10_year_56)) (ob_lmul C dX10_year_57)) (ce_bin (p1 := 61) (p2 := 64) (ce_ldc2 C dX10_year_58 kX10_249) (ce_un (ce_il C dX10_year_61) (ob_i2l C dX10_year_63)) (ob_lmul C dX10_year_64)) (ob_ladd C dX10_year_65)) (ce_lconst C dX10_year_66 rfl) (ob_ladd C dX10_year_67)) dX10_year_68)
 (cs_seq (p1 := 82) (cs_iasg (p1 := 80) C (ce_un (ce_bin (p1 := 75) (p2 := 78) (ce_bin (p1 := 72) (p2 := 74) (ce_ll C dX10_year_70) (ce_ll C dX10_year_72) (ob_lmul C dX10_year_74)) (ce_ldc2 C dX10_year_75 kX10_251) (ob_lrem C dX10_year_78)) (ob_l2i C dX10_year_79)) dX10_year_80)
 (cs_seq (p1 := 91) (cs_iasg (p1 := 89) C (ce_bin (p1 := 84) (p2 := 88) (ce_il C dX10_year_82) (ce_fld C (ce_aln C dX10_year_84 rfl) dX10_year_85 fX10_76) (ob_rem C dX10_year_88)) dX10_year_89)
 (cs_seq (p1 := 103) (cs_iasg (p1 := 101) C (ce_iald (p1 := 95) (p2 := 100) C (ce_fld C (ce_aln C dX10_year_91 rfl) dX10_year_92 fX10_7) (ce_bin (p1 := 97) (p2 := 99) (ce_bipush C dX10_year_95 (by decide)) (ce_il C dX10_year_97) (ob_add C dX10_year_99)) dX10_year_100) dX10_year_101)
 (cs_seq (p1 := 113) (cs_iasg (p1 := 111) C (ce_call (p1 := 108) (ca_cons (p1 := 104) (ce_aln C dX10_year_103 rfl) (ca_cons (p1 := 106) (ce_bipush C dX10_year_104 (by decide)) (ca_cons (p1 := 108) (ce_il C dX10_year_106) ca_nil))) (xCal_V (ci := 10) C dX10_year_108 wX10_manyAt vX10_237 rfl rfl good_X10_manyAt rc_X10_manyAt (by decide) (by decide)) (by decide)) dX10_year_111)
 (cs_ite (pT := 118) (pF := 144) (p1 := 141) C (cc_gt0N (p1 := 115) C (ce_il C dX10_year_113) dX10_year_115 (by decide) rfl) (cs_call (p1 := 138) (ca_cons (p1 := 119) (ce_aln C dX10_year_118 rfl) (ca_cons (p1 := 121) (ce_bipush C dX10_year_119 (by decide)) (ca_cons (p1 := 123) (ce_il C dX10_year_121) (ca_cons (p1 := 138) (ce_call (p1 := 135) (ca_cons (p1 := 124) (ce_aln C dX10_year_123 rfl) (ca_cons (p1 := 126) (ce_bipush C dX10_year_124 (by decide)) (ca_cons (p1 := 128) (ce_il C dX10_year_126) (ca_cons (p1 := 135) (ce_bin (p1 := 132) (p2 := 134) (ce_bin (p1 := 130) (p2 := 131) (ce_il C dX10_year_128) (ce_iconst C dX10_year_130 (by decide)) (ob_div C dX10_year_131)) (ce_il C dX10_year_132) (ob_rem C dX10_year_134)) ca_nil)))) (xCal_V (ci := 10) C dX10_year_135 wX10_nthAt vX10_240 rfl rfl good_X10_nthAt rc_X10_nthAt (by decide) (by decide)) (by decide)) ca_nil)))) (xCal_V (ci := 10) C dX10_year_138 wX10_goes vX10_183 rfl rfl good_X10_goes rc_X10_goes (by decide) (by decide))) dX10_year_141 (by decide)
 (cs_itf (pT := 155) (pF := 167) (cc_neN (p1 := 150) (p2 := 152) C (ce_call (p1 := 147) (ca_cons (p1 := 145) (ce_aln C dX10_year_144 rfl) (ca_cons (p1 := 147) (ce_il C dX10_year_145) ca_nil)) (xCal_V (ci := 10) C dX10_year_147 wX10_lowestAt vX10_253 rfl rfl good_X10_lowestAt rc_X10_lowestAt (by decide) (by decide)) (by decide)) (ce_bipush C dX10_year_150 (by decide)) dX10_year_152 (by decide) rfl) (cs_call (p1 := 164) (ca_cons (p1 := 156) (ce_aln C dX10_year_155 rfl) (ca_cons (p1 := 158) (ce_bipush C dX10_year_156 (by decide)) (ca_cons (p1 := 164) (ce_call (p1 := 161) (ca_cons (p1 := 159) (ce_aln C dX10_year_158 rfl) (ca_cons (p1 := 161) (ce_il C dX10_year_159) ca_nil)) (xCal_V (ci := 10) C dX10_year_161 wX10_lowestAt vX10_253 rfl rfl good_X10_lowestAt rc_X10_lowestAt (by decide) (by decide)) (by decide)) ca_nil))) (xCal_V (ci := 10) C dX10_year_164 wX10_isAnew vX10_186 rfl rfl good_X10_isAnew rc_X10_isAnew (by decide) (by decide)))
 cs_skip)))))))
 (cs_inc C dX10_year_167 (by decide)) dX10_year_170 (by decide))
 (cs_ret (p1 := 192) C (ce_tern (pT := 177) (pF := 186) (p1 := 183) C (cc_eq0N (p1 := 174) C (ce_iln C dX10_year_173 rfl) dX10_year_174 (by decide) rfl) (ce_call (p1 := 180) (ca_cons (p1 := 178) (ce_aln C dX10_year_177 rfl) (ca_cons (p1 := 180) (ce_bipush C dX10_year_178 (by decide)) ca_nil)) (xCal_V (ci := 10) C dX10_year_180 wX10_creditIn vX10_256 rfl rfl good_X10_creditIn rc_X10_creditIn (by decide) (by decide)) (by decide)) dX10_year_183 (by decide) (ce_call (p1 := 189) (ca_cons (p1 := 187) (ce_aln C dX10_year_186 rfl) (ca_cons (p1 := 189) (ce_bipush C dX10_year_187 (by decide)) ca_nil)) (xCal_V (ci := 10) C dX10_year_189 wX10_brokenIn vX10_259 rfl rfl good_X10_brokenIn rc_X10_brokenIn (by decide) (by decide)) (by decide))) dX10_year_192)))))
theorem good_X10_year : xGood yX10_year cX10_year 11 (some .int) 2 48 m_X10_year :=
  x_methI (ini := false) (bz := false) (Or.inl ⟨rfl, rfl⟩) ⟨fun h => (by cases h), fun h => (by cases h)⟩ (fun h => by cases h) (by decide) (fun K C => bo_X10_year C)

def bd_X10_keep : XS := (s_seq (s_ite (b_cmp r_eq (e_fld 10 2 (e_al 0)) (e_lit 2)) (s_ret (e_lit (-3)))
 s_skip)
 (s_seq (s_call m_X10_copy [(e_al 0), (e_lit 0), (e_bin o_add (e_lit 116) (e_bin o_mul (e_lit 58) (e_fld 10 2 (e_al 0))))])
 (s_seq (s_putop 10 2 o_add (e_al 0) (e_lit 1))
 (s_ret (e_fld 10 2 (e_al 0))))))
def m_X10_keep : XF := xM 10 0 1 false bd_X10_keep
theorem rc_X10_keep : xRecv m_X10_keep 10 0 := xM_recv
set_option maxRecDepth 100000 in
set_option maxHeartbeats 4000000 in
theorem bo_X10_keep {K : XK} (C : xOK K RX10 cX10_keep false false 1 23) : CS K 0 bd_X10_keep 41 0 0 :=
 (cs_seq (p1 := 11) (cs_itf (pT := 8) (pF := 11) (cc_eqN (p1 := 4) (p2 := 5) C (ce_fld C (ce_aln C dX10_keep_0 rfl) dX10_keep_1 fX10_91) (ce_iconst C dX10_keep_4 (by decide)) dX10_keep_5 (by decide) rfl) (cs_ret (p1 := 10) C (ce_bipush C dX10_keep_8 (by decide)) dX10_keep_10)
 cs_skip)
 (cs_seq (p1 := 26) (cs_call (p1 := 23) (ca_cons (p1 := 12) (ce_aln C dX10_keep_11 rfl) (ca_cons (p1 := 13) (ce_iconst C dX10_keep_12 (by decide)) (ca_cons (p1 := 23) (ce_bin (p1 := 15) (p2 := 22) (ce_bipush C dX10_keep_13 (by decide)) (ce_bin (p1 := 17) (p2 := 21) (ce_bipush C dX10_keep_15 (by decide)) (ce_fld C (ce_aln C dX10_keep_17 rfl) dX10_keep_18 fX10_91) (ob_mul C dX10_keep_21)) (ob_add C dX10_keep_22)) ca_nil))) (xCal_V (ci := 10) C dX10_keep_23 wX10_copy vX10_173 rfl rfl good_X10_copy rc_X10_copy (by decide) (by decide)))
 (cs_seq (p1 := 36) (cs_putop (p1 := 27) (p2 := 32) C (ce_aln C dX10_keep_26 rfl) dX10_keep_27 dX10_keep_28 fX10_91 (ce_iconst C dX10_keep_31 (by decide)) (ob_add C dX10_keep_32) dX10_keep_33 pX10_91_false)
 (cs_ret (p1 := 40) C (ce_fld C (ce_aln C dX10_keep_36 rfl) dX10_keep_37 fX10_91) dX10_keep_40))))
theorem good_X10_keep : xGood yX10_keep cX10_keep 1 (some .int) 1 23 m_X10_keep :=
  x_methI (ini := false) (bz := false) (Or.inl ⟨rfl, rfl⟩) ⟨fun h => (by cases h), fun h => (by cases h)⟩ (fun h => by cases h) (by decide) (fun K C => bo_X10_keep C)

def bd_X10_back : XS := (s_seq (s_ite (b_cmp0 r_eq0 (e_fld 10 2 (e_al 0))) (s_ret (e_lit (-2)))
 s_skip)
 (s_seq (s_putop 10 2 o_sub (e_al 0) (e_lit 1))
 (s_seq (s_call m_X10_copy [(e_al 0), (e_bin o_add (e_lit 116) (e_bin o_mul (e_lit 58) (e_fld 10 2 (e_al 0)))), (e_lit 0)])
 (s_seq (s_put 10 1 0 (e_al 0) (e_lit 0))
 (s_ret (e_fld 10 2 (e_al 0)))))))
def m_X10_back : XF := xM 10 0 1 false bd_X10_back
theorem rc_X10_back : xRecv m_X10_back 10 0 := xM_recv
set_option maxRecDepth 100000 in
set_option maxHeartbeats 4000000 in
theorem bo_X10_back {K : XK} (C : xOK K RX10 cX10_back false false 1 23) : CS K 0 bd_X10_back 45 0 0 :=
 (cs_seq (p1 := 10) (cs_itf (pT := 7) (pF := 10) (cc_eq0N (p1 := 4) C (ce_fld C (ce_aln C dX10_back_0 rfl) dX10_back_1 fX10_91) dX10_back_4 (by decide) rfl) (cs_ret (p1 := 9) C (ce_bipush C dX10_back_7 (by decide)) dX10_back_9)
 cs_skip)
 (cs_seq (p1 := 20) (cs_putop (p1 := 11) (p2 := 16) C (ce_aln C dX10_back_10 rfl) dX10_back_11 dX10_back_12 fX10_91 (ce_iconst C dX10_back_15 (by decide)) (ob_sub C dX10_back_16) dX10_back_17 pX10_91_false)
 (cs_seq (p1 := 35) (cs_call (p1 := 32) (ca_cons (p1 := 21) (ce_aln C dX10_back_20 rfl) (ca_cons (p1 := 31) (ce_bin (p1 := 23) (p2 := 30) (ce_bipush C dX10_back_21 (by decide)) (ce_bin (p1 := 25) (p2 := 29) (ce_bipush C dX10_back_23 (by decide)) (ce_fld C (ce_aln C dX10_back_25 rfl) dX10_back_26 fX10_91) (ob_mul C dX10_back_29)) (ob_add C dX10_back_30)) (ca_cons (p1 := 32) (ce_iconst C dX10_back_31 (by decide)) ca_nil))) (xCal_V (ci := 10) C dX10_back_32 wX10_copy vX10_173 rfl rfl good_X10_copy rc_X10_copy (by decide) (by decide)))
 (cs_seq (p1 := 40) (cs_put (p1 := 36) (p2 := 37) C (ce_aln C dX10_back_35 rfl) (ce_iconst C dX10_back_36 (by decide)) dX10_back_37 pX10_88_false)
 (cs_ret (p1 := 44) C (ce_fld C (ce_aln C dX10_back_40 rfl) dX10_back_41 fX10_91) dX10_back_44)))))
theorem good_X10_back : xGood yX10_back cX10_back 1 (some .int) 1 23 m_X10_back :=
  x_methI (ini := false) (bz := false) (Or.inl ⟨rfl, rfl⟩) ⟨fun h => (by cases h), fun h => (by cases h)⟩ (fun h => by cases h) (by decide) (fun K C => bo_X10_back C)

def lc_X10_wornOfAll_1 : XB := (b_cmp r_lt (e_il 2) (e_fld 10 4 (e_al 0)))
def la_X10_wornOfAll_1 : XS := (s_iasg 1 (e_bin o_add (e_il 1) (e_ald 0 (e_fld 10 0 (e_al 0)) (e_bin o_add (e_lit 1) (e_il 2)))))
def lu_X10_wornOfAll_1 : XS := (s_inc 2 1)
def bd_X10_wornOfAll : XS := (s_seq (s_iasg 1 (e_lit 0))
 (s_seq (s_iasg 2 (e_lit 0))
 (s_seq (s_loop 1000 (lc_X10_wornOfAll_1) (la_X10_wornOfAll_1) (lu_X10_wornOfAll_1))
 (s_ret (e_il 1)))))
def m_X10_wornOfAll : XF := xM 10 0 3 false bd_X10_wornOfAll
theorem rc_X10_wornOfAll : xRecv m_X10_wornOfAll 10 0 := xM_recv
set_option maxRecDepth 100000 in
set_option maxHeartbeats 4000000 in
theorem bo_X10_wornOfAll {K : XK} (C : xOK K RX10 cX10_wornOfAll false false 0 0) : CS K 0 bd_X10_wornOfAll 31 0 0 :=
 (cs_seq (p1 := 2) (cs_iasgn (p1 := 1) C (ce_iconst C dX10_wornOfAll_0 (by decide)) dX10_wornOfAll_1 rfl)
 (cs_seq (p1 := 4) (cs_iasgn (p1 := 3) C (ce_iconst C dX10_wornOfAll_2 (by decide)) dX10_wornOfAll_3 rfl)
 (cs_seq (p1 := 29) (cs_loop (pB := 12) (pE := 29) (pu := 23) (p2 := 26) C (cc_ltN (p1 := 5) (p2 := 9) C (ce_iln C dX10_wornOfAll_4 rfl) (ce_fld C (ce_aln C dX10_wornOfAll_5 rfl) dX10_wornOfAll_6 fX10_73) dX10_wornOfAll_9 (by decide) rfl)
 (cs_iasgn (p1 := 22) C (ce_bin (p1 := 13) (p2 := 21) (ce_iln C dX10_wornOfAll_12 rfl) (ce_iald (p1 := 17) (p2 := 20) C (ce_fld C (ce_aln C dX10_wornOfAll_13 rfl) dX10_wornOfAll_14 fX10_7) (ce_bin (p1 := 18) (p2 := 19) (ce_iconst C dX10_wornOfAll_17 (by decide)) (ce_iln C dX10_wornOfAll_18 rfl) (ob_add C dX10_wornOfAll_19)) dX10_wornOfAll_20) (ob_add C dX10_wornOfAll_21)) dX10_wornOfAll_22 rfl)
 (cs_inc C dX10_wornOfAll_23 (by decide)) dX10_wornOfAll_26 (by decide))
 (cs_ret (p1 := 30) C (ce_iln C dX10_wornOfAll_29 rfl) dX10_wornOfAll_30))))
theorem good_X10_wornOfAll : xGood yX10_wornOfAll cX10_wornOfAll 3 (some .int) 0 0 m_X10_wornOfAll :=
  x_methI (ini := false) (bz := false) (Or.inl ⟨rfl, rfl⟩) ⟨fun h => (by cases h), fun h => (by cases h)⟩ (fun h => by cases h) (by decide) (fun K C => bo_X10_wornOfAll C)

def bd_X10_count : XS := (s_sw (e_il 1) [(0, (s_ret (e_fld 10 3 (e_al 0)))),
 (1, (s_ret (e_fld 10 4 (e_al 0)))),
 (2, (s_ret (e_fld 10 8 (e_al 0)))),
 (3, (s_ret (e_ald 0 (e_fld 10 0 (e_al 0)) (e_lit 0)))),
 (4, (s_ret (e_call m_X10_brokenIn [(e_al 0), (e_lit 0)]))),
 (5, (s_ret (e_call m_X10_wornOfAll [(e_al 0)]))),
 (6, (s_ret (e_call m_X10_creditIn [(e_al 0), (e_lit 0)]))),
 (7, (s_ret (e_fld 10 12 (e_al 0)))),
 (8, (s_ret (e_fld 10 1 (e_al 0)))),
 (9, (s_ret (e_fld 10 2 (e_al 0)))),
 (10, (s_ret (e_fld 10 16 (e_al 0))))]
 (s_ret (e_lit (-1))))
def m_X10_count : XF := xM 10 1 2 false bd_X10_count
theorem rc_X10_count : xRecv m_X10_count 10 1 := xM_recv
set_option maxRecDepth 100000 in
set_option maxHeartbeats 4000000 in
theorem bo_X10_count {K : XK} (C : xOK K RX10 cX10_count false false 2 45) : CS K 0 bd_X10_count 121 0 0 :=
 (cs_table (p1 := 1) (ts := [60, 65, 70, 75, 82, 88, 93, 99, 104, 109, 114]) (td := 119) C (ce_iln C dX10_count_0 rfl) dX10_count_1 (by decide) (by decide) (by decide) (by decide) ⟨(cs_ret (p1 := 64) C (ce_fld C (ce_aln C dX10_count_60 rfl) dX10_count_61 fX10_66) dX10_count_64),
 (cs_ret (p1 := 69) C (ce_fld C (ce_aln C dX10_count_65 rfl) dX10_count_66 fX10_73) dX10_count_69),
 (cs_ret (p1 := 74) C (ce_fld C (ce_aln C dX10_count_70 rfl) dX10_count_71 fX10_76) dX10_count_74),
 (cs_ret (p1 := 81) C (ce_iald (p1 := 79) (p2 := 80) C (ce_fld C (ce_aln C dX10_count_75 rfl) dX10_count_76 fX10_7) (ce_iconst C dX10_count_79 (by decide)) dX10_count_80) dX10_count_81),
 (cs_ret (p1 := 87) C (ce_call (p1 := 84) (ca_cons (p1 := 83) (ce_aln C dX10_count_82 rfl) (ca_cons (p1 := 84) (ce_iconst C dX10_count_83 (by decide)) ca_nil)) (xCal_V (ci := 10) C dX10_count_84 wX10_brokenIn vX10_259 rfl rfl good_X10_brokenIn rc_X10_brokenIn (by decide) (by decide)) (by decide)) dX10_count_87),
 (cs_ret (p1 := 92) C (ce_call (p1 := 89) (ca_cons (p1 := 89) (ce_aln C dX10_count_88 rfl) ca_nil) (xCal_V (ci := 10) C dX10_count_89 wX10_wornOfAll vX10_262 rfl rfl good_X10_wornOfAll rc_X10_wornOfAll (by decide) (by decide)) (by decide)) dX10_count_92),
 (cs_ret (p1 := 98) C (ce_call (p1 := 95) (ca_cons (p1 := 94) (ce_aln C dX10_count_93 rfl) (ca_cons (p1 := 95) (ce_iconst C dX10_count_94 (by decide)) ca_nil)) (xCal_V (ci := 10) C dX10_count_95 wX10_creditIn vX10_256 rfl rfl good_X10_creditIn rc_X10_creditIn (by decide) (by decide)) (by decide)) dX10_count_98),
 (cs_ret (p1 := 103) C (ce_fld C (ce_aln C dX10_count_99 rfl) dX10_count_100 fX10_94) dX10_count_103),
 (cs_ret (p1 := 108) C (ce_fld C (ce_aln C dX10_count_104 rfl) dX10_count_105 fX10_88) dX10_count_108),
 (cs_ret (p1 := 113) C (ce_fld C (ce_aln C dX10_count_109 rfl) dX10_count_110 fX10_91) dX10_count_113),
 (cs_ret (p1 := 118) C (ce_fld C (ce_aln C dX10_count_114 rfl) dX10_count_115 fX10_101) dX10_count_118), trivial⟩
 (cs_ret (p1 := 120) C (ce_iconst C dX10_count_119 (by decide)) dX10_count_120))
theorem good_X10_count : xGood yX10_count cX10_count 2 (some .int) 2 45 m_X10_count :=
  x_methI (ini := false) (bz := false) (Or.inl ⟨rfl, rfl⟩) ⟨fun h => (by cases h), fun h => (by cases h)⟩ (fun h => by cases h) (by decide) (fun K C => bo_X10_count C)

def bd_X10_init : XS := (s_seq s_oinit
 (s_seq (s_put 10 0 2 (e_al 0) (e_newa 0 (e_lit 696)))
 (s_seq (s_put 10 5 2 (e_al 0) (e_newa 0 (e_lit 9)))
 (s_seq (s_put 10 6 2 (e_al 0) (e_newa 0 (e_lit 9)))
 (s_seq (s_put 10 7 2 (e_al 0) (e_newa 0 (e_lit 9)))
 (s_seq (s_put 10 9 2 (e_al 0) (e_newa 0 (e_lit 4)))
 (s_seq (s_put 10 10 2 (e_al 0) (e_newa 0 (e_lit 4)))
 (s_seq (s_put 10 13 2 (e_al 0) (e_newa 0 (e_lit 6)))
 (s_seq (s_put 10 14 2 (e_al 0) (e_newa 0 (e_lit 6)))
 (s_seq (s_put 10 15 2 (e_al 0) (e_newa 0 (e_lit 200)))
 (s_seq (s_put 10 21 2 (e_al 0) (e_newa 0 (e_lit 27)))
 (s_seq (s_put 10 23 2 (e_al 0) (e_newa 0 (e_lit 12)))
 (s_seq (s_put 10 26 2 (e_al 0) (e_newa 0 (e_lit 64)))
 (s_seq (s_put 10 27 2 (e_al 0) (e_newa 0 (e_lit 8)))
 (s_seq (s_put 10 19 0 (e_al 0) (e_lit 6))
 (s_seq (s_call m_X10_addsStile [(e_al 0), (e_lit 0), (e_lit 0), (e_lit 1)])
 (s_seq (s_call m_X10_addsStile [(e_al 0), (e_lit 1), (e_lit 1), (e_lit 2)])
 (s_seq (s_call m_X10_addsStile [(e_al 0), (e_lit 0), (e_lit 2), (e_lit 3)])
 (s_seq (s_call m_X10_addsStile [(e_al 0), (e_lit 2), (e_lit 3), (e_lit 0)])
 (s_seq (s_call m_X10_addsStile [(e_al 0), (e_lit 1), (e_lit 1), (e_lit 4)])
 (s_seq (s_call m_X10_addsStile [(e_al 0), (e_lit 3), (e_lit 4), (e_lit 5)])
 (s_seq (s_call m_X10_addsStile [(e_al 0), (e_lit 0), (e_lit 5), (e_lit 2)])
 (s_seq (s_call m_X10_addsWalker [(e_al 0), (e_lit 0), (e_lit 0), (e_lit 3)])
 (s_seq (s_call m_X10_addsWalker [(e_al 0), (e_lit 1), (e_lit 2), (e_lit 4)])
 (s_seq (s_call m_X10_addsWalker [(e_al 0), (e_lit 2), (e_lit 4), (e_lit 2)])
 (s_seq (s_call m_X10_addsWalker [(e_al 0), (e_lit 3), (e_lit 5), (e_lit 5)])
 (s_seq (s_put 10 24 0 (e_al 0) (e_lit 30))
 (s_seq (s_call m_X10_begins [(e_al 0)])
 s_retV))))))))))))))))))))))))))))
def m_X10_init : XF := xM 10 0 1 true bd_X10_init
theorem rc_X10_init : xRecv m_X10_init 10 0 := xM_recv
set_option maxRecDepth 100000 in
set_option maxHeartbeats 4000000 in
theorem bo_X10_init {K : XK} (C : xOK K RX10 cX10_init true false 1 23) : CS K 0 bd_X10_init 202 0 0 :=
 (cs_seq (p1 := 4) (cs_oinit C dX10_init_0 dX10_init_1 oiX10_1 xW_oi1 xW_oi2 (by decide) (by decide))
 (cs_seq (p1 := 13) (cs_put (p1 := 5) (p2 := 10) C (ce_aln C dX10_init_4 rfl) (ce_newi C (ce_sipush C dX10_init_5 (by decide)) dX10_init_8 xW_arri) dX10_init_10 pX10_7_true)
 (cs_seq (p1 := 21) (cs_put (p1 := 14) (p2 := 18) C (ce_aln C dX10_init_13 rfl) (ce_newi C (ce_bipush C dX10_init_14 (by decide)) dX10_init_16 xW_arri) dX10_init_18 pX10_13_true)
 (cs_seq (p1 := 29) (cs_put (p1 := 22) (p2 := 26) C (ce_aln C dX10_init_21 rfl) (ce_newi C (ce_bipush C dX10_init_22 (by decide)) dX10_init_24 xW_arri) dX10_init_26 pX10_16_true)
 (cs_seq (p1 := 37) (cs_put (p1 := 30) (p2 := 34) C (ce_aln C dX10_init_29 rfl) (ce_newi C (ce_bipush C dX10_init_30 (by decide)) dX10_init_32 xW_arri) dX10_init_34 pX10_19_true)
 (cs_seq (p1 := 44) (cs_put (p1 := 38) (p2 := 41) C (ce_aln C dX10_init_37 rfl) (ce_newi C (ce_iconst C dX10_init_38 (by decide)) dX10_init_39 xW_arri) dX10_init_41 pX10_22_true)
 (cs_seq (p1 := 51) (cs_put (p1 := 45) (p2 := 48) C (ce_aln C dX10_init_44 rfl) (ce_newi C (ce_iconst C dX10_init_45 (by decide)) dX10_init_46 xW_arri) dX10_init_48 pX10_25_true)
 (cs_seq (p1 := 59) (cs_put (p1 := 52) (p2 := 56) C (ce_aln C dX10_init_51 rfl) (ce_newi C (ce_bipush C dX10_init_52 (by decide)) dX10_init_54 xW_arri) dX10_init_56 pX10_28_true)
 (cs_seq (p1 := 67) (cs_put (p1 := 60) (p2 := 64) C (ce_aln C dX10_init_59 rfl) (ce_newi C (ce_bipush C dX10_init_60 (by decide)) dX10_init_62 xW_arri) dX10_init_64 pX10_31_true)
 (cs_seq (p1 := 76) (cs_put (p1 := 68) (p2 := 73) C (ce_aln C dX10_init_67 rfl) (ce_newi C (ce_sipush C dX10_init_68 (by decide)) dX10_init_71 xW_arri) dX10_init_73 pX10_34_true)
 (cs_seq (p1 := 84) (cs_put (p1 := 77) (p2 := 81) C (ce_aln C dX10_init_76 rfl) (ce_newi C (ce_bipush C dX10_init_77 (by decide)) dX10_init_79 xW_arri) dX10_init_81 pX10_37_true)
 (cs_seq (p1 := 92) (cs_put (p1 := 85) (p2 := 89) C (ce_aln C dX10_init_84 rfl) (ce_newi C (ce_bipush C dX10_init_85 (by decide)) dX10_init_87 xW_arri) dX10_init_89 pX10_40_true)
 (cs_seq (p1 := 100) (cs_put (p1 := 93) (p2 := 97) C (ce_aln C dX10_init_92 rfl) (ce_newi C (ce_bipush C dX10_init_93 (by decide)) dX10_init_95 xW_arri) dX10_init_97 pX10_43_true)
 (cs_seq (p1 := 108) (cs_put (p1 := 101) (p2 := 105) C (ce_aln C dX10_init_100 rfl) (ce_newi C (ce_bipush C dX10_init_101 (by decide)) dX10_init_103 xW_arri) dX10_init_105 pX10_46_true)
 (cs_seq (p1 := 114) (cs_put (p1 := 109) (p2 := 111) C (ce_aln C dX10_init_108 rfl) (ce_bipush C dX10_init_109 (by decide)) dX10_init_111 pX10_49_true)
 (cs_seq (p1 := 121) (cs_call (p1 := 118) (ca_cons (p1 := 115) (ce_aln C dX10_init_114 rfl) (ca_cons (p1 := 116) (ce_iconst C dX10_init_115 (by decide)) (ca_cons (p1 := 117) (ce_iconst C dX10_init_116 (by decide)) (ca_cons (p1 := 118) (ce_iconst C dX10_init_117 (by decide)) ca_nil)))) (xCal_V (ci := 10) C dX10_init_118 wX10_addsStile vX10_53 rfl rfl good_X10_addsStile rc_X10_addsStile (by decide) (by decide)))
 (cs_seq (p1 := 128) (cs_call (p1 := 125) (ca_cons (p1 := 122) (ce_aln C dX10_init_121 rfl) (ca_cons (p1 := 123) (ce_iconst C dX10_init_122 (by decide)) (ca_cons (p1 := 124) (ce_iconst C dX10_init_123 (by decide)) (ca_cons (p1 := 125) (ce_iconst C dX10_init_124 (by decide)) ca_nil)))) (xCal_V (ci := 10) C dX10_init_125 wX10_addsStile vX10_53 rfl rfl good_X10_addsStile rc_X10_addsStile (by decide) (by decide)))
 (cs_seq (p1 := 135) (cs_call (p1 := 132) (ca_cons (p1 := 129) (ce_aln C dX10_init_128 rfl) (ca_cons (p1 := 130) (ce_iconst C dX10_init_129 (by decide)) (ca_cons (p1 := 131) (ce_iconst C dX10_init_130 (by decide)) (ca_cons (p1 := 132) (ce_iconst C dX10_init_131 (by decide)) ca_nil)))) (xCal_V (ci := 10) C dX10_init_132 wX10_addsStile vX10_53 rfl rfl good_X10_addsStile rc_X10_addsStile (by decide) (by decide)))
 (cs_seq (p1 := 142) (cs_call (p1 := 139) (ca_cons (p1 := 136) (ce_aln C dX10_init_135 rfl) (ca_cons (p1 := 137) (ce_iconst C dX10_init_136 (by decide)) (ca_cons (p1 := 138) (ce_iconst C dX10_init_137 (by decide)) (ca_cons (p1 := 139) (ce_iconst C dX10_init_138 (by decide)) ca_nil)))) (xCal_V (ci := 10) C dX10_init_139 wX10_addsStile vX10_53 rfl rfl good_X10_addsStile rc_X10_addsStile (by decide) (by decide)))
 (cs_seq (p1 := 149) (cs_call (p1 := 146) (ca_cons (p1 := 143) (ce_aln C dX10_init_142 rfl) (ca_cons (p1 := 144) (ce_iconst C dX10_init_143 (by decide)) (ca_cons (p1 := 145) (ce_iconst C dX10_init_144 (by decide)) (ca_cons (p1 := 146) (ce_iconst C dX10_init_145 (by decide)) ca_nil)))) (xCal_V (ci := 10) C dX10_init_146 wX10_addsStile vX10_53 rfl rfl good_X10_addsStile rc_X10_addsStile (by decide) (by decide)))
 (cs_seq (p1 := 156) (cs_call (p1 := 153) (ca_cons (p1 := 150) (ce_aln C dX10_init_149 rfl) (ca_cons (p1 := 151) (ce_iconst C dX10_init_150 (by decide)) (ca_cons (p1 := 152) (ce_iconst C dX10_init_151 (by decide)) (ca_cons (p1 := 153) (ce_iconst C dX10_init_152 (by decide)) ca_nil)))) (xCal_V (ci := 10) C dX10_init_153 wX10_addsStile vX10_53 rfl rfl good_X10_addsStile rc_X10_addsStile (by decide) (by decide)))
 (cs_seq (p1 := 163) (cs_call (p1 := 160) (ca_cons (p1 := 157) (ce_aln C dX10_init_156 rfl) (ca_cons (p1 := 158) (ce_iconst C dX10_init_157 (by decide)) (ca_cons (p1 := 159) (ce_iconst C dX10_init_158 (by decide)) (ca_cons (p1 := 160) (ce_iconst C dX10_init_159 (by decide)) ca_nil)))) (xCal_V (ci := 10) C dX10_init_160 wX10_addsStile vX10_53 rfl rfl good_X10_addsStile rc_X10_addsStile (by decide) (by decide)))
 (cs_seq (p1 := 170) (cs_call (p1 := 167) (ca_cons (p1 := 164) (ce_aln C dX10_init_163 rfl) (ca_cons (p1 := 165) (ce_iconst C dX10_init_164 (by decide)) (ca_cons (p1 := 166) (ce_iconst C dX10_init_165 (by decide)) (ca_cons (p1 := 167) (ce_iconst C dX10_init_166 (by decide)) ca_nil)))) (xCal_V (ci := 10) C dX10_init_167 wX10_addsWalker vX10_57 rfl rfl good_X10_addsWalker rc_X10_addsWalker (by decide) (by decide)))
 (cs_seq (p1 := 177) (cs_call (p1 := 174) (ca_cons (p1 := 171) (ce_aln C dX10_init_170 rfl) (ca_cons (p1 := 172) (ce_iconst C dX10_init_171 (by decide)) (ca_cons (p1 := 173) (ce_iconst C dX10_init_172 (by decide)) (ca_cons (p1 := 174) (ce_iconst C dX10_init_173 (by decide)) ca_nil)))) (xCal_V (ci := 10) C dX10_init_174 wX10_addsWalker vX10_57 rfl rfl good_X10_addsWalker rc_X10_addsWalker (by decide) (by decide)))
 (cs_seq (p1 := 184) (cs_call (p1 := 181) (ca_cons (p1 := 178) (ce_aln C dX10_init_177 rfl) (ca_cons (p1 := 179) (ce_iconst C dX10_init_178 (by decide)) (ca_cons (p1 := 180) (ce_iconst C dX10_init_179 (by decide)) (ca_cons (p1 := 181) (ce_iconst C dX10_init_180 (by decide)) ca_nil)))) (xCal_V (ci := 10) C dX10_init_181 wX10_addsWalker vX10_57 rfl rfl good_X10_addsWalker rc_X10_addsWalker (by decide) (by decide)))
 (cs_seq (p1 := 191) (cs_call (p1 := 188) (ca_cons (p1 := 185) (ce_aln C dX10_init_184 rfl) (ca_cons (p1 := 186) (ce_iconst C dX10_init_185 (by decide)) (ca_cons (p1 := 187) (ce_iconst C dX10_init_186 (by decide)) (ca_cons (p1 := 188) (ce_iconst C dX10_init_187 (by decide)) ca_nil)))) (xCal_V (ci := 10) C dX10_init_188 wX10_addsWalker vX10_57 rfl rfl good_X10_addsWalker rc_X10_addsWalker (by decide) (by decide)))
 (cs_seq (p1 := 197) (cs_put (p1 := 192) (p2 := 194) C (ce_aln C dX10_init_191 rfl) (ce_bipush C dX10_init_192 (by decide)) dX10_init_194 pX10_60_true)
 (cs_seq (p1 := 201) (cs_call (p1 := 198) (ca_cons (p1 := 198) (ce_aln C dX10_init_197 rfl) ca_nil) (xCal_V (ci := 10) C dX10_init_198 wX10_begins vX10_63 rfl rfl good_X10_begins rc_X10_begins (by decide) (by decide)))
 (cs_retV C dX10_init_201)))))))))))))))))))))))))))))
theorem good_X10_init : xGood yX10_init cX10_init 1 none 1 23 m_X10_init :=
  x_methI (ini := true) (bz := false) (Or.inr (Or.inr rfl)) ⟨fun _ => rfl, fun _ => rfl⟩ (fun _ => rfl) (by decide) (fun K C => bo_X10_init C)
