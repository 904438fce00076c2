/-! the methods, by program out of the sources: the class itself -/
def bd_X9_write : XS := (s_seq (s_ite (b_or (b_cmp r_lt (e_il 1) (e_lit 32)) (b_cmp r_gt (e_il 1) (e_lit 126))) (s_ret (e_lit (-1)))
 s_skip)
 (s_ret (e_tern (b_cmp0 r_ne0 (e_call m_X8_append [(e_fld 9 0 (e_al 0)), (e_un o_i2c (e_il 1))])) (e_fld 8 0 (e_fld 9 0 (e_al 0))) (e_lit (-3)))))
def m_X9_write : XF := xM 9 1 2 false bd_X9_write
theorem rc_X9_write : xRecv m_X9_write 9 1 := xM_recv
set_option maxRecDepth 100000 in
set_option maxHeartbeats 4000000 in
theorem bo_X9_write {K : XK} (C : xOK K RX9 cX9_write false false 1 21) : CS K 0 bd_X9_write 39 0 0 :=
 (cs_seq (p1 := 14) (cs_itf (pT := 12) (pF := 14) (cc_or (pM := 6) (cc_ltJ (p1 := 1) (p2 := 3) C (ce_iln C dX9_write_0 rfl) (ce_bipush C dX9_write_1 (by decide)) dX9_write_3 (by decide) rfl) (cc_gtN (p1 := 7) (p2 := 9) C (ce_iln C dX9_write_6 rfl) (ce_bipush C dX9_write_7 (by decide)) dX9_write_9 (by decide) rfl)) (cs_ret (p1 := 13) C (ce_iconst C dX9_write_12 (by decide)) dX9_write_13)
 cs_skip)
 (cs_ret (p1 := 38) C (ce_tern (pT := 26) (pF := 36) (p1 := 33) C (cc_ne0N (p1 := 23) C (ce_call (p1 := 20) (ca_cons (p1 := 18) (ce_fld C (ce_aln C dX9_write_14 rfl) dX9_write_15 fX9_10) (ca_cons (p1 := 20) (ce_un (ce_iln C dX9_write_18 rfl) (ob_i2c C dX9_write_19)) ca_nil)) (xCal_V (ci := 8) C dX9_write_20 wX8_append vX9_85 rfl rfl good_X8_append rc_X8_append (by decide) (by decide)) (by decide)) dX9_write_23 (by decide) rfl) (ce_fld C (ce_fld C (ce_aln C dX9_write_26 rfl) dX9_write_27 fX9_10) dX9_write_30 fX9_89) dX9_write_33 (by decide) (ce_bipush C dX9_write_36 (by decide))) dX9_write_38))
theorem good_X9_write : xGood yX9_write cX9_write 2 (some .int) 1 21 m_X9_write :=
  x_methI (ini := false) (bz := false) (Or.inl ⟨rfl, rfl⟩) ⟨fun h => (by cases h), fun h => (by cases h)⟩ (fun h => by cases h) (by decide) (fun K C => bo_X9_write C)

def bd_X9_wipe : XS := (s_seq (s_iasg 1 (e_fld 8 0 (e_fld 9 0 (e_al 0))))
 (s_seq (s_put 8 0 0 (e_fld 9 0 (e_al 0)) (e_lit 0))
 (s_ret (e_il 1))))
def m_X9_wipe : XF := xM 9 0 2 false bd_X9_wipe
theorem rc_X9_wipe : xRecv m_X9_wipe 9 0 := xM_recv
set_option maxRecDepth 100000 in
set_option maxHeartbeats 4000000 in
theorem bo_X9_wipe {K : XK} (C : xOK K RX9 cX9_wipe false false 0 0) : CS K 0 bd_X9_wipe 18 0 0 :=
 (cs_seq (p1 := 8) (cs_iasgn (p1 := 7) C (ce_fld C (ce_fld C (ce_aln C dX9_wipe_0 rfl) dX9_wipe_1 fX9_10) dX9_wipe_4 fX9_89) dX9_wipe_7 rfl)
 (cs_seq (p1 := 16) (cs_put (p1 := 12) (p2 := 13) C (ce_fld C (ce_aln C dX9_wipe_8 rfl) dX9_wipe_9 fX9_10) (ce_iconst C dX9_wipe_12 (by decide)) dX9_wipe_13 pX9_89_false)
 (cs_ret (p1 := 17) C (ce_iln C dX9_wipe_16 rfl) dX9_wipe_17)))
theorem good_X9_wipe : xGood yX9_wipe cX9_wipe 2 (some .int) 0 0 m_X9_wipe :=
  x_methI (ini := false) (bz := false) (Or.inl ⟨rfl, rfl⟩) ⟨fun h => (by cases h), fun h => (by cases h)⟩ (fun h => by cases h) (by decide) (fun K C => bo_X9_wipe C)

def bd_X9_fault : XS := (s_ret (e_call m_X8_firstFault [(e_fld 9 0 (e_al 0))]))
def m_X9_fault : XF := xM 9 0 1 false bd_X9_fault
theorem rc_X9_fault : xRecv m_X9_fault 9 0 := xM_recv
set_option maxRecDepth 100000 in
set_option maxHeartbeats 4000000 in
theorem bo_X9_fault {K : XK} (C : xOK K RX9 cX9_fault false false 4 87) : CS K 0 bd_X9_fault 8 0 0 :=
 (cs_ret (p1 := 7) C (ce_call (p1 := 4) (ca_cons (p1 := 4) (ce_fld C (ce_aln C dX9_fault_0 rfl) dX9_fault_1 fX9_10) ca_nil) (xCal_V (ci := 8) C dX9_fault_4 wX8_firstFault vX9_93 rfl rfl good_X8_firstFault rc_X8_firstFault (by decide) (by decide)) (by decide)) dX9_fault_7)
theorem good_X9_fault : xGood yX9_fault cX9_fault 1 (some .int) 4 87 m_X9_fault :=
  x_methI (ini := false) (bz := false) (Or.inl ⟨rfl, rfl⟩) ⟨fun h => (by cases h), fun h => (by cases h)⟩ (fun h => by cases h) (by decide) (fun K C => bo_X9_fault C)

def bd_X9_layTold : XS := (s_seq (s_call m_X4_copyFrom [(e_fld 9 1 (e_al 0)), (e_fld 8 1 (e_fld 9 0 (e_al 0)))])
 (s_seq (s_call m_X6_begin [(e_fld 9 2 (e_al 0))])
 (s_seq (s_put 7 0 0 (e_fld 9 4 (e_al 0)) (e_lit 0))
 (s_seq (s_put 7 0 0 (e_fld 9 5 (e_al 0)) (e_lit 0))
 (s_seq (s_put 5 0 0 (e_fld 9 6 (e_al 0)) (e_lit 0))
 s_retV)))))
def m_X9_layTold : XF := xM 9 0 1 true bd_X9_layTold
theorem rc_X9_layTold : xRecv m_X9_layTold 9 0 := xM_recv
set_option maxRecDepth 100000 in
set_option maxHeartbeats 4000000 in
theorem bo_X9_layTold {K : XK} (C : xOK K RX9 cX9_layTold false false 2 43) : CS K 0 bd_X9_layTold 46 0 0 :=
 (cs_seq (p1 := 14) (cs_call (p1 := 11) (ca_cons (p1 := 4) (ce_fld C (ce_aln C dX9_layTold_0 rfl) dX9_layTold_1 fX9_19) (ca_cons (p1 := 11) (ce_fld C (ce_fld C (ce_aln C dX9_layTold_4 rfl) dX9_layTold_5 fX9_10) dX9_layTold_8 fX9_97) ca_nil)) (xCal_V (ci := 4) C dX9_layTold_11 wX4_copyFrom vX9_284 rfl rfl good_X4_copyFrom rc_X4_copyFrom (by decide) (by decide)))
 (cs_seq (p1 := 21) (cs_call (p1 := 18) (ca_cons (p1 := 18) (ce_fld C (ce_aln C dX9_layTold_14 rfl) dX9_layTold_15 fX9_28) ca_nil) (xCal_V (ci := 6) C dX9_layTold_18 wX6_begin vX9_286 rfl rfl good_X6_begin rc_X6_begin (by decide) (by decide)))
 (cs_seq (p1 := 29) (cs_put (p1 := 25) (p2 := 26) C (ce_fld C (ce_aln C dX9_layTold_21 rfl) dX9_layTold_22 fX9_40) (ce_iconst C dX9_layTold_25 (by decide)) dX9_layTold_26 pX9_177_false)
 (cs_seq (p1 := 37) (cs_put (p1 := 33) (p2 := 34) C (ce_fld C (ce_aln C dX9_layTold_29 rfl) dX9_layTold_30 fX9_44) (ce_iconst C dX9_layTold_33 (by decide)) dX9_layTold_34 pX9_177_false)
 (cs_seq (p1 := 45) (cs_put (p1 := 41) (p2 := 42) C (ce_fld C (ce_aln C dX9_layTold_37 rfl) dX9_layTold_38 fX9_50) (ce_iconst C dX9_layTold_41 (by decide)) dX9_layTold_42 pX9_224_false)
 (cs_retV C dX9_layTold_45))))))
theorem good_X9_layTold : xGood yX9_layTold cX9_layTold 1 none 2 43 m_X9_layTold :=
  x_methI (ini := false) (bz := false) (Or.inr (Or.inr rfl)) ⟨fun _ => rfl, fun _ => rfl⟩ (fun h => by cases h) (by decide) (fun K C => bo_X9_layTold C)

def bd_X9_lay : XS := (s_seq (s_ite (b_or (b_cmp r_ne (e_call m_X8_firstFault [(e_fld 9 0 (e_al 0))]) (e_lit (-4))) (b_cmp0 r_eq0 (e_fld 4 3 (e_fld 8 1 (e_fld 9 0 (e_al 0)))))) (s_ret (e_lit (-2)))
 s_skip)
 (s_seq (s_call m_X9_layTold [(e_al 0)])
 (s_ret (e_fld 4 0 (e_fld 9 1 (e_al 0))))))
def m_X9_lay : XF := xM 9 0 1 false bd_X9_lay
theorem rc_X9_lay : xRecv m_X9_lay 9 0 := xM_recv
set_option maxRecDepth 100000 in
set_option maxHeartbeats 4000000 in
theorem bo_X9_lay {K : XK} (C : xOK K RX9 cX9_lay false false 4 87) : CS K 0 bd_X9_lay 40 0 0 :=
 (cs_seq (p1 := 28) (cs_itf (pT := 25) (pF := 28) (cc_or (pM := 12) (cc_neJ (p1 := 7) (p2 := 9) C (ce_call (p1 := 4) (ca_cons (p1 := 4) (ce_fld C (ce_aln C dX9_lay_0 rfl) dX9_lay_1 fX9_10) ca_nil) (xCal_V (ci := 8) C dX9_lay_4 wX8_firstFault vX9_93 rfl rfl good_X8_firstFault rc_X8_firstFault (by decide) (by decide)) (by decide)) (ce_bipush C dX9_lay_7 (by decide)) dX9_lay_9 (by decide) rfl) (cc_eq0N (p1 := 22) C (ce_fld C (ce_fld C (ce_fld C (ce_aln C dX9_lay_12 rfl) dX9_lay_13 fX9_10) dX9_lay_16 fX9_97) dX9_lay_19 fX9_100) dX9_lay_22 (by decide) rfl)) (cs_ret (p1 := 27) C (ce_bipush C dX9_lay_25 (by decide)) dX9_lay_27)
 cs_skip)
 (cs_seq (p1 := 32) (cs_call (p1 := 29) (ca_cons (p1 := 29) (ce_aln C dX9_lay_28 rfl) ca_nil) (xCal_V (ci := 9) C dX9_lay_29 wX9_layTold vX9_103 rfl rfl good_X9_layTold rc_X9_layTold (by decide) (by decide)))
 (cs_ret (p1 := 39) C (ce_fld C (ce_fld C (ce_aln C dX9_lay_32 rfl) dX9_lay_33 fX9_19) dX9_lay_36 fX9_106) dX9_lay_39)))
theorem good_X9_lay : xGood yX9_lay cX9_lay 1 (some .int) 4 87 m_X9_lay :=
  x_methI (ini := false) (bz := false) (Or.inl ⟨rfl, rfl⟩) ⟨fun h => (by cases h), fun h => (by cases h)⟩ (fun h => by cases h) (by decide) (fun K C => bo_X9_lay C)

def bd_X9_stile : XS := (s_seq (s_ite (b_not (b_cmp0 r_ne0 (e_call m_X4_hasStile [(e_fld 9 1 (e_al 0)), (e_il 1)]))) (s_ret (e_lit (-1)))
 s_skip)
 (s_sw (e_il 2) [(0, (s_ret (e_ald 0 (e_fld 4 4 (e_fld 9 1 (e_al 0))) (e_il 1)))),
 (1, (s_ret (e_ald 0 (e_fld 4 5 (e_fld 9 1 (e_al 0))) (e_il 1)))),
 (2, (s_ret (e_ald 0 (e_fld 4 6 (e_fld 9 1 (e_al 0))) (e_il 1)))),
 (3, (s_ret (e_ald 0 (e_fld 6 1 (e_fld 9 2 (e_al 0))) (e_il 1)))),
 (4, (s_ret (e_tern (b_cmp0 r_ne0 (e_call m_X6_isBroken [(e_fld 9 2 (e_al 0)), (e_il 1)])) (e_lit 1) (e_lit 0))))]
 (s_ret (e_lit (-1)))))
def m_X9_stile : XF := xM 9 2 3 false bd_X9_stile
theorem rc_X9_stile : xRecv m_X9_stile 9 2 := xM_recv
set_option maxRecDepth 100000 in
set_option maxHeartbeats 4000000 in
theorem bo_X9_stile {K : XK} (C : xOK K RX9 cX9_stile false false 1 21) : CS K 0 bd_X9_stile 107 0 0 :=
 (cs_seq (p1 := 13) (cs_itf (pT := 11) (pF := 13) (cc_not (cc_ne0J (p1 := 8) C (ce_call (p1 := 5) (ca_cons (p1 := 4) (ce_fld C (ce_aln C dX9_stile_0 rfl) dX9_stile_1 fX9_19) (ca_cons (p1 := 5) (ce_iln C dX9_stile_4 rfl) ca_nil)) (xCal_V (ci := 4) C dX9_stile_5 wX4_hasStile vX9_109 rfl rfl good_X4_hasStile rc_X4_hasStile (by decide) (by decide)) (by decide)) dX9_stile_8 (by decide) rfl)) (cs_ret (p1 := 12) C (ce_iconst C dX9_stile_11 (by decide)) dX9_stile_12)
 cs_skip)
 (cs_table (p1 := 14) (ts := [48, 58, 68, 78, 88]) (td := 105) C (ce_iln C dX9_stile_13 rfl) dX9_stile_14 (by decide) (by decide) (by decide) (by decide) ⟨(cs_ret (p1 := 57) C (ce_iald (p1 := 55) (p2 := 56) C (ce_fld C (ce_fld C (ce_aln C dX9_stile_48 rfl) dX9_stile_49 fX9_19) dX9_stile_52 fX9_113) (ce_iln C dX9_stile_55 rfl) dX9_stile_56) dX9_stile_57),
 (cs_ret (p1 := 67) C (ce_iald (p1 := 65) (p2 := 66) C (ce_fld C (ce_fld C (ce_aln C dX9_stile_58 rfl) dX9_stile_59 fX9_19) dX9_stile_62 fX9_117) (ce_iln C dX9_stile_65 rfl) dX9_stile_66) dX9_stile_67),
 (cs_ret (p1 := 77) C (ce_iald (p1 := 75) (p2 := 76) C (ce_fld C (ce_fld C (ce_aln C dX9_stile_68 rfl) dX9_stile_69 fX9_19) dX9_stile_72 fX9_120) (ce_iln C dX9_stile_75 rfl) dX9_stile_76) dX9_stile_77),
 (cs_ret (p1 := 87) C (ce_iald (p1 := 85) (p2 := 86) C (ce_fld C (ce_fld C (ce_aln C dX9_stile_78 rfl) dX9_stile_79 fX9_28) dX9_stile_82 fX9_123) (ce_iln C dX9_stile_85 rfl) dX9_stile_86) dX9_stile_87),
 (cs_ret (p1 := 104) C (ce_tern (pT := 99) (pF := 103) (p1 := 100) C (cc_ne0N (p1 := 96) C (ce_call (p1 := 93) (ca_cons (p1 := 92) (ce_fld C (ce_aln C dX9_stile_88 rfl) dX9_stile_89 fX9_28) (ca_cons (p1 := 93) (ce_iln C dX9_stile_92 rfl) ca_nil)) (xCal_V (ci := 6) C dX9_stile_93 wX6_isBroken vX9_126 rfl rfl good_X6_isBroken rc_X6_isBroken (by decide) (by decide)) (by decide)) dX9_stile_96 (by decide) rfl) (ce_iconst C dX9_stile_99 (by decide)) dX9_stile_100 (by decide) (ce_iconst C dX9_stile_103 (by decide))) dX9_stile_104), trivial⟩
 (cs_ret (p1 := 106) C (ce_iconst C dX9_stile_105 (by decide)) dX9_stile_106)))
theorem good_X9_stile : xGood yX9_stile cX9_stile 3 (some .int) 1 21 m_X9_stile :=
  x_methI (ini := false) (bz := false) (Or.inl ⟨rfl, rfl⟩) ⟨fun h => (by cases h), fun h => (by cases h)⟩ (fun h => by cases h) (by decide) (fun K C => bo_X9_stile C)

def bd_X9_walker : XS := (s_seq (s_ite (b_not (b_cmp0 r_ne0 (e_call m_X4_hasWalker [(e_fld 9 1 (e_al 0)), (e_il 1)]))) (s_ret (e_lit (-1)))
 s_skip)
 (s_sw (e_il 2) [(0, (s_ret (e_ald 0 (e_fld 4 7 (e_fld 9 1 (e_al 0))) (e_il 1)))),
 (1, (s_ret (e_ald 0 (e_fld 6 2 (e_fld 9 2 (e_al 0))) (e_il 1)))),
 (2, (s_ret (e_ald 0 (e_fld 4 9 (e_fld 9 1 (e_al 0))) (e_il 1)))),
 (3, (s_ret (e_ald 0 (e_fld 6 3 (e_fld 9 2 (e_al 0))) (e_il 1)))),
 (4, (s_ret (e_tern (b_cmp0 r_ne0 (e_call m_X6_isLevel [(e_fld 9 2 (e_al 0)), (e_il 1)])) (e_lit 1) (e_lit 0)))),
 (5, (s_ret (e_ald 0 (e_fld 6 4 (e_fld 9 2 (e_al 0))) (e_il 1))))]
 (s_ret (e_lit (-1)))))
def m_X9_walker : XF := xM 9 2 3 false bd_X9_walker
theorem rc_X9_walker : xRecv m_X9_walker 9 2 := xM_recv
set_option maxRecDepth 100000 in
set_option maxHeartbeats 4000000 in
theorem bo_X9_walker {K : XK} (C : xOK K RX9 cX9_walker false false 3 66) : CS K 0 bd_X9_walker 121 0 0 :=
 (cs_seq (p1 := 13) (cs_itf (pT := 11) (pF := 13) (cc_not (cc_ne0J (p1 := 8) C (ce_call (p1 := 5) (ca_cons (p1 := 4) (ce_fld C (ce_aln C dX9_walker_0 rfl) dX9_walker_1 fX9_19) (ca_cons (p1 := 5) (ce_iln C dX9_walker_4 rfl) ca_nil)) (xCal_V (ci := 4) C dX9_walker_5 wX4_hasWalker vX9_129 rfl rfl good_X4_hasWalker rc_X4_hasWalker (by decide) (by decide)) (by decide)) dX9_walker_8 (by decide) rfl)) (cs_ret (p1 := 12) C (ce_iconst C dX9_walker_11 (by decide)) dX9_walker_12)
 cs_skip)
 (cs_table (p1 := 14) (ts := [52, 62, 72, 82, 92, 109]) (td := 119) C (ce_iln C dX9_walker_13 rfl) dX9_walker_14 (by decide) (by decide) (by decide) (by decide) ⟨(cs_ret (p1 := 61) C (ce_iald (p1 := 59) (p2 := 60) C (ce_fld C (ce_fld C (ce_aln C dX9_walker_52 rfl) dX9_walker_53 fX9_19) dX9_walker_56 fX9_132) (ce_iln C dX9_walker_59 rfl) dX9_walker_60) dX9_walker_61),
 (cs_ret (p1 := 71) C (ce_iald (p1 := 69) (p2 := 70) C (ce_fld C (ce_fld C (ce_aln C dX9_walker_62 rfl) dX9_walker_63 fX9_28) dX9_walker_66 fX9_135) (ce_iln C dX9_walker_69 rfl) dX9_walker_70) dX9_walker_71),
 (cs_ret (p1 := 81) C (ce_iald (p1 := 79) (p2 := 80) C (ce_fld C (ce_fld C (ce_aln C dX9_walker_72 rfl) dX9_walker_73 fX9_19) dX9_walker_76 fX9_138) (ce_iln C dX9_walker_79 rfl) dX9_walker_80) dX9_walker_81),
 (cs_ret (p1 := 91) C (ce_iald (p1 := 89) (p2 := 90) C (ce_fld C (ce_fld C (ce_aln C dX9_walker_82 rfl) dX9_walker_83 fX9_28) dX9_walker_86 fX9_141) (ce_iln C dX9_walker_89 rfl) dX9_walker_90) dX9_walker_91),
 (cs_ret (p1 := 108) C (ce_tern (pT := 103) (pF := 107) (p1 := 104) C (cc_ne0N (p1 := 100) C (ce_call (p1 := 97) (ca_cons (p1 := 96) (ce_fld C (ce_aln C dX9_walker_92 rfl) dX9_walker_93 fX9_28) (ca_cons (p1 := 97) (ce_iln C dX9_walker_96 rfl) ca_nil)) (xCal_V (ci := 6) C dX9_walker_97 wX6_isLevel vX9_144 rfl rfl good_X6_isLevel rc_X6_isLevel (by decide) (by decide)) (by decide)) dX9_walker_100 (by decide) rfl) (ce_iconst C dX9_walker_103 (by decide)) dX9_walker_104 (by decide) (ce_iconst C dX9_walker_107 (by decide))) dX9_walker_108),
 (cs_ret (p1 := 118) C (ce_iald (p1 := 116) (p2 := 117) C (ce_fld C (ce_fld C (ce_aln C dX9_walker_109 rfl) dX9_walker_110 fX9_28) dX9_walker_113 fX9_147) (ce_iln C dX9_walker_116 rfl) dX9_walker_117) dX9_walker_118), trivial⟩
 (cs_ret (p1 := 120) C (ce_iconst C dX9_walker_119 (by decide)) dX9_walker_120)))
theorem good_X9_walker : xGood yX9_walker cX9_walker 3 (some .int) 3 66 m_X9_walker :=
  x_methI (ini := false) (bz := false) (Or.inl ⟨rfl, rfl⟩) ⟨fun h => (by cases h), fun h => (by cases h)⟩ (fun h => by cases h) (by decide) (fun K C => bo_X9_walker C)

def bd_X9_account : XS := (s_seq (s_ite (b_or (b_not (b_cmp0 r_ne0 (e_call m_X4_hasWalker [(e_fld 9 1 (e_al 0)), (e_il 1)]))) (b_not (b_cmp0 r_ne0 (e_call m_X4_hasStile [(e_fld 9 1 (e_al 0)), (e_il 2)])))) (s_ret (e_lit (-1)))
 s_skip)
 (s_ret (e_bin o_add (e_call m_X6_accountOf [(e_fld 9 2 (e_al 0)), (e_il 1), (e_il 2)]) (e_lit 1000))))
def m_X9_account : XF := xM 9 2 3 false bd_X9_account
theorem rc_X9_account : xRecv m_X9_account 9 2 := xM_recv
set_option maxRecDepth 100000 in
set_option maxHeartbeats 4000000 in
theorem bo_X9_account {K : XK} (C : xOK K RX9 cX9_account false false 1 22) : CS K 0 bd_X9_account 38 0 0 :=
 (cs_seq (p1 := 24) (cs_itf (pT := 22) (pF := 24) (cc_or (pM := 11) (cc_not (cc_ne0N (p1 := 8) C (ce_call (p1 := 5) (ca_cons (p1 := 4) (ce_fld C (ce_aln C dX9_account_0 rfl) dX9_account_1 fX9_19) (ca_cons (p1 := 5) (ce_iln C dX9_account_4 rfl) ca_nil)) (xCal_V (ci := 4) C dX9_account_5 wX4_hasWalker vX9_129 rfl rfl good_X4_hasWalker rc_X4_hasWalker (by decide) (by decide)) (by decide)) dX9_account_8 (by decide) rfl)) (cc_not (cc_ne0J (p1 := 19) C (ce_call (p1 := 16) (ca_cons (p1 := 15) (ce_fld C (ce_aln C dX9_account_11 rfl) dX9_account_12 fX9_19) (ca_cons (p1 := 16) (ce_iln C dX9_account_15 rfl) ca_nil)) (xCal_V (ci := 4) C dX9_account_16 wX4_hasStile vX9_109 rfl rfl good_X4_hasStile rc_X4_hasStile (by decide) (by decide)) (by decide)) dX9_account_19 (by decide) rfl))) (cs_ret (p1 := 23) C (ce_iconst C dX9_account_22 (by decide)) dX9_account_23)
 cs_skip)
 (cs_ret (p1 := 37) C (ce_bin (p1 := 33) (p2 := 36) (ce_call (p1 := 30) (ca_cons (p1 := 28) (ce_fld C (ce_aln C dX9_account_24 rfl) dX9_account_25 fX9_28) (ca_cons (p1 := 29) (ce_iln C dX9_account_28 rfl) (ca_cons (p1 := 30) (ce_iln C dX9_account_29 rfl) ca_nil))) (xCal_V (ci := 6) C dX9_account_30 wX6_accountOf vX9_150 rfl rfl good_X6_accountOf rc_X6_accountOf (by decide) (by decide)) (by decide)) (ce_sipush C dX9_account_33 (by decide)) (ob_add C dX9_account_36)) dX9_account_37))
theorem good_X9_account : xGood yX9_account cX9_account 3 (some .int) 1 22 m_X9_account :=
  x_methI (ini := false) (bz := false) (Or.inl ⟨rfl, rfl⟩) ⟨fun h => (by cases h), fun h => (by cases h)⟩ (fun h => by cases h) (by decide) (fun K C => bo_X9_account C)

def bd_X9_tread : XS := (s_seq (s_ite (b_or (b_not (b_cmp0 r_ne0 (e_call m_X4_hasWalker [(e_fld 9 1 (e_al 0)), (e_il 1)]))) (b_not (b_cmp0 r_ne0 (e_call m_X4_hasStile [(e_fld 9 1 (e_al 0)), (e_il 2)])))) (s_ret (e_lit (-1)))
 s_skip)
 (s_seq (s_ite (b_not (b_cmp0 r_ne0 (e_call m_X6_isOpenAt [(e_fld 9 2 (e_al 0)), (e_il 2), (e_ald 0 (e_fld 6 2 (e_fld 9 2 (e_al 0))) (e_il 1))]))) (s_ret (e_lit (-2)))
 s_skip)
 (s_seq (s_call m_X7_push [(e_fld 9 4 (e_al 0)), (e_fld 9 2 (e_al 0))])
 (s_seq (s_call m_X6_goOver [(e_fld 9 2 (e_al 0)), (e_il 1), (e_il 2)])
 (s_ret (e_ald 0 (e_fld 6 2 (e_fld 9 2 (e_al 0))) (e_il 1)))))))
def m_X9_tread : XF := xM 9 2 3 false bd_X9_tread
theorem rc_X9_tread : xRecv m_X9_tread 9 2 := xM_recv
set_option maxRecDepth 100000 in
set_option maxHeartbeats 4000000 in
theorem bo_X9_tread {K : XK} (C : xOK K RX9 cX9_tread false false 3 65) : CS K 0 bd_X9_tread 77 0 0 :=
 (cs_seq (p1 := 24) (cs_itf (pT := 22) (pF := 24) (cc_or (pM := 11) (cc_not (cc_ne0N (p1 := 8) C (ce_call (p1 := 5) (ca_cons (p1 := 4) (ce_fld C (ce_aln C dX9_tread_0 rfl) dX9_tread_1 fX9_19) (ca_cons (p1 := 5) (ce_iln C dX9_tread_4 rfl) ca_nil)) (xCal_V (ci := 4) C dX9_tread_5 wX4_hasWalker vX9_129 rfl rfl good_X4_hasWalker rc_X4_hasWalker (by decide) (by decide)) (by decide)) dX9_tread_8 (by decide) rfl)) (cc_not (cc_ne0J (p1 := 19) C (ce_call (p1 := 16) (ca_cons (p1 := 15) (ce_fld C (ce_aln C dX9_tread_11 rfl) dX9_tread_12 fX9_19) (ca_cons (p1 := 16) (ce_iln C dX9_tread_15 rfl) ca_nil)) (xCal_V (ci := 4) C dX9_tread_16 wX4_hasStile vX9_109 rfl rfl good_X4_hasStile rc_X4_hasStile (by decide) (by decide)) (by decide)) dX9_tread_19 (by decide) rfl))) (cs_ret (p1 := 23) C (ce_iconst C dX9_tread_22 (by decide)) dX9_tread_23)
 cs_skip)
 (cs_seq (p1 := 47) (cs_itf (pT := 44) (pF := 47) (cc_not (cc_ne0J (p1 := 41) C (ce_call (p1 := 38) (ca_cons (p1 := 28) (ce_fld C (ce_aln C dX9_tread_24 rfl) dX9_tread_25 fX9_28) (ca_cons (p1 := 29) (ce_iln C dX9_tread_28 rfl) (ca_cons (p1 := 38) (ce_iald (p1 := 36) (p2 := 37) C (ce_fld C (ce_fld C (ce_aln C dX9_tread_29 rfl) dX9_tread_30 fX9_28) dX9_tread_33 fX9_135) (ce_iln C dX9_tread_36 rfl) dX9_tread_37) ca_nil))) (xCal_V (ci := 6) C dX9_tread_38 wX6_isOpenAt vX9_154 rfl rfl good_X6_isOpenAt rc_X6_isOpenAt (by decide) (by decide)) (by decide)) dX9_tread_41 (by decide) rfl)) (cs_ret (p1 := 46) C (ce_bipush C dX9_tread_44 (by decide)) dX9_tread_46)
 cs_skip)
 (cs_seq (p1 := 58) (cs_call (p1 := 55) (ca_cons (p1 := 51) (ce_fld C (ce_aln C dX9_tread_47 rfl) dX9_tread_48 fX9_40) (ca_cons (p1 := 55) (ce_fld C (ce_aln C dX9_tread_51 rfl) dX9_tread_52 fX9_28) ca_nil)) (xCal_V (ci := 7) C dX9_tread_55 wX7_push vX9_158 rfl rfl good_X7_push rc_X7_push (by decide) (by decide)))
 (cs_seq (p1 := 67) (cs_call (p1 := 64) (ca_cons (p1 := 62) (ce_fld C (ce_aln C dX9_tread_58 rfl) dX9_tread_59 fX9_28) (ca_cons (p1 := 63) (ce_iln C dX9_tread_62 rfl) (ca_cons (p1 := 64) (ce_iln C dX9_tread_63 rfl) ca_nil))) (xCal_V (ci := 6) C dX9_tread_64 wX6_goOver vX9_162 rfl rfl good_X6_goOver rc_X6_goOver (by decide) (by decide)))
 (cs_ret (p1 := 76) C (ce_iald (p1 := 74) (p2 := 75) C (ce_fld C (ce_fld C (ce_aln C dX9_tread_67 rfl) dX9_tread_68 fX9_28) dX9_tread_71 fX9_135) (ce_iln C dX9_tread_74 rfl) dX9_tread_75) dX9_tread_76)))))
theorem good_X9_tread : xGood yX9_tread cX9_tread 3 (some .int) 3 65 m_X9_tread :=
  x_methI (ini := false) (bz := false) (Or.inl ⟨rfl, rfl⟩) ⟨fun h => (by cases h), fun h => (by cases h)⟩ (fun h => by cases h) (by decide) (fun K C => bo_X9_tread C)

def bd_X9_replace : XS := (s_seq (s_ite (b_not (b_cmp0 r_ne0 (e_call m_X4_hasStile [(e_fld 9 1 (e_al 0)), (e_il 1)]))) (s_ret (e_lit (-1)))
 s_skip)
 (s_seq (s_iasg 2 (e_ald 0 (e_fld 6 1 (e_fld 9 2 (e_al 0))) (e_il 1)))
 (s_seq (s_call m_X7_push [(e_fld 9 4 (e_al 0)), (e_fld 9 2 (e_al 0))])
 (s_seq (s_call m_X6_renew [(e_fld 9 2 (e_al 0)), (e_il 1)])
 (s_ret (e_il 2))))))
def m_X9_replace : XF := xM 9 1 3 false bd_X9_replace
theorem rc_X9_replace : xRecv m_X9_replace 9 1 := xM_recv
set_option maxRecDepth 100000 in
set_option maxHeartbeats 4000000 in
theorem bo_X9_replace {K : XK} (C : xOK K RX9 cX9_replace false false 3 60) : CS K 0 bd_X9_replace 44 0 0 :=
 (cs_seq (p1 := 13) (cs_itf (pT := 11) (pF := 13) (cc_not (cc_ne0J (p1 := 8) C (ce_call (p1 := 5) (ca_cons (p1 := 4) (ce_fld C (ce_aln C dX9_replace_0 rfl) dX9_replace_1 fX9_19) (ca_cons (p1 := 5) (ce_iln C dX9_replace_4 rfl) ca_nil)) (xCal_V (ci := 4) C dX9_replace_5 wX4_hasStile vX9_109 rfl rfl good_X4_hasStile rc_X4_hasStile (by decide) (by decide)) (by decide)) dX9_replace_8 (by decide) rfl)) (cs_ret (p1 := 12) C (ce_iconst C dX9_replace_11 (by decide)) dX9_replace_12)
 cs_skip)
 (cs_seq (p1 := 23) (cs_iasgn (p1 := 22) C (ce_iald (p1 := 20) (p2 := 21) C (ce_fld C (ce_fld C (ce_aln C dX9_replace_13 rfl) dX9_replace_14 fX9_28) dX9_replace_17 fX9_123) (ce_iln C dX9_replace_20 rfl) dX9_replace_21) dX9_replace_22 rfl)
 (cs_seq (p1 := 34) (cs_call (p1 := 31) (ca_cons (p1 := 27) (ce_fld C (ce_aln C dX9_replace_23 rfl) dX9_replace_24 fX9_40) (ca_cons (p1 := 31) (ce_fld C (ce_aln C dX9_replace_27 rfl) dX9_replace_28 fX9_28) ca_nil)) (xCal_V (ci := 7) C dX9_replace_31 wX7_push vX9_158 rfl rfl good_X7_push rc_X7_push (by decide) (by decide)))
 (cs_seq (p1 := 42) (cs_call (p1 := 39) (ca_cons (p1 := 38) (ce_fld C (ce_aln C dX9_replace_34 rfl) dX9_replace_35 fX9_28) (ca_cons (p1 := 39) (ce_iln C dX9_replace_38 rfl) ca_nil)) (xCal_V (ci := 6) C dX9_replace_39 wX6_renew vX9_166 rfl rfl good_X6_renew rc_X6_renew (by decide) (by decide)))
 (cs_ret (p1 := 43) C (ce_iln C dX9_replace_42 rfl) dX9_replace_43)))))
theorem good_X9_replace : xGood yX9_replace cX9_replace 3 (some .int) 3 60 m_X9_replace :=
  x_methI (ini := false) (bz := false) (Or.inl ⟨rfl, rfl⟩) ⟨fun h => (by cases h), fun h => (by cases h)⟩ (fun h => by cases h) (by decide) (fun K C => bo_X9_replace C)

def bd_X9_sand : XS := (s_seq (s_ite (b_not (b_cmp0 r_ne0 (e_call m_X4_hasStile [(e_fld 9 1 (e_al 0)), (e_il 1)]))) (s_ret (e_lit (-1)))
 s_skip)
 (s_seq (s_call m_X7_push [(e_fld 9 4 (e_al 0)), (e_fld 9 2 (e_al 0))])
 (s_seq (s_call m_X6_wearBy [(e_fld 9 2 (e_al 0)), (e_il 1), (e_lit 5)])
 (s_ret (e_ald 0 (e_fld 6 1 (e_fld 9 2 (e_al 0))) (e_il 1))))))
def m_X9_sand : XF := xM 9 1 2 false bd_X9_sand
theorem rc_X9_sand : xRecv m_X9_sand 9 1 := xM_recv
set_option maxRecDepth 100000 in
set_option maxHeartbeats 4000000 in
theorem bo_X9_sand {K : XK} (C : xOK K RX9 cX9_sand false false 3 60) : CS K 0 bd_X9_sand 43 0 0 :=
 (cs_seq (p1 := 13) (cs_itf (pT := 11) (pF := 13) (cc_not (cc_ne0J (p1 := 8) C (ce_call (p1 := 5) (ca_cons (p1 := 4) (ce_fld C (ce_aln C dX9_sand_0 rfl) dX9_sand_1 fX9_19) (ca_cons (p1 := 5) (ce_iln C dX9_sand_4 rfl) ca_nil)) (xCal_V (ci := 4) C dX9_sand_5 wX4_hasStile vX9_109 rfl rfl good_X4_hasStile rc_X4_hasStile (by decide) (by decide)) (by decide)) dX9_sand_8 (by decide) rfl)) (cs_ret (p1 := 12) C (ce_iconst C dX9_sand_11 (by decide)) dX9_sand_12)
 cs_skip)
 (cs_seq (p1 := 24) (cs_call (p1 := 21) (ca_cons (p1 := 17) (ce_fld C (ce_aln C dX9_sand_13 rfl) dX9_sand_14 fX9_40) (ca_cons (p1 := 21) (ce_fld C (ce_aln C dX9_sand_17 rfl) dX9_sand_18 fX9_28) ca_nil)) (xCal_V (ci := 7) C dX9_sand_21 wX7_push vX9_158 rfl rfl good_X7_push rc_X7_push (by decide) (by decide)))
 (cs_seq (p1 := 33) (cs_call (p1 := 30) (ca_cons (p1 := 28) (ce_fld C (ce_aln C dX9_sand_24 rfl) dX9_sand_25 fX9_28) (ca_cons (p1 := 29) (ce_iln C dX9_sand_28 rfl) (ca_cons (p1 := 30) (ce_iconst C dX9_sand_29 (by decide)) ca_nil))) (xCal_V (ci := 6) C dX9_sand_30 wX6_wearBy vX9_170 rfl rfl good_X6_wearBy rc_X6_wearBy (by decide) (by decide)))
 (cs_ret (p1 := 42) C (ce_iald (p1 := 40) (p2 := 41) C (ce_fld C (ce_fld C (ce_aln C dX9_sand_33 rfl) dX9_sand_34 fX9_28) dX9_sand_37 fX9_123) (ce_iln C dX9_sand_40 rfl) dX9_sand_41) dX9_sand_42))))
theorem good_X9_sand : xGood yX9_sand cX9_sand 2 (some .int) 3 60 m_X9_sand :=
  x_methI (ini := false) (bz := false) (Or.inl ⟨rfl, rfl⟩) ⟨fun h => (by cases h), fun h => (by cases h)⟩ (fun h => by cases h) (by decide) (fun K C => bo_X9_sand C)

def bd_X9_undo : XS := (s_ret (e_tern (b_cmp0 r_ne0 (e_call m_X7_popInto [(e_fld 9 4 (e_al 0)), (e_fld 9 2 (e_al 0))])) (e_fld 7 0 (e_fld 9 4 (e_al 0))) (e_lit (-2))))
def m_X9_undo : XF := xM 9 0 1 false bd_X9_undo
theorem rc_X9_undo : xRecv m_X9_undo 9 0 := xM_recv
set_option maxRecDepth 100000 in
set_option maxHeartbeats 4000000 in
theorem bo_X9_undo {K : XK} (C : xOK K RX9 cX9_undo false false 3 60) : CS K 0 bd_X9_undo 27 0 0 :=
 (cs_ret (p1 := 26) C (ce_tern (pT := 14) (pF := 24) (p1 := 21) C (cc_ne0N (p1 := 11) C (ce_call (p1 := 8) (ca_cons (p1 := 4) (ce_fld C (ce_aln C dX9_undo_0 rfl) dX9_undo_1 fX9_40) (ca_cons (p1 := 8) (ce_fld C (ce_aln C dX9_undo_4 rfl) dX9_undo_5 fX9_28) ca_nil)) (xCal_V (ci := 7) C dX9_undo_8 wX7_popInto vX9_173 rfl rfl good_X7_popInto rc_X7_popInto (by decide) (by decide)) (by decide)) dX9_undo_11 (by decide) rfl) (ce_fld C (ce_fld C (ce_aln C dX9_undo_14 rfl) dX9_undo_15 fX9_40) dX9_undo_18 fX9_177) dX9_undo_21 (by decide) (ce_bipush C dX9_undo_24 (by decide))) dX9_undo_26)
theorem good_X9_undo : xGood yX9_undo cX9_undo 1 (some .int) 3 60 m_X9_undo :=
  x_methI (ini := false) (bz := false) (Or.inl ⟨rfl, rfl⟩) ⟨fun h => (by cases h), fun h => (by cases h)⟩ (fun h => by cases h) (by decide) (fun K C => bo_X9_undo C)

def lc_X9_firstStile_1 : XB := (b_cmp r_lt (e_il 4) (e_fld 4 2 (e_fld 9 1 (e_al 0))))
def la_X9_firstStile_1 : XS := (s_ite (b_and (b_cmp0 r_ne0 (e_call m_X6_isOpenAt [(e_fld 9 2 (e_al 0)), (e_il 4), (e_il 1)])) (b_cmp r_eq (e_call m_X0_between [(e_fld 9 7 (e_al 0)), (e_call m_X4_across [(e_fld 9 1 (e_al 0)), (e_il 4), (e_il 1)]), (e_il 2)]) (e_bin o_sub (e_il 3) (e_lit 1)))) (s_ret (e_il 4))
 s_skip)
def lu_X9_firstStile_1 : XS := (s_inc 4 1)
def bd_X9_firstStile : XS := (s_seq (s_iasg 3 (e_call m_X0_between [(e_fld 9 7 (e_al 0)), (e_il 1), (e_il 2)]))
 (s_seq (s_ite (b_cmp r_eq (e_il 3) (e_lit 20)) (s_ret (e_lit (-4)))
 s_skip)
 (s_seq (s_iasg 4 (e_lit 0))
 (s_seq (s_loop 1000 (lc_X9_firstStile_1) (la_X9_firstStile_1) (lu_X9_firstStile_1))
 (s_ret (e_lit (-4)))))))
def m_X9_firstStile : XF := xM 9 2 5 false bd_X9_firstStile
theorem rc_X9_firstStile : xRecv m_X9_firstStile 9 2 := xM_recv
set_option maxRecDepth 100000 in
set_option maxHeartbeats 4000000 in
theorem bo_X9_firstStile {K : XK} (C : xOK K RX9 cX9_firstStile false false 2 44) : CS K 0 bd_X9_firstStile 83 0 0 :=
 (cs_seq (p1 := 10) (cs_iasgn (p1 := 9) C (ce_call (p1 := 6) (ca_cons (p1 := 4) (ce_fld C (ce_aln C dX9_firstStile_0 rfl) dX9_firstStile_1 fX9_57) (ca_cons (p1 := 5) (ce_iln C dX9_firstStile_4 rfl) (ca_cons (p1 := 6) (ce_iln C dX9_firstStile_5 rfl) ca_nil))) (xCal_V (ci := 0) C dX9_firstStile_6 wX0_between vX9_189 rfl rfl good_X0_between rc_X0_between (by decide) (by decide)) (by decide)) dX9_firstStile_9 rfl)
 (cs_seq (p1 := 19) (cs_itf (pT := 16) (pF := 19) (cc_eqN (p1 := 11) (p2 := 13) C (ce_iln C dX9_firstStile_10 rfl) (ce_bipush C dX9_firstStile_11 (by decide)) dX9_firstStile_13 (by decide) rfl) (cs_ret (p1 := 18) C (ce_bipush C dX9_firstStile_16 (by decide)) dX9_firstStile_18)
 cs_skip)
 (cs_seq (p1 := 22) (cs_iasg (p1 := 20) C (ce_iconst C dX9_firstStile_19 (by decide)) dX9_firstStile_20)
 (cs_seq (p1 := 80) (cs_loop (pB := 34) (pE := 80) (pu := 74) (p2 := 77) C (cc_ltN (p1 := 24) (p2 := 31) C (ce_il C dX9_firstStile_22) (ce_fld C (ce_fld C (ce_aln C dX9_firstStile_24 rfl) dX9_firstStile_25 fX9_19) dX9_firstStile_28 fX9_265) dX9_firstStile_31 (by decide) rfl)
 (cs_itf (pT := 71) (pF := 74) (cc_and (pM := 47) (cc_ne0N (p1 := 44) C (ce_call (p1 := 41) (ca_cons (p1 := 38) (ce_fld C (ce_aln C dX9_firstStile_34 rfl) dX9_firstStile_35 fX9_28) (ca_cons (p1 := 40) (ce_il C dX9_firstStile_38) (ca_cons (p1 := 41) (ce_iln C dX9_firstStile_40 rfl) ca_nil))) (xCal_V (ci := 6) C dX9_firstStile_41 wX6_isOpenAt vX9_154 rfl rfl good_X6_isOpenAt rc_X6_isOpenAt (by decide) (by decide)) (by decide)) dX9_firstStile_44 (by decide) rfl) (cc_eqN (p1 := 65) (p2 := 68) C (ce_call (p1 := 62) (ca_cons (p1 := 51) (ce_fld C (ce_aln C dX9_firstStile_47 rfl) dX9_firstStile_48 fX9_57) (ca_cons (p1 := 61) (ce_call (p1 := 58) (ca_cons (p1 := 55) (ce_fld C (ce_aln C dX9_firstStile_51 rfl) dX9_firstStile_52 fX9_19) (ca_cons (p1 := 57) (ce_il C dX9_firstStile_55) (ca_cons (p1 := 58) (ce_iln C dX9_firstStile_57 rfl) ca_nil))) (xCal_V (ci := 4) C dX9_firstStile_58 wX4_across vX9_289 rfl rfl good_X4_across rc_X4_across (by decide) (by decide)) (by decide)) (ca_cons (p1 := 62) (ce_iln C dX9_firstStile_61 rfl) ca_nil))) (xCal_V (ci := 0) C dX9_firstStile_62 wX0_between vX9_189 rfl rfl good_X0_between rc_X0_between (by decide) (by decide)) (by decide)) (ce_bin (p1 := 66) (p2 := 67) (ce_iln C dX9_firstStile_65 rfl) (ce_iconst C dX9_firstStile_66 (by decide)) (ob_sub C dX9_firstStile_67)) dX9_firstStile_68 (by decide) rfl)) (cs_ret (p1 := 73) C (ce_il C dX9_firstStile_71) dX9_firstStile_73)
 cs_skip)
 (cs_inc C dX9_firstStile_74 (by decide)) dX9_firstStile_77 (by decide))
 (cs_ret (p1 := 82) C (ce_bipush C dX9_firstStile_80 (by decide)) dX9_firstStile_82)))))
theorem good_X9_firstStile : xGood yX9_firstStile cX9_firstStile 5 (some .int) 2 44 m_X9_firstStile :=
  x_methI (ini := false) (bz := false) (Or.inl ⟨rfl, rfl⟩) ⟨fun h => (by cases h), fun h => (by cases h)⟩ (fun h => by cases h) (by decide) (fun K C => bo_X9_firstStile C)

def bd_X9_way : XS := (s_seq (s_ite (b_or (b_or (b_or (b_not (b_cmp0 r_ne0 (e_call m_X4_hasWalker [(e_fld 9 1 (e_al 0)), (e_il 1)]))) (b_not (b_cmp0 r_ne0 (e_call m_X4_hasField [(e_fld 9 1 (e_al 0)), (e_il 2)])))) (b_cmp0 r_lt0 (e_il 3))) (b_cmp r_gt (e_il 3) (e_lit 1))) (s_ret (e_lit (-1)))
 s_skip)
 (s_seq (s_call m_X0_take [(e_fld 9 7 (e_al 0)), (e_fld 9 2 (e_al 0))])
 (s_seq (s_iasg 4 (e_ald 0 (e_fld 6 2 (e_fld 9 2 (e_al 0))) (e_il 1)))
 (s_seq (s_ite (b_cmp r_eq (e_il 3) (e_lit 1)) (s_ret (e_call m_X9_firstStile [(e_al 0), (e_il 4), (e_il 2)]))
 s_skip)
 (s_seq (s_iasg 5 (e_call m_X0_between [(e_fld 9 7 (e_al 0)), (e_il 4), (e_il 2)]))
 (s_ret (e_tern (b_cmp r_eq (e_il 5) (e_lit 20)) (e_lit (-4)) (e_il 5))))))))
def m_X9_way : XF := xM 9 3 6 false bd_X9_way
theorem rc_X9_way : xRecv m_X9_way 9 3 := xM_recv
set_option maxRecDepth 100000 in
set_option maxHeartbeats 4000000 in
theorem bo_X9_way {K : XK} (C : xOK K RX9 cX9_way false false 3 69) : CS K 0 bd_X9_way 95 0 0 :=
 (cs_seq (p1 := 33) (cs_itf (pT := 31) (pF := 33) (cc_or (pM := 26) (cc_or (pM := 22) (cc_or (pM := 11) (cc_not (cc_ne0N (p1 := 8) C (ce_call (p1 := 5) (ca_cons (p1 := 4) (ce_fld C (ce_aln C dX9_way_0 rfl) dX9_way_1 fX9_19) (ca_cons (p1 := 5) (ce_iln C dX9_way_4 rfl) ca_nil)) (xCal_V (ci := 4) C dX9_way_5 wX4_hasWalker vX9_129 rfl rfl good_X4_hasWalker rc_X4_hasWalker (by decide) (by decide)) (by decide)) dX9_way_8 (by decide) rfl)) (cc_not (cc_ne0N (p1 := 19) C (ce_call (p1 := 16) (ca_cons (p1 := 15) (ce_fld C (ce_aln C dX9_way_11 rfl) dX9_way_12 fX9_19) (ca_cons (p1 := 16) (ce_iln C dX9_way_15 rfl) ca_nil)) (xCal_V (ci := 4) C dX9_way_16 wX4_hasField vX9_180 rfl rfl good_X4_hasField rc_X4_hasField (by decide) (by decide)) (by decide)) dX9_way_19 (by decide) rfl))) (cc_lt0J (p1 := 23) C (ce_iln C dX9_way_22 rfl) dX9_way_23 (by decide) rfl)) (cc_gtN (p1 := 27) (p2 := 28) C (ce_iln C dX9_way_26 rfl) (ce_iconst C dX9_way_27 (by decide)) dX9_way_28 (by decide) rfl)) (cs_ret (p1 := 32) C (ce_iconst C dX9_way_31 (by decide)) dX9_way_32)
 cs_skip)
 (cs_seq (p1 := 44) (cs_call (p1 := 41) (ca_cons (p1 := 37) (ce_fld C (ce_aln C dX9_way_33 rfl) dX9_way_34 fX9_57) (ca_cons (p1 := 41) (ce_fld C (ce_aln C dX9_way_37 rfl) dX9_way_38 fX9_28) ca_nil)) (xCal_V (ci := 0) C dX9_way_41 wX0_take vX9_183 rfl rfl good_X0_take rc_X0_take (by decide) (by decide)))
 (cs_seq (p1 := 55) (cs_iasg (p1 := 53) C (ce_iald (p1 := 51) (p2 := 52) C (ce_fld C (ce_fld C (ce_aln C dX9_way_44 rfl) dX9_way_45 fX9_28) dX9_way_48 fX9_135) (ce_iln C dX9_way_51 rfl) dX9_way_52) dX9_way_53)
 (cs_seq (p1 := 68) (cs_itf (pT := 60) (pF := 68) (cc_eqN (p1 := 56) (p2 := 57) C (ce_iln C dX9_way_55 rfl) (ce_iconst C dX9_way_56 (by decide)) dX9_way_57 (by decide) rfl) (cs_ret (p1 := 67) C (ce_call (p1 := 64) (ca_cons (p1 := 61) (ce_aln C dX9_way_60 rfl) (ca_cons (p1 := 63) (ce_il C dX9_way_61) (ca_cons (p1 := 64) (ce_iln C dX9_way_63 rfl) ca_nil))) (xCal_V (ci := 9) C dX9_way_64 wX9_firstStile vX9_186 rfl rfl good_X9_firstStile rc_X9_firstStile (by decide) (by decide)) (by decide)) dX9_way_67)
 cs_skip)
 (cs_seq (p1 := 80) (cs_iasg (p1 := 78) C (ce_call (p1 := 75) (ca_cons (p1 := 72) (ce_fld C (ce_aln C dX9_way_68 rfl) dX9_way_69 fX9_57) (ca_cons (p1 := 74) (ce_il C dX9_way_72) (ca_cons (p1 := 75) (ce_iln C dX9_way_74 rfl) ca_nil))) (xCal_V (ci := 0) C dX9_way_75 wX0_between vX9_189 rfl rfl good_X0_between rc_X0_between (by decide) (by decide)) (by decide)) dX9_way_78)
 (cs_ret (p1 := 94) C (ce_tern (pT := 87) (pF := 92) (p1 := 89) C (cc_eqN (p1 := 82) (p2 := 84) C (ce_il C dX9_way_80) (ce_bipush C dX9_way_82 (by decide)) dX9_way_84 (by decide) rfl) (ce_bipush C dX9_way_87 (by decide)) dX9_way_89 (by decide) (ce_il C dX9_way_92)) dX9_way_94))))))
theorem good_X9_way : xGood yX9_way cX9_way 6 (some .int) 3 69 m_X9_way :=
  x_methI (ini := false) (bz := false) (Or.inl ⟨rfl, rfl⟩) ⟨fun h => (by cases h), fun h => (by cases h)⟩ (fun h => by cases h) (by decide) (fun K C => bo_X9_way C)

def bd_X9_even : XS := (s_seq (s_ite (b_not (b_cmp0 r_ne0 (e_call m_X4_hasWalker [(e_fld 9 1 (e_al 0)), (e_il 1)]))) (s_ret (e_lit (-1)))
 s_skip)
 (s_ret (e_call m_X2_fewestTreads [(e_fld 9 8 (e_al 0)), (e_fld 9 2 (e_al 0)), (e_il 1)])))
def m_X9_even : XF := xM 9 1 2 false bd_X9_even
theorem rc_X9_even : xRecv m_X9_even 9 1 := xM_recv
set_option maxRecDepth 100000 in
set_option maxHeartbeats 4000000 in
theorem bo_X9_even {K : XK} (C : xOK K RX9 cX9_even false false 3 79) : CS K 0 bd_X9_even 26 0 0 :=
 (cs_seq (p1 := 13) (cs_itf (pT := 11) (pF := 13) (cc_not (cc_ne0J (p1 := 8) C (ce_call (p1 := 5) (ca_cons (p1 := 4) (ce_fld C (ce_aln C dX9_even_0 rfl) dX9_even_1 fX9_19) (ca_cons (p1 := 5) (ce_iln C dX9_even_4 rfl) ca_nil)) (xCal_V (ci := 4) C dX9_even_5 wX4_hasWalker vX9_129 rfl rfl good_X4_hasWalker rc_X4_hasWalker (by decide) (by decide)) (by decide)) dX9_even_8 (by decide) rfl)) (cs_ret (p1 := 12) C (ce_iconst C dX9_even_11 (by decide)) dX9_even_12)
 cs_skip)
 (cs_ret (p1 := 25) C (ce_call (p1 := 22) (ca_cons (p1 := 17) (ce_fld C (ce_aln C dX9_even_13 rfl) dX9_even_14 fX9_64) (ca_cons (p1 := 21) (ce_fld C (ce_aln C dX9_even_17 rfl) dX9_even_18 fX9_28) (ca_cons (p1 := 22) (ce_iln C dX9_even_21 rfl) ca_nil))) (xCal_V (ci := 2) C dX9_even_22 wX2_fewestTreads vX9_192 rfl rfl good_X2_fewestTreads rc_X2_fewestTreads (by decide) (by decide)) (by decide)) dX9_even_25))
theorem good_X9_even : xGood yX9_even cX9_even 2 (some .int) 3 79 m_X9_even :=
  x_methI (ini := false) (bz := false) (Or.inl ⟨rfl, rfl⟩) ⟨fun h => (by cases h), fun h => (by cases h)⟩ (fun h => by cases h) (by decide) (fun K C => bo_X9_even C)

def bd_X9_measure : XS := (s_seq (s_ite (b_or (b_cmp0 r_lt0 (e_il 1)) (b_cmp r_gt (e_il 1) (e_lit 1))) (s_ret (e_lit (-1)))
 s_skip)
 (s_seq (s_iasg 2 (e_call m_X3_fewestStiles [(e_fld 9 9 (e_al 0)), (e_fld 9 2 (e_al 0))]))
 (s_ret (e_tern (b_cmp0 r_eq0 (e_il 1)) (e_il 2) (e_call m_J6_bitCount_0f7a4 [(e_il 2)])))))
def m_X9_measure : XF := xM 9 1 3 false bd_X9_measure
theorem rc_X9_measure : xRecv m_X9_measure 9 1 := xM_recv
set_option maxRecDepth 100000 in
set_option maxHeartbeats 4000000 in
theorem bo_X9_measure {K : XK} (C : xOK K RX9 cX9_measure false false 3 70) : CS K 0 bd_X9_measure 36 0 0 :=
 (cs_seq (p1 := 11) (cs_itf (pT := 9) (pF := 11) (cc_or (pM := 4) (cc_lt0J (p1 := 1) C (ce_iln C dX9_measure_0 rfl) dX9_measure_1 (by decide) rfl) (cc_gtN (p1 := 5) (p2 := 6) C (ce_iln C dX9_measure_4 rfl) (ce_iconst C dX9_measure_5 (by decide)) dX9_measure_6 (by decide) rfl)) (cs_ret (p1 := 10) C (ce_iconst C dX9_measure_9 (by decide)) dX9_measure_10)
 cs_skip)
 (cs_seq (p1 := 23) (cs_iasgn (p1 := 22) C (ce_call (p1 := 19) (ca_cons (p1 := 15) (ce_fld C (ce_aln C dX9_measure_11 rfl) dX9_measure_12 fX9_71) (ca_cons (p1 := 19) (ce_fld C (ce_aln C dX9_measure_15 rfl) dX9_measure_16 fX9_28) ca_nil)) (xCal_V (ci := 3) C dX9_measure_19 wX3_fewestStiles vX9_196 rfl rfl good_X3_fewestStiles rc_X3_fewestStiles (by decide) (by decide)) (by decide)) dX9_measure_22 rfl)
 (cs_ret (p1 := 35) C (ce_tern (pT := 27) (pF := 31) (p1 := 28) C (cc_eq0N (p1 := 24) C (ce_iln C dX9_measure_23 rfl) dX9_measure_24 (by decide) rfl) (ce_iln C dX9_measure_27 rfl) dX9_measure_28 (by decide) (ce_call (p1 := 32) (ca_cons (p1 := 32) (ce_iln C dX9_measure_31 rfl) ca_nil) (xCal_S C dX9_measure_32 wJ6_bitCount_0f7a4 vX9_200 good_J6_bitCount_0f7a4 rc_J6_bitCount_0f7a4 (by decide) (by decide)) (by decide))) dX9_measure_35)))
theorem good_X9_measure : xGood yX9_measure cX9_measure 3 (some .int) 3 70 m_X9_measure :=
  x_methI (ini := false) (bz := false) (Or.inl ⟨rfl, rfl⟩) ⟨fun h => (by cases h), fun h => (by cases h)⟩ (fun h => by cases h) (by decide) (fun K C => bo_X9_measure C)

def lc_X9_bestNewPair_1 : XB := (b_cmp r_lt (e_il 4) (e_fld 4 0 (e_fld 9 1 (e_al 0))))
def la_X9_bestNewPair_1 : XS := (s_seq (s_ite (b_cmp0 r_ne0 (e_call m_X4_hasStileBetween [(e_fld 9 1 (e_al 0)), (e_il 3), (e_il 4)])) s_cont
 s_skip)
 (s_seq (s_iasg 5 (e_call m_X0_sumWith [(e_fld 9 7 (e_al 0)), (e_il 3), (e_il 4)]))
 (s_ite (b_or (b_cmp r_eq (e_il 1) (e_lit (-4))) (b_cmp r_lt (e_il 5) (e_il 2))) (s_seq (s_iasg 1 (e_bin o_add (e_bin o_mul (e_lit 10) (e_il 3)) (e_il 4)))
 (s_iasg 2 (e_il 5)))
 s_skip)))
def lu_X9_bestNewPair_1 : XS := (s_inc 4 1)
def lc_X9_bestNewPair_2 : XB := (b_cmp r_lt (e_il 3) (e_fld 4 0 (e_fld 9 1 (e_al 0))))
def la_X9_bestNewPair_2 : XS := (s_seq (s_iasg 4 (e_bin o_add (e_il 3) (e_lit 1)))
 (s_loop 1000 (lc_X9_bestNewPair_1) (la_X9_bestNewPair_1) (lu_X9_bestNewPair_1)))
def lu_X9_bestNewPair_2 : XS := (s_inc 3 1)
def bd_X9_bestNewPair : XS := (s_seq (s_iasg 1 (e_lit (-4)))
 (s_seq (s_iasg 2 (e_lit 0))
 (s_seq (s_iasg 3 (e_lit 0))
 (s_seq (s_loop 1000 (lc_X9_bestNewPair_2) (la_X9_bestNewPair_2) (lu_X9_bestNewPair_2))
 (s_ret (e_il 1))))))
def m_X9_bestNewPair : XF := xM 9 0 6 false bd_X9_bestNewPair
theorem rc_X9_bestNewPair : xRecv m_X9_bestNewPair 9 0 := xM_recv
set_option maxRecDepth 100000 in
set_option maxHeartbeats 4000000 in
theorem bo_X9_bestNewPair {K : XK} (C : xOK K RX9 cX9_bestNewPair false false 2 48) : CS K 0 bd_X9_bestNewPair 100 0 0 :=
 (cs_seq (p1 := 3) (cs_iasgn (p1 := 2) C (ce_bipush C dX9_bestNewPair_0 (by decide)) dX9_bestNewPair_2 rfl)
 (cs_seq (p1 := 5) (cs_iasgn (p1 := 4) C (ce_iconst C dX9_bestNewPair_3 (by decide)) dX9_bestNewPair_4 rfl)
 (cs_seq (p1 := 7) (cs_iasgn (p1 := 6) C (ce_iconst C dX9_bestNewPair_5 (by decide)) dX9_bestNewPair_6 rfl)
 (cs_seq (p1 := 98) (cs_loop (pB := 18) (pE := 98) (pu := 92) (p2 := 95) C (cc_ltN (p1 := 8) (p2 := 15) C (ce_iln C dX9_bestNewPair_7 rfl) (ce_fld C (ce_fld C (ce_aln C dX9_bestNewPair_8 rfl) dX9_bestNewPair_9 fX9_19) dX9_bestNewPair_12 fX9_106) dX9_bestNewPair_15 (by decide) rfl)
 (cs_seq (p1 := 23) (cs_iasg (p1 := 21) C (ce_bin (p1 := 19) (p2 := 20) (ce_iln C dX9_bestNewPair_18 rfl) (ce_iconst C dX9_bestNewPair_19 (by decide)) (ob_add C dX9_bestNewPair_20)) dX9_bestNewPair_21)
 (cs_loop (pB := 35) (pE := 92) (pu := 86) (p2 := 89) C (cc_ltN (p1 := 25) (p2 := 32) C (ce_il C dX9_bestNewPair_23) (ce_fld C (ce_fld C (ce_aln C dX9_bestNewPair_25 rfl) dX9_bestNewPair_26 fX9_19) dX9_bestNewPair_29 fX9_106) dX9_bestNewPair_32 (by decide) rfl)
 (cs_seq (p1 := 51) (cs_itf (pT := 48) (pF := 51) (cc_ne0N (p1 := 45) C (ce_call (p1 := 42) (ca_cons (p1 := 39) (ce_fld C (ce_aln C dX9_bestNewPair_35 rfl) dX9_bestNewPair_36 fX9_19) (ca_cons (p1 := 40) (ce_iln C dX9_bestNewPair_39 rfl) (ca_cons (p1 := 42) (ce_il C dX9_bestNewPair_40) ca_nil))) (xCal_V (ci := 4) C dX9_bestNewPair_42 wX4_hasStileBetween vX9_292 rfl rfl good_X4_hasStileBetween rc_X4_hasStileBetween (by decide) (by decide)) (by decide)) dX9_bestNewPair_45 (by decide) rfl) (cs_cont C dX9_bestNewPair_48 (by decide))
 cs_skip)
 (cs_seq (p1 := 63) (cs_iasg (p1 := 61) C (ce_call (p1 := 58) (ca_cons (p1 := 55) (ce_fld C (ce_aln C dX9_bestNewPair_51 rfl) dX9_bestNewPair_52 fX9_57) (ca_cons (p1 := 56) (ce_iln C dX9_bestNewPair_55 rfl) (ca_cons (p1 := 58) (ce_il C dX9_bestNewPair_56) ca_nil))) (xCal_V (ci := 0) C dX9_bestNewPair_58 wX0_sumWith vX9_212 rfl rfl good_X0_sumWith rc_X0_sumWith (by decide) (by decide)) (by decide)) dX9_bestNewPair_61)
 (cs_itf (pT := 75) (pF := 86) (cc_or (pM := 69) (cc_eqJ (p1 := 64) (p2 := 66) C (ce_iln C dX9_bestNewPair_63 rfl) (ce_bipush C dX9_bestNewPair_64 (by decide)) dX9_bestNewPair_66 (by decide) rfl) (cc_ltN (p1 := 71) (p2 := 72) C (ce_il C dX9_bestNewPair_69) (ce_iln C dX9_bestNewPair_71 rfl) dX9_bestNewPair_72 (by decide) rfl)) (cs_seq (p1 := 83) (cs_iasgn (p1 := 82) C (ce_bin (p1 := 79) (p2 := 81) (ce_bin (p1 := 77) (p2 := 78) (ce_bipush C dX9_bestNewPair_75 (by decide)) (ce_iln C dX9_bestNewPair_77 rfl) (ob_mul C dX9_bestNewPair_78)) (ce_il C dX9_bestNewPair_79) (ob_add C dX9_bestNewPair_81)) dX9_bestNewPair_82 rfl)
 (cs_iasgn (p1 := 85) C (ce_il C dX9_bestNewPair_83) dX9_bestNewPair_85 rfl))
 cs_skip)))
 (cs_inc C dX9_bestNewPair_86 (by decide)) dX9_bestNewPair_89 (by decide)))
 (cs_inc C dX9_bestNewPair_92 (by decide)) dX9_bestNewPair_95 (by decide))
 (cs_ret (p1 := 99) C (ce_iln C dX9_bestNewPair_98 rfl) dX9_bestNewPair_99)))))
theorem good_X9_bestNewPair : xGood yX9_bestNewPair cX9_bestNewPair 6 (some .int) 2 48 m_X9_bestNewPair :=
  x_methI (ini := false) (bz := false) (Or.inl ⟨rfl, rfl⟩) ⟨fun h => (by cases h), fun h => (by cases h)⟩ (fun h => by cases h) (by decide) (fun K C => bo_X9_bestNewPair C)

def bd_X9_fresh : XS := (s_seq (s_ite (b_or (b_cmp0 r_lt0 (e_il 1)) (b_cmp r_gt (e_il 1) (e_lit 1))) (s_ret (e_lit (-1)))
 s_skip)
 (s_seq (s_call m_X0_take [(e_fld 9 7 (e_al 0)), (e_fld 9 2 (e_al 0))])
 (s_seq (s_iasg 2 (e_call m_X9_bestNewPair [(e_al 0)]))
 (s_seq (s_ite (b_or (b_cmp r_eq (e_il 2) (e_lit (-4))) (b_cmp0 r_eq0 (e_il 1))) (s_ret (e_il 2))
 s_skip)
 (s_ret (e_bin o_sub (e_call m_X0_sum [(e_fld 9 7 (e_al 0))]) (e_call m_X0_sumWith [(e_fld 9 7 (e_al 0)), (e_bin o_div (e_il 2) (e_lit 10)), (e_bin o_rem (e_il 2) (e_lit 10))])))))))
def m_X9_fresh : XF := xM 9 1 3 false bd_X9_fresh
theorem rc_X9_fresh : xRecv m_X9_fresh 9 1 := xM_recv
set_option maxRecDepth 100000 in
set_option maxHeartbeats 4000000 in
theorem bo_X9_fresh {K : XK} (C : xOK K RX9 cX9_fresh false false 3 73) : CS K 0 bd_X9_fresh 63 0 0 :=
 (cs_seq (p1 := 11) (cs_itf (pT := 9) (pF := 11) (cc_or (pM := 4) (cc_lt0J (p1 := 1) C (ce_iln C dX9_fresh_0 rfl) dX9_fresh_1 (by decide) rfl) (cc_gtN (p1 := 5) (p2 := 6) C (ce_iln C dX9_fresh_4 rfl) (ce_iconst C dX9_fresh_5 (by decide)) dX9_fresh_6 (by decide) rfl)) (cs_ret (p1 := 10) C (ce_iconst C dX9_fresh_9 (by decide)) dX9_fresh_10)
 cs_skip)
 (cs_seq (p1 := 22) (cs_call (p1 := 19) (ca_cons (p1 := 15) (ce_fld C (ce_aln C dX9_fresh_11 rfl) dX9_fresh_12 fX9_57) (ca_cons (p1 := 19) (ce_fld C (ce_aln C dX9_fresh_15 rfl) dX9_fresh_16 fX9_28) ca_nil)) (xCal_V (ci := 0) C dX9_fresh_19 wX0_take vX9_183 rfl rfl good_X0_take rc_X0_take (by decide) (by decide)))
 (cs_seq (p1 := 27) (cs_iasgn (p1 := 26) C (ce_call (p1 := 23) (ca_cons (p1 := 23) (ce_aln C dX9_fresh_22 rfl) ca_nil) (xCal_V (ci := 9) C dX9_fresh_23 wX9_bestNewPair vX9_206 rfl rfl good_X9_bestNewPair rc_X9_bestNewPair (by decide) (by decide)) (by decide)) dX9_fresh_26 rfl)
 (cs_seq (p1 := 39) (cs_itf (pT := 37) (pF := 39) (cc_or (pM := 33) (cc_eqJ (p1 := 28) (p2 := 30) C (ce_iln C dX9_fresh_27 rfl) (ce_bipush C dX9_fresh_28 (by decide)) dX9_fresh_30 (by decide) rfl) (cc_eq0N (p1 := 34) C (ce_iln C dX9_fresh_33 rfl) dX9_fresh_34 (by decide) rfl)) (cs_ret (p1 := 38) C (ce_iln C dX9_fresh_37 rfl) dX9_fresh_38)
 cs_skip)
 (cs_ret (p1 := 62) C (ce_bin (p1 := 46) (p2 := 61) (ce_call (p1 := 43) (ca_cons (p1 := 43) (ce_fld C (ce_aln C dX9_fresh_39 rfl) dX9_fresh_40 fX9_57) ca_nil) (xCal_V (ci := 0) C dX9_fresh_43 wX0_sum vX9_209 rfl rfl good_X0_sum rc_X0_sum (by decide) (by decide)) (by decide)) (ce_call (p1 := 58) (ca_cons (p1 := 50) (ce_fld C (ce_aln C dX9_fresh_46 rfl) dX9_fresh_47 fX9_57) (ca_cons (p1 := 54) (ce_bin (p1 := 51) (p2 := 53) (ce_iln C dX9_fresh_50 rfl) (ce_bipush C dX9_fresh_51 (by decide)) (ob_div C dX9_fresh_53)) (ca_cons (p1 := 58) (ce_bin (p1 := 55) (p2 := 57) (ce_iln C dX9_fresh_54 rfl) (ce_bipush C dX9_fresh_55 (by decide)) (ob_rem C dX9_fresh_57)) ca_nil))) (xCal_V (ci := 0) C dX9_fresh_58 wX0_sumWith vX9_212 rfl rfl good_X0_sumWith rc_X0_sumWith (by decide) (by decide)) (by decide)) (ob_sub C dX9_fresh_61)) dX9_fresh_62)))))
theorem good_X9_fresh : xGood yX9_fresh cX9_fresh 3 (some .int) 3 73 m_X9_fresh :=
  x_methI (ini := false) (bz := false) (Or.inl ⟨rfl, rfl⟩) ⟨fun h => (by cases h), fun h => (by cases h)⟩ (fun h => by cases h) (by decide) (fun K C => bo_X9_fresh C)

def bd_X9_lasts : XS := (s_seq (s_ite (b_or (b_not (b_cmp0 r_ne0 (e_call m_X4_hasStile [(e_fld 9 1 (e_al 0)), (e_il 1)]))) (b_not (b_cmp0 r_ne0 (e_call m_X4_hasWalker [(e_fld 9 1 (e_al 0)), (e_il 2)])))) (s_ret (e_lit (-1)))
 s_skip)
 (s_seq (s_ite (b_cmp0 r_ne0 (e_call m_X6_isBroken [(e_fld 9 2 (e_al 0)), (e_il 1)])) (s_ret (e_lit 0))
 s_skip)
 (s_seq (s_iasg 3 (e_call m_X4_wearOf [(e_fld 9 1 (e_al 0)), (e_il 2), (e_il 1)]))
 (s_ret (e_tern (b_cmp0 r_le0 (e_il 3)) (e_lit (-4)) (e_bin o_div (e_bin o_sub (e_bin o_add (e_bin o_sub (e_fld 4 1 (e_fld 9 1 (e_al 0))) (e_ald 0 (e_fld 6 1 (e_fld 9 2 (e_al 0))) (e_il 1))) (e_il 3)) (e_lit 1)) (e_il 3)))))))
def m_X9_lasts : XF := xM 9 2 4 false bd_X9_lasts
theorem rc_X9_lasts : xRecv m_X9_lasts 9 2 := xM_recv
set_option maxRecDepth 100000 in
set_option maxHeartbeats 4000000 in
theorem bo_X9_lasts {K : XK} (C : xOK K RX9 cX9_lasts false false 1 24) : CS K 0 bd_X9_lasts 80 0 0 :=
 (cs_seq (p1 := 24) (cs_itf (pT := 22) (pF := 24) (cc_or (pM := 11) (cc_not (cc_ne0N (p1 := 8) C (ce_call (p1 := 5) (ca_cons (p1 := 4) (ce_fld C (ce_aln C dX9_lasts_0 rfl) dX9_lasts_1 fX9_19) (ca_cons (p1 := 5) (ce_iln C dX9_lasts_4 rfl) ca_nil)) (xCal_V (ci := 4) C dX9_lasts_5 wX4_hasStile vX9_109 rfl rfl good_X4_hasStile rc_X4_hasStile (by decide) (by decide)) (by decide)) dX9_lasts_8 (by decide) rfl)) (cc_not (cc_ne0J (p1 := 19) C (ce_call (p1 := 16) (ca_cons (p1 := 15) (ce_fld C (ce_aln C dX9_lasts_11 rfl) dX9_lasts_12 fX9_19) (ca_cons (p1 := 16) (ce_iln C dX9_lasts_15 rfl) ca_nil)) (xCal_V (ci := 4) C dX9_lasts_16 wX4_hasWalker vX9_129 rfl rfl good_X4_hasWalker rc_X4_hasWalker (by decide) (by decide)) (by decide)) dX9_lasts_19 (by decide) rfl))) (cs_ret (p1 := 23) C (ce_iconst C dX9_lasts_22 (by decide)) dX9_lasts_23)
 cs_skip)
 (cs_seq (p1 := 37) (cs_itf (pT := 35) (pF := 37) (cc_ne0N (p1 := 32) C (ce_call (p1 := 29) (ca_cons (p1 := 28) (ce_fld C (ce_aln C dX9_lasts_24 rfl) dX9_lasts_25 fX9_28) (ca_cons (p1 := 29) (ce_iln C dX9_lasts_28 rfl) ca_nil)) (xCal_V (ci := 6) C dX9_lasts_29 wX6_isBroken vX9_126 rfl rfl good_X6_isBroken rc_X6_isBroken (by decide) (by decide)) (by decide)) dX9_lasts_32 (by decide) rfl) (cs_ret (p1 := 36) C (ce_iconst C dX9_lasts_35 (by decide)) dX9_lasts_36)
 cs_skip)
 (cs_seq (p1 := 47) (cs_iasgn (p1 := 46) C (ce_call (p1 := 43) (ca_cons (p1 := 41) (ce_fld C (ce_aln C dX9_lasts_37 rfl) dX9_lasts_38 fX9_19) (ca_cons (p1 := 42) (ce_iln C dX9_lasts_41 rfl) (ca_cons (p1 := 43) (ce_iln C dX9_lasts_42 rfl) ca_nil))) (xCal_V (ci := 4) C dX9_lasts_43 wX4_wearOf vX9_215 rfl rfl good_X4_wearOf rc_X4_wearOf (by decide) (by decide)) (by decide)) dX9_lasts_46 rfl)
 (cs_ret (p1 := 79) C (ce_tern (pT := 51) (pF := 56) (p1 := 53) C (cc_le0N (p1 := 48) C (ce_iln C dX9_lasts_47 rfl) dX9_lasts_48 (by decide) rfl) (ce_bipush C dX9_lasts_51 (by decide)) dX9_lasts_53 (by decide) (ce_bin (p1 := 77) (p2 := 78) (ce_bin (p1 := 75) (p2 := 76) (ce_bin (p1 := 73) (p2 := 74) (ce_bin (p1 := 63) (p2 := 72) (ce_fld C (ce_fld C (ce_aln C dX9_lasts_56 rfl) dX9_lasts_57 fX9_19) dX9_lasts_60 fX9_218) (ce_iald (p1 := 70) (p2 := 71) C (ce_fld C (ce_fld C (ce_aln C dX9_lasts_63 rfl) dX9_lasts_64 fX9_28) dX9_lasts_67 fX9_123) (ce_iln C dX9_lasts_70 rfl) dX9_lasts_71) (ob_sub C dX9_lasts_72)) (ce_iln C dX9_lasts_73 rfl) (ob_add C dX9_lasts_74)) (ce_iconst C dX9_lasts_75 (by decide)) (ob_sub C dX9_lasts_76)) (ce_iln C dX9_lasts_77 rfl) (ob_div C dX9_lasts_78))) dX9_lasts_79))))
theorem good_X9_lasts : xGood yX9_lasts cX9_lasts 4 (some .int) 1 24 m_X9_lasts :=
  x_methI (ini := false) (bz := false) (Or.inl ⟨rfl, rfl⟩) ⟨fun h => (by cases h), fun h => (by cases h)⟩ (fun h => by cases h) (by decide) (fun K C => bo_X9_lasts C)

def lc_X9_richest_1 : XB := (b_cmp r_lt (e_il 2) (e_fld 4 3 (e_fld 9 1 (e_al 0))))
def la_X9_richest_1 : XS := (s_ite (b_cmp r_gt (e_ald 0 (e_fld 6 3 (e_fld 9 2 (e_al 0))) (e_il 2)) (e_ald 0 (e_fld 6 3 (e_fld 9 2 (e_al 0))) (e_il 1))) (s_iasg 1 (e_il 2))
 s_skip)
def lu_X9_richest_1 : XS := (s_inc 2 1)
def bd_X9_richest : XS := (s_seq (s_iasg 1 (e_lit 0))
 (s_seq (s_iasg 2 (e_lit 1))
 (s_seq (s_loop 1000 (lc_X9_richest_1) (la_X9_richest_1) (lu_X9_richest_1))
 (s_ret (e_il 1)))))
def m_X9_richest : XF := xM 9 0 3 false bd_X9_richest
theorem rc_X9_richest : xRecv m_X9_richest 9 0 := xM_recv
set_option maxRecDepth 100000 in
set_option maxHeartbeats 4000000 in
theorem bo_X9_richest {K : XK} (C : xOK K RX9 cX9_richest false false 0 0) : CS K 0 bd_X9_richest 46 0 0 :=
 (cs_seq (p1 := 2) (cs_iasgn (p1 := 1) C (ce_iconst C dX9_richest_0 (by decide)) dX9_richest_1 rfl)
 (cs_seq (p1 := 4) (cs_iasgn (p1 := 3) C (ce_iconst C dX9_richest_2 (by decide)) dX9_richest_3 rfl)
 (cs_seq (p1 := 44) (cs_loop (pB := 15) (pE := 44) (pu := 38) (p2 := 41) C (cc_ltN (p1 := 5) (p2 := 12) C (ce_iln C dX9_richest_4 rfl) (ce_fld C (ce_fld C (ce_aln C dX9_richest_5 rfl) dX9_richest_6 fX9_19) dX9_richest_9 fX9_100) dX9_richest_12 (by decide) rfl)
 (cs_itf (pT := 36) (pF := 38) (cc_gtN (p1 := 24) (p2 := 33) C (ce_iald (p1 := 22) (p2 := 23) C (ce_fld C (ce_fld C (ce_aln C dX9_richest_15 rfl) dX9_richest_16 fX9_28) dX9_richest_19 fX9_141) (ce_iln C dX9_richest_22 rfl) dX9_richest_23) (ce_iald (p1 := 31) (p2 := 32) C (ce_fld C (ce_fld C (ce_aln C dX9_richest_24 rfl) dX9_richest_25 fX9_28) dX9_richest_28 fX9_141) (ce_iln C dX9_richest_31 rfl) dX9_richest_32) dX9_richest_33 (by decide) rfl) (cs_iasgn (p1 := 37) C (ce_iln C dX9_richest_36 rfl) dX9_richest_37 rfl)
 cs_skip)
 (cs_inc C dX9_richest_38 (by decide)) dX9_richest_41 (by decide))
 (cs_ret (p1 := 45) C (ce_iln C dX9_richest_44 rfl) dX9_richest_45))))
theorem good_X9_richest : xGood yX9_richest cX9_richest 3 (some .int) 0 0 m_X9_richest :=
  x_methI (ini := false) (bz := false) (Or.inl ⟨rfl, rfl⟩) ⟨fun h => (by cases h), fun h => (by cases h)⟩ (fun h => by cases h) (by decide) (fun K C => bo_X9_richest C)

def bd_X9_see : XS := (s_seq (s_ite (b_or (b_or (b_not (b_cmp0 r_ne0 (e_call m_X4_hasStile [(e_fld 9 1 (e_al 0)), (e_il 1)]))) (b_cmp0 r_lt0 (e_il 2))) (b_cmp r_gt (e_il 2) (e_lit 999))) (s_ret (e_lit (-1)))
 s_skip)
 (s_ret (e_tern (b_cmp0 r_ne0 (e_call m_X5_add [(e_fld 9 6 (e_al 0)), (e_il 1), (e_il 2)])) (e_fld 5 0 (e_fld 9 6 (e_al 0))) (e_lit (-3)))))
def m_X9_see : XF := xM 9 2 3 false bd_X9_see
theorem rc_X9_see : xRecv m_X9_see 9 2 := xM_recv
set_option maxRecDepth 100000 in
set_option maxHeartbeats 4000000 in
theorem bo_X9_see {K : XK} (C : xOK K RX9 cX9_see false false 1 22) : CS K 0 bd_X9_see 49 0 0 :=
 (cs_seq (p1 := 24) (cs_itf (pT := 22) (pF := 24) (cc_or (pM := 15) (cc_or (pM := 11) (cc_not (cc_ne0N (p1 := 8) C (ce_call (p1 := 5) (ca_cons (p1 := 4) (ce_fld C (ce_aln C dX9_see_0 rfl) dX9_see_1 fX9_19) (ca_cons (p1 := 5) (ce_iln C dX9_see_4 rfl) ca_nil)) (xCal_V (ci := 4) C dX9_see_5 wX4_hasStile vX9_109 rfl rfl good_X4_hasStile rc_X4_hasStile (by decide) (by decide)) (by decide)) dX9_see_8 (by decide) rfl)) (cc_lt0J (p1 := 12) C (ce_iln C dX9_see_11 rfl) dX9_see_12 (by decide) rfl)) (cc_gtN (p1 := 16) (p2 := 19) C (ce_iln C dX9_see_15 rfl) (ce_sipush C dX9_see_16 (by decide)) dX9_see_19 (by decide) rfl)) (cs_ret (p1 := 23) C (ce_iconst C dX9_see_22 (by decide)) dX9_see_23)
 cs_skip)
 (cs_ret (p1 := 48) C (ce_tern (pT := 36) (pF := 46) (p1 := 43) C (cc_ne0N (p1 := 33) C (ce_call (p1 := 30) (ca_cons (p1 := 28) (ce_fld C (ce_aln C dX9_see_24 rfl) dX9_see_25 fX9_50) (ca_cons (p1 := 29) (ce_iln C dX9_see_28 rfl) (ca_cons (p1 := 30) (ce_iln C dX9_see_29 rfl) ca_nil))) (xCal_V (ci := 5) C dX9_see_30 wX5_add vX9_221 rfl rfl good_X5_add rc_X5_add (by decide) (by decide)) (by decide)) dX9_see_33 (by decide) rfl) (ce_fld C (ce_fld C (ce_aln C dX9_see_36 rfl) dX9_see_37 fX9_50) dX9_see_40 fX9_224) dX9_see_43 (by decide) (ce_bipush C dX9_see_46 (by decide))) dX9_see_48))
theorem good_X9_see : xGood yX9_see cX9_see 3 (some .int) 1 22 m_X9_see :=
  x_methI (ini := false) (bz := false) (Or.inl ⟨rfl, rfl⟩) ⟨fun h => (by cases h), fun h => (by cases h)⟩ (fun h => by cases h) (by decide) (fun K C => bo_X9_see C)

def bd_X9_forget : XS := (s_seq (s_iasg 1 (e_fld 5 0 (e_fld 9 6 (e_al 0))))
 (s_seq (s_put 5 0 0 (e_fld 9 6 (e_al 0)) (e_lit 0))
 (s_ret (e_il 1))))
def m_X9_forget : XF := xM 9 0 2 false bd_X9_forget
theorem rc_X9_forget : xRecv m_X9_forget 9 0 := xM_recv
set_option maxRecDepth 100000 in
set_option maxHeartbeats 4000000 in
theorem bo_X9_forget {K : XK} (C : xOK K RX9 cX9_forget false false 0 0) : CS K 0 bd_X9_forget 18 0 0 :=
 (cs_seq (p1 := 8) (cs_iasgn (p1 := 7) C (ce_fld C (ce_fld C (ce_aln C dX9_forget_0 rfl) dX9_forget_1 fX9_50) dX9_forget_4 fX9_224) dX9_forget_7 rfl)
 (cs_seq (p1 := 16) (cs_put (p1 := 12) (p2 := 13) C (ce_fld C (ce_aln C dX9_forget_8 rfl) dX9_forget_9 fX9_50) (ce_iconst C dX9_forget_12 (by decide)) dX9_forget_13 pX9_224_false)
 (cs_ret (p1 := 17) C (ce_iln C dX9_forget_16 rfl) dX9_forget_17)))
theorem good_X9_forget : xGood yX9_forget cX9_forget 2 (some .int) 0 0 m_X9_forget :=
  x_methI (ini := false) (bz := false) (Or.inl ⟨rfl, rfl⟩) ⟨fun h => (by cases h), fun h => (by cases h)⟩ (fun h => by cases h) (by decide) (fun K C => bo_X9_forget C)

def lc_X9_whose_1 : XB := (b_cmp r_lt (e_il 3) (e_fld 4 3 (e_fld 9 1 (e_al 0))))
def la_X9_whose_1 : XS := (s_ite (b_cmp0 r_ne0 (e_call m_X5_canBeOf [(e_fld 9 6 (e_al 0)), (e_fld 9 1 (e_al 0)), (e_il 3), (e_il 1)])) (s_iasg 2 (e_bin o_or (e_il 2) (e_bin o_shl (e_lit 1) (e_il 3))))
 s_skip)
def lu_X9_whose_1 : XS := (s_inc 3 1)
def bd_X9_whose : XS := (s_seq (s_ite (b_not (b_cmp0 r_ne0 (e_call m_X4_hasStile [(e_fld 9 1 (e_al 0)), (e_il 1)]))) (s_ret (e_lit (-1)))
 s_skip)
 (s_seq (s_iasg 2 (e_lit 0))
 (s_seq (s_iasg 3 (e_lit 0))
 (s_seq (s_loop 1000 (lc_X9_whose_1) (la_X9_whose_1) (lu_X9_whose_1))
 (s_ret (e_il 2))))))
def m_X9_whose : XF := xM 9 1 4 false bd_X9_whose
theorem rc_X9_whose : xRecv m_X9_whose 9 1 := xM_recv
set_option maxRecDepth 100000 in
set_option maxHeartbeats 4000000 in
theorem bo_X9_whose {K : XK} (C : xOK K RX9 cX9_whose false false 3 72) : CS K 0 bd_X9_whose 58 0 0 :=
 (cs_seq (p1 := 13) (cs_itf (pT := 11) (pF := 13) (cc_not (cc_ne0J (p1 := 8) C (ce_call (p1 := 5) (ca_cons (p1 := 4) (ce_fld C (ce_aln C dX9_whose_0 rfl) dX9_whose_1 fX9_19) (ca_cons (p1 := 5) (ce_iln C dX9_whose_4 rfl) ca_nil)) (xCal_V (ci := 4) C dX9_whose_5 wX4_hasStile vX9_109 rfl rfl good_X4_hasStile rc_X4_hasStile (by decide) (by decide)) (by decide)) dX9_whose_8 (by decide) rfl)) (cs_ret (p1 := 12) C (ce_iconst C dX9_whose_11 (by decide)) dX9_whose_12)
 cs_skip)
 (cs_seq (p1 := 15) (cs_iasgn (p1 := 14) C (ce_iconst C dX9_whose_13 (by decide)) dX9_whose_14 rfl)
 (cs_seq (p1 := 17) (cs_iasgn (p1 := 16) C (ce_iconst C dX9_whose_15 (by decide)) dX9_whose_16 rfl)
 (cs_seq (p1 := 56) (cs_loop (pB := 28) (pE := 56) (pu := 50) (p2 := 53) C (cc_ltN (p1 := 18) (p2 := 25) C (ce_iln C dX9_whose_17 rfl) (ce_fld C (ce_fld C (ce_aln C dX9_whose_18 rfl) dX9_whose_19 fX9_19) dX9_whose_22 fX9_100) dX9_whose_25 (by decide) rfl)
 (cs_itf (pT := 44) (pF := 50) (cc_ne0N (p1 := 41) C (ce_call (p1 := 38) (ca_cons (p1 := 32) (ce_fld C (ce_aln C dX9_whose_28 rfl) dX9_whose_29 fX9_50) (ca_cons (p1 := 36) (ce_fld C (ce_aln C dX9_whose_32 rfl) dX9_whose_33 fX9_19) (ca_cons (p1 := 37) (ce_iln C dX9_whose_36 rfl) (ca_cons (p1 := 38) (ce_iln C dX9_whose_37 rfl) ca_nil)))) (xCal_V (ci := 5) C dX9_whose_38 wX5_canBeOf vX9_225 rfl rfl good_X5_canBeOf rc_X5_canBeOf (by decide) (by decide)) (by decide)) dX9_whose_41 (by decide) rfl) (cs_iasgn (p1 := 49) C (ce_bin (p1 := 45) (p2 := 48) (ce_iln C dX9_whose_44 rfl) (ce_bin (p1 := 46) (p2 := 47) (ce_iconst C dX9_whose_45 (by decide)) (ce_iln C dX9_whose_46 rfl) (ob_shl C dX9_whose_47)) (ob_or C dX9_whose_48)) dX9_whose_49 rfl)
 cs_skip)
 (cs_inc C dX9_whose_50 (by decide)) dX9_whose_53 (by decide))
 (cs_ret (p1 := 57) C (ce_iln C dX9_whose_56 rfl) dX9_whose_57)))))
theorem good_X9_whose : xGood yX9_whose cX9_whose 4 (some .int) 3 72 m_X9_whose :=
  x_methI (ini := false) (bz := false) (Or.inl ⟨rfl, rfl⟩) ⟨fun h => (by cases h), fun h => (by cases h)⟩ (fun h => by cases h) (by decide) (fun K C => bo_X9_whose C)

def bd_X9_often : XS := (s_seq (s_ite (b_or (b_or (b_or (b_not (b_cmp0 r_ne0 (e_call m_X4_hasWalker [(e_fld 9 1 (e_al 0)), (e_il 1)]))) (b_not (b_cmp0 r_ne0 (e_call m_X4_hasStile [(e_fld 9 1 (e_al 0)), (e_il 2)])))) (b_cmp0 r_lt0 (e_il 3))) (b_cmp r_gt (e_il 3) (e_lit 999))) (s_ret (e_lit (-1)))
 s_skip)
 (s_ret (e_call m_X4_treadsToWear [(e_fld 9 1 (e_al 0)), (e_il 1), (e_il 2), (e_il 3)])))
def m_X9_often : XF := xM 9 3 4 false bd_X9_often
theorem rc_X9_often : xRecv m_X9_often 9 3 := xM_recv
set_option maxRecDepth 100000 in
set_option maxHeartbeats 4000000 in
theorem bo_X9_often {K : XK} (C : xOK K RX9 cX9_often false false 2 48) : CS K 0 bd_X9_often 46 0 0 :=
 (cs_seq (p1 := 35) (cs_itf (pT := 33) (pF := 35) (cc_or (pM := 26) (cc_or (pM := 22) (cc_or (pM := 11) (cc_not (cc_ne0N (p1 := 8) C (ce_call (p1 := 5) (ca_cons (p1 := 4) (ce_fld C (ce_aln C dX9_often_0 rfl) dX9_often_1 fX9_19) (ca_cons (p1 := 5) (ce_iln C dX9_often_4 rfl) ca_nil)) (xCal_V (ci := 4) C dX9_often_5 wX4_hasWalker vX9_129 rfl rfl good_X4_hasWalker rc_X4_hasWalker (by decide) (by decide)) (by decide)) dX9_often_8 (by decide) rfl)) (cc_not (cc_ne0N (p1 := 19) C (ce_call (p1 := 16) (ca_cons (p1 := 15) (ce_fld C (ce_aln C dX9_often_11 rfl) dX9_often_12 fX9_19) (ca_cons (p1 := 16) (ce_iln C dX9_often_15 rfl) ca_nil)) (xCal_V (ci := 4) C dX9_often_16 wX4_hasStile vX9_109 rfl rfl good_X4_hasStile rc_X4_hasStile (by decide) (by decide)) (by decide)) dX9_often_19 (by decide) rfl))) (cc_lt0J (p1 := 23) C (ce_iln C dX9_often_22 rfl) dX9_often_23 (by decide) rfl)) (cc_gtN (p1 := 27) (p2 := 30) C (ce_iln C dX9_often_26 rfl) (ce_sipush C dX9_often_27 (by decide)) dX9_often_30 (by decide) rfl)) (cs_ret (p1 := 34) C (ce_iconst C dX9_often_33 (by decide)) dX9_often_34)
 cs_skip)
 (cs_ret (p1 := 45) C (ce_call (p1 := 42) (ca_cons (p1 := 39) (ce_fld C (ce_aln C dX9_often_35 rfl) dX9_often_36 fX9_19) (ca_cons (p1 := 40) (ce_iln C dX9_often_39 rfl) (ca_cons (p1 := 41) (ce_iln C dX9_often_40 rfl) (ca_cons (p1 := 42) (ce_iln C dX9_often_41 rfl) ca_nil)))) (xCal_V (ci := 4) C dX9_often_42 wX4_treadsToWear vX9_229 rfl rfl good_X4_treadsToWear rc_X4_treadsToWear (by decide) (by decide)) (by decide)) dX9_often_45))
theorem good_X9_often : xGood yX9_often cX9_often 4 (some .int) 2 48 m_X9_often :=
  x_methI (ini := false) (bz := false) (Or.inl ⟨rfl, rfl⟩) ⟨fun h => (by cases h), fun h => (by cases h)⟩ (fun h => by cases h) (by decide) (fun K C => bo_X9_often C)

def bd_X9_drunk : XS := (s_seq (s_ite (b_or (b_or (b_or (b_not (b_cmp0 r_ne0 (e_call m_X4_hasWalker [(e_fld 9 1 (e_al 0)), (e_il 1)]))) (b_not (b_cmp0 r_ne0 (e_call m_X4_hasField [(e_fld 9 1 (e_al 0)), (e_il 2)])))) (b_cmp0 r_lt0 (e_il 5))) (b_cmp r_gt (e_il 5) (e_lit 1))) (s_ret (e_lit (-1)))
 s_skip)
 (s_seq (s_ite (b_or (b_or (b_or (b_cmp0 r_lt0 (e_il 3)) (b_cmp r_gt (e_il 3) (e_lit 8))) (b_cmp0 r_lt0 (e_il 4))) (b_cmp r_gt (e_il 4) (e_lit 10))) (s_ret (e_lit (-1)))
 s_skip)
 (s_seq (s_call m_X1_stagger [(e_fld 9 10 (e_al 0)), (e_fld 9 2 (e_al 0)), (e_ald 0 (e_fld 6 2 (e_fld 9 2 (e_al 0))) (e_il 1)), (e_il 3), (e_il 4)])
 (s_seq (s_call m_X1_reduceChanceOf [(e_fld 9 10 (e_al 0)), (e_il 2), (e_il 3)])
 (s_ret (e_tern (b_cmp0 r_eq0 (e_il 5)) (e_fld 1 0 (e_fld 9 10 (e_al 0))) (e_fld 1 1 (e_fld 9 10 (e_al 0)))))))))
def m_X9_drunk : XF := xM 9 5 6 false bd_X9_drunk
theorem rc_X9_drunk : xRecv m_X9_drunk 9 5 := xM_recv
set_option maxRecDepth 100000 in
set_option maxHeartbeats 4000000 in
theorem bo_X9_drunk {K : XK} (C : xOK K RX9 cX9_drunk false false 5 121) : CS K 0 bd_X9_drunk 114 0 0 :=
 (cs_seq (p1 := 35) (cs_itf (pT := 33) (pF := 35) (cc_or (pM := 27) (cc_or (pM := 22) (cc_or (pM := 11) (cc_not (cc_ne0N (p1 := 8) C (ce_call (p1 := 5) (ca_cons (p1 := 4) (ce_fld C (ce_aln C dX9_drunk_0 rfl) dX9_drunk_1 fX9_19) (ca_cons (p1 := 5) (ce_iln C dX9_drunk_4 rfl) ca_nil)) (xCal_V (ci := 4) C dX9_drunk_5 wX4_hasWalker vX9_129 rfl rfl good_X4_hasWalker rc_X4_hasWalker (by decide) (by decide)) (by decide)) dX9_drunk_8 (by decide) rfl)) (cc_not (cc_ne0N (p1 := 19) C (ce_call (p1 := 16) (ca_cons (p1 := 15) (ce_fld C (ce_aln C dX9_drunk_11 rfl) dX9_drunk_12 fX9_19) (ca_cons (p1 := 16) (ce_iln C dX9_drunk_15 rfl) ca_nil)) (xCal_V (ci := 4) C dX9_drunk_16 wX4_hasField vX9_180 rfl rfl good_X4_hasField rc_X4_hasField (by decide) (by decide)) (by decide)) dX9_drunk_19 (by decide) rfl))) (cc_lt0J (p1 := 24) C (ce_il C dX9_drunk_22) dX9_drunk_24 (by decide) rfl)) (cc_gtN (p1 := 29) (p2 := 30) C (ce_il C dX9_drunk_27) (ce_iconst C dX9_drunk_29 (by decide)) dX9_drunk_30 (by decide) rfl)) (cs_ret (p1 := 34) C (ce_iconst C dX9_drunk_33 (by decide)) dX9_drunk_34)
 cs_skip)
 (cs_seq (p1 := 59) (cs_itf (pT := 57) (pF := 59) (cc_or (pM := 50) (cc_or (pM := 45) (cc_or (pM := 39) (cc_lt0J (p1 := 36) C (ce_iln C dX9_drunk_35 rfl) dX9_drunk_36 (by decide) rfl) (cc_gtJ (p1 := 40) (p2 := 42) C (ce_iln C dX9_drunk_39 rfl) (ce_bipush C dX9_drunk_40 (by decide)) dX9_drunk_42 (by decide) rfl)) (cc_lt0J (p1 := 47) C (ce_il C dX9_drunk_45) dX9_drunk_47 (by decide) rfl)) (cc_gtN (p1 := 52) (p2 := 54) C (ce_il C dX9_drunk_50) (ce_bipush C dX9_drunk_52 (by decide)) dX9_drunk_54 (by decide) rfl)) (cs_ret (p1 := 58) C (ce_iconst C dX9_drunk_57 (by decide)) dX9_drunk_58)
 cs_skip)
 (cs_seq (p1 := 82) (cs_call (p1 := 79) (ca_cons (p1 := 63) (ce_fld C (ce_aln C dX9_drunk_59 rfl) dX9_drunk_60 fX9_78) (ca_cons (p1 := 67) (ce_fld C (ce_aln C dX9_drunk_63 rfl) dX9_drunk_64 fX9_28) (ca_cons (p1 := 76) (ce_iald (p1 := 74) (p2 := 75) C (ce_fld C (ce_fld C (ce_aln C dX9_drunk_67 rfl) dX9_drunk_68 fX9_28) dX9_drunk_71 fX9_135) (ce_iln C dX9_drunk_74 rfl) dX9_drunk_75) (ca_cons (p1 := 77) (ce_iln C dX9_drunk_76 rfl) (ca_cons (p1 := 79) (ce_il C dX9_drunk_77) ca_nil))))) (xCal_V (ci := 1) C dX9_drunk_79 wX1_stagger vX9_233 rfl rfl good_X1_stagger rc_X1_stagger (by decide) (by decide)))
 (cs_seq (p1 := 91) (cs_call (p1 := 88) (ca_cons (p1 := 86) (ce_fld C (ce_aln C dX9_drunk_82 rfl) dX9_drunk_83 fX9_78) (ca_cons (p1 := 87) (ce_iln C dX9_drunk_86 rfl) (ca_cons (p1 := 88) (ce_iln C dX9_drunk_87 rfl) ca_nil))) (xCal_V (ci := 1) C dX9_drunk_88 wX1_reduceChanceOf vX9_237 rfl rfl good_X1_reduceChanceOf rc_X1_reduceChanceOf (by decide) (by decide)))
 (cs_ret (p1 := 113) C (ce_tern (pT := 96) (pF := 106) (p1 := 103) C (cc_eq0N (p1 := 93) C (ce_il C dX9_drunk_91) dX9_drunk_93 (by decide) rfl) (ce_fld C (ce_fld C (ce_aln C dX9_drunk_96 rfl) dX9_drunk_97 fX9_78) dX9_drunk_100 fX9_240) dX9_drunk_103 (by decide) (ce_fld C (ce_fld C (ce_aln C dX9_drunk_106 rfl) dX9_drunk_107 fX9_78) dX9_drunk_110 fX9_243)) dX9_drunk_113)))))
theorem good_X9_drunk : xGood yX9_drunk cX9_drunk 6 (some .int) 5 121 m_X9_drunk :=
  x_methI (ini := false) (bz := false) (Or.inl ⟨rfl, rfl⟩) ⟨fun h => (by cases h), fun h => (by cases h)⟩ (fun h => by cases h) (by decide) (fun K C => bo_X9_drunk C)

def bd_X9_drawOf : XS := (s_seq (s_lasg 3 (e_bin o_ladd (e_bin o_ladd (e_bin o_lmul (e_long 7919) (e_un o_i2l (e_il 1))) (e_bin o_lmul (e_long 6151) (e_un o_i2l (e_il 2)))) (e_long 1)))
 (s_ret (e_un o_l2i (e_bin o_lrem (e_bin o_lmul (e_ll 3) (e_ll 3)) (e_long 65521)))))
def m_X9_drawOf : XF := xM 9 2 5 false bd_X9_drawOf
theorem rc_X9_drawOf : xRecv m_X9_drawOf 9 2 := xM_recv
set_option maxRecDepth 100000 in
set_option maxHeartbeats 4000000 in
theorem bo_X9_drawOf {K : XK} (C : xOK K RX9 cX9_drawOf false false 0 0) : CS K 0 bd_X9_drawOf 25 0 0 :=
 (cs_seq (p1 := 16) (cs_lasgn (p1 := 15) C (ce_bin (p1 := 13) (p2 := 14) (ce_bin (p1 := 6) (p2 := 12) (ce_bin (p1 := 3) (p2 := 5) (ce_ldc2 C dX9_drawOf_0 kX9_295) (ce_un (ce_iln C dX9_drawOf_3 rfl) (ob_i2l C dX9_drawOf_4)) (ob_lmul C dX9_drawOf_5)) (ce_bin (p1 := 9) (p2 := 11) (ce_ldc2 C dX9_drawOf_6 kX9_297) (ce_un (ce_iln C dX9_drawOf_9 rfl) (ob_i2l C dX9_drawOf_10)) (ob_lmul C dX9_drawOf_11)) (ob_ladd C dX9_drawOf_12)) (ce_lconst C dX9_drawOf_13 rfl) (ob_ladd C dX9_drawOf_14)) dX9_drawOf_15 rfl)
 (cs_ret (p1 := 24) C (ce_un (ce_bin (p1 := 19) (p2 := 22) (ce_bin (p1 := 17) (p2 := 18) (ce_lln C dX9_drawOf_16 rfl) (ce_lln C dX9_drawOf_17 rfl) (ob_lmul C dX9_drawOf_18)) (ce_ldc2 C dX9_drawOf_19 kX9_299) (ob_lrem C dX9_drawOf_22)) (ob_l2i C dX9_drawOf_23)) dX9_drawOf_24))
theorem good_X9_drawOf : xGood yX9_drawOf cX9_drawOf 5 (some .int) 0 0 m_X9_drawOf :=
  x_methI (ini := false) (bz := false) (Or.inl ⟨rfl, rfl⟩) ⟨fun h => (by cases h), fun h => (by cases h)⟩ (fun h => by cases h) (by decide) (fun K C => bo_X9_drawOf C)

def bd_X9_dreamTread : XS := (s_seq (s_ite (b_cmp r_lt (e_fld 4 3 (e_fld 9 1 (e_al 0))) (e_lit 1)) s_retV
 s_skip)
 (s_seq (s_iasg 2 (e_bin o_rem (e_il 1) (e_fld 4 3 (e_fld 9 1 (e_al 0)))))
 (s_seq (s_iasg 3 (e_ald 0 (e_fld 6 2 (e_fld 9 3 (e_al 0))) (e_il 2)))
 (s_seq (s_iasg 4 (e_call m_X6_openStilesAt [(e_fld 9 3 (e_al 0)), (e_il 3)]))
 (s_seq (s_ite (b_cmp0 r_gt0 (e_il 4)) (s_seq (s_call m_X6_goOver [(e_fld 9 3 (e_al 0)), (e_il 2), (e_call m_X6_openStileAt [(e_fld 9 3 (e_al 0)), (e_il 3), (e_bin o_rem (e_bin o_div (e_il 1) (e_lit 4)) (e_il 4))])])
 s_retV)
 s_skip)
 (s_seq (s_iasg 5 (e_call m_X4_lowestStileAt [(e_fld 9 1 (e_al 0)), (e_il 3)]))
 (s_seq (s_ite (b_cmp r_ne (e_il 5) (e_lit (-4))) (s_call m_X6_renew [(e_fld 9 3 (e_al 0)), (e_il 5)])
 s_skip)
 s_retV)))))))
def m_X9_dreamTread : XF := xM 9 1 6 true bd_X9_dreamTread
theorem rc_X9_dreamTread : xRecv m_X9_dreamTread 9 1 := xM_recv
set_option maxRecDepth 100000 in
set_option maxHeartbeats 4000000 in
theorem bo_X9_dreamTread {K : XK} (C : xOK K RX9 cX9_dreamTread false false 3 69) : CS K 0 bd_X9_dreamTread 97 0 0 :=
 (cs_seq (p1 := 12) (cs_itf (pT := 11) (pF := 12) (cc_ltN (p1 := 7) (p2 := 8) C (ce_fld C (ce_fld C (ce_aln C dX9_dreamTread_0 rfl) dX9_dreamTread_1 fX9_19) dX9_dreamTread_4 fX9_100) (ce_iconst C dX9_dreamTread_7 (by decide)) dX9_dreamTread_8 (by decide) rfl) (cs_retV C dX9_dreamTread_11)
 cs_skip)
 (cs_seq (p1 := 22) (cs_iasgn (p1 := 21) C (ce_bin (p1 := 13) (p2 := 20) (ce_iln C dX9_dreamTread_12 rfl) (ce_fld C (ce_fld C (ce_aln C dX9_dreamTread_13 rfl) dX9_dreamTread_14 fX9_19) dX9_dreamTread_17 fX9_100) (ob_rem C dX9_dreamTread_20)) dX9_dreamTread_21 rfl)
 (cs_seq (p1 := 32) (cs_iasgn (p1 := 31) C (ce_iald (p1 := 29) (p2 := 30) C (ce_fld C (ce_fld C (ce_aln C dX9_dreamTread_22 rfl) dX9_dreamTread_23 fX9_32) dX9_dreamTread_26 fX9_135) (ce_iln C dX9_dreamTread_29 rfl) dX9_dreamTread_30) dX9_dreamTread_31 rfl)
 (cs_seq (p1 := 42) (cs_iasg (p1 := 40) C (ce_call (p1 := 37) (ca_cons (p1 := 36) (ce_fld C (ce_aln C dX9_dreamTread_32 rfl) dX9_dreamTread_33 fX9_32) (ca_cons (p1 := 37) (ce_iln C dX9_dreamTread_36 rfl) ca_nil)) (xCal_V (ci := 6) C dX9_dreamTread_37 wX6_openStilesAt vX9_301 rfl rfl good_X6_openStilesAt rc_X6_openStilesAt (by decide) (by decide)) (by decide)) dX9_dreamTread_40)
 (cs_seq (p1 := 70) (cs_itf (pT := 47) (pF := 70) (cc_gt0N (p1 := 44) C (ce_il C dX9_dreamTread_42) dX9_dreamTread_44 (by decide) rfl) (cs_seq (p1 := 69) (cs_call (p1 := 66) (ca_cons (p1 := 51) (ce_fld C (ce_aln C dX9_dreamTread_47 rfl) dX9_dreamTread_48 fX9_32) (ca_cons (p1 := 52) (ce_iln C dX9_dreamTread_51 rfl) (ca_cons (p1 := 66) (ce_call (p1 := 63) (ca_cons (p1 := 56) (ce_fld C (ce_aln C dX9_dreamTread_52 rfl) dX9_dreamTread_53 fX9_32) (ca_cons (p1 := 57) (ce_iln C dX9_dreamTread_56 rfl) (ca_cons (p1 := 63) (ce_bin (p1 := 60) (p2 := 62) (ce_bin (p1 := 58) (p2 := 59) (ce_iln C dX9_dreamTread_57 rfl) (ce_iconst C dX9_dreamTread_58 (by decide)) (ob_div C dX9_dreamTread_59)) (ce_il C dX9_dreamTread_60) (ob_rem C dX9_dreamTread_62)) ca_nil))) (xCal_V (ci := 6) C dX9_dreamTread_63 wX6_openStileAt vX9_304 rfl rfl good_X6_openStileAt rc_X6_openStileAt (by decide) (by decide)) (by decide)) ca_nil))) (xCal_V (ci := 6) C dX9_dreamTread_66 wX6_goOver vX9_162 rfl rfl good_X6_goOver rc_X6_goOver (by decide) (by decide)))
 (cs_retV C dX9_dreamTread_69))
 cs_skip)
 (cs_seq (p1 := 80) (cs_iasg (p1 := 78) C (ce_call (p1 := 75) (ca_cons (p1 := 74) (ce_fld C (ce_aln C dX9_dreamTread_70 rfl) dX9_dreamTread_71 fX9_19) (ca_cons (p1 := 75) (ce_iln C dX9_dreamTread_74 rfl) ca_nil)) (xCal_V (ci := 4) C dX9_dreamTread_75 wX4_lowestStileAt vX9_307 rfl rfl good_X4_lowestStileAt rc_X4_lowestStileAt (by decide) (by decide)) (by decide)) dX9_dreamTread_78)
 (cs_seq (p1 := 96) (cs_itf (pT := 87) (pF := 96) (cc_neN (p1 := 82) (p2 := 84) C (ce_il C dX9_dreamTread_80) (ce_bipush C dX9_dreamTread_82 (by decide)) dX9_dreamTread_84 (by decide) rfl) (cs_call (p1 := 93) (ca_cons (p1 := 91) (ce_fld C (ce_aln C dX9_dreamTread_87 rfl) dX9_dreamTread_88 fX9_32) (ca_cons (p1 := 93) (ce_il C dX9_dreamTread_91) ca_nil)) (xCal_V (ci := 6) C dX9_dreamTread_93 wX6_renew vX9_166 rfl rfl good_X6_renew rc_X6_renew (by decide) (by decide)))
 cs_skip)
 (cs_retV C dX9_dreamTread_96))))))))
theorem good_X9_dreamTread : xGood yX9_dreamTread cX9_dreamTread 6 none 3 69 m_X9_dreamTread :=
  x_methI (ini := false) (bz := false) (Or.inr (Or.inr rfl)) ⟨fun _ => rfl, fun _ => rfl⟩ (fun h => by cases h) (by decide) (fun K C => bo_X9_dreamTread C)

def lc_X9_year_1 : XB := (b_cmp r_lt (e_il 4) (e_il 2))
def la_X9_year_1 : XS := (s_call m_X9_dreamTread [(e_al 0), (e_call m_X9_drawOf [(e_al 0), (e_il 1), (e_il 4)])])
def lu_X9_year_1 : XS := (s_inc 4 1)
def bd_X9_year : XS := (s_seq (s_ite (b_or (b_or (b_or (b_or (b_or (b_cmp0 r_lt0 (e_il 1)) (b_cmp r_gt (e_il 1) (e_lit 9999))) (b_cmp r_lt (e_il 2) (e_lit 1))) (b_cmp r_gt (e_il 2) (e_lit 60))) (b_cmp0 r_lt0 (e_il 3))) (b_cmp r_gt (e_il 3) (e_lit 1))) (s_ret (e_lit (-1)))
 s_skip)
 (s_seq (s_call m_X6_copyFrom [(e_fld 9 3 (e_al 0)), (e_fld 9 2 (e_al 0))])
 (s_seq (s_iasg 4 (e_lit 0))
 (s_seq (s_loop 1000 (lc_X9_year_1) (la_X9_year_1) (lu_X9_year_1))
 (s_ret (e_tern (b_cmp0 r_eq0 (e_il 3)) (e_call m_X6_creditOfAll [(e_fld 9 3 (e_al 0))]) (e_call m_X6_brokenStiles [(e_fld 9 3 (e_al 0))])))))))
def m_X9_year : XF := xM 9 3 5 false bd_X9_year
theorem rc_X9_year : xRecv m_X9_year 9 3 := xM_recv
set_option maxRecDepth 100000 in
set_option maxHeartbeats 4000000 in
theorem bo_X9_year {K : XK} (C : xOK K RX9 cX9_year false false 4 94) : CS K 0 bd_X9_year 92 0 0 :=
 (cs_seq (p1 := 33) (cs_itf (pT := 31) (pF := 33) (cc_or (pM := 26) (cc_or (pM := 22) (cc_or (pM := 16) (cc_or (pM := 11) (cc_or (pM := 4) (cc_lt0J (p1 := 1) C (ce_iln C dX9_year_0 rfl) dX9_year_1 (by decide) rfl) (cc_gtJ (p1 := 5) (p2 := 8) C (ce_iln C dX9_year_4 rfl) (ce_sipush C dX9_year_5 (by decide)) dX9_year_8 (by decide) rfl)) (cc_ltJ (p1 := 12) (p2 := 13) C (ce_iln C dX9_year_11 rfl) (ce_iconst C dX9_year_12 (by decide)) dX9_year_13 (by decide) rfl)) (cc_gtJ (p1 := 17) (p2 := 19) C (ce_iln C dX9_year_16 rfl) (ce_bipush C dX9_year_17 (by decide)) dX9_year_19 (by decide) rfl)) (cc_lt0J (p1 := 23) C (ce_iln C dX9_year_22 rfl) dX9_year_23 (by decide) rfl)) (cc_gtN (p1 := 27) (p2 := 28) C (ce_iln C dX9_year_26 rfl) (ce_iconst C dX9_year_27 (by decide)) dX9_year_28 (by decide) rfl)) (cs_ret (p1 := 32) C (ce_iconst C dX9_year_31 (by decide)) dX9_year_32)
 cs_skip)
 (cs_seq (p1 := 44) (cs_call (p1 := 41) (ca_cons (p1 := 37) (ce_fld C (ce_aln C dX9_year_33 rfl) dX9_year_34 fX9_32) (ca_cons (p1 := 41) (ce_fld C (ce_aln C dX9_year_37 rfl) dX9_year_38 fX9_28) ca_nil)) (xCal_V (ci := 6) C dX9_year_41 wX6_copyFrom vX9_246 rfl rfl good_X6_copyFrom rc_X6_copyFrom (by decide) (by decide)))
 (cs_seq (p1 := 47) (cs_iasg (p1 := 45) C (ce_iconst C dX9_year_44 (by decide)) dX9_year_45)
 (cs_seq (p1 := 70) (cs_loop (pB := 53) (pE := 70) (pu := 64) (p2 := 67) C (cc_ltN (p1 := 49) (p2 := 50) C (ce_il C dX9_year_47) (ce_iln C dX9_year_49 rfl) dX9_year_50 (by decide) rfl)
 (cs_call (p1 := 61) (ca_cons (p1 := 54) (ce_aln C dX9_year_53 rfl) (ca_cons (p1 := 61) (ce_call (p1 := 58) (ca_cons (p1 := 55) (ce_aln C dX9_year_54 rfl) (ca_cons (p1 := 56) (ce_iln C dX9_year_55 rfl) (ca_cons (p1 := 58) (ce_il C dX9_year_56) ca_nil))) (xCal_V (ci := 9) C dX9_year_58 wX9_drawOf vX9_249 rfl rfl good_X9_drawOf rc_X9_drawOf (by decide) (by decide)) (by decide)) ca_nil)) (xCal_V (ci := 9) C dX9_year_61 wX9_dreamTread vX9_252 rfl rfl good_X9_dreamTread rc_X9_dreamTread (by decide) (by decide)))
 (cs_inc C dX9_year_64 (by decide)) dX9_year_67 (by decide))
 (cs_ret (p1 := 91) C (ce_tern (pT := 74) (pF := 84) (p1 := 81) C (cc_eq0N (p1 := 71) C (ce_iln C dX9_year_70 rfl) dX9_year_71 (by decide) rfl) (ce_call (p1 := 78) (ca_cons (p1 := 78) (ce_fld C (ce_aln C dX9_year_74 rfl) dX9_year_75 fX9_32) ca_nil) (xCal_V (ci := 6) C dX9_year_78 wX6_creditOfAll vX9_255 rfl rfl good_X6_creditOfAll rc_X6_creditOfAll (by decide) (by decide)) (by decide)) dX9_year_81 (by decide) (ce_call (p1 := 88) (ca_cons (p1 := 88) (ce_fld C (ce_aln C dX9_year_84 rfl) dX9_year_85 fX9_32) ca_nil) (xCal_V (ci := 6) C dX9_year_88 wX6_brokenStiles vX9_258 rfl rfl good_X6_brokenStiles rc_X6_brokenStiles (by decide) (by decide)) (by decide))) dX9_year_91)))))
theorem good_X9_year : xGood yX9_year cX9_year 5 (some .int) 4 94 m_X9_year :=
  x_methI (ini := false) (bz := false) (Or.inl ⟨rfl, rfl⟩) ⟨fun h => (by cases h), fun h => (by cases h)⟩ (fun h => by cases h) (by decide) (fun K C => bo_X9_year C)

def bd_X9_keep : XS := (s_seq (s_ite (b_cmp0 r_ne0 (e_call m_X7_isFull [(e_fld 9 5 (e_al 0))])) (s_ret (e_lit (-3)))
 s_skip)
 (s_seq (s_call m_X7_push [(e_fld 9 5 (e_al 0)), (e_fld 9 2 (e_al 0))])
 (s_ret (e_fld 7 0 (e_fld 9 5 (e_al 0))))))
def m_X9_keep : XF := xM 9 0 1 false bd_X9_keep
theorem rc_X9_keep : xRecv m_X9_keep 9 0 := xM_recv
set_option maxRecDepth 100000 in
set_option maxHeartbeats 4000000 in
theorem bo_X9_keep {K : XK} (C : xOK K RX9 cX9_keep false false 3 60) : CS K 0 bd_X9_keep 32 0 0 :=
 (cs_seq (p1 := 13) (cs_itf (pT := 10) (pF := 13) (cc_ne0N (p1 := 7) C (ce_call (p1 := 4) (ca_cons (p1 := 4) (ce_fld C (ce_aln C dX9_keep_0 rfl) dX9_keep_1 fX9_44) ca_nil) (xCal_V (ci := 7) C dX9_keep_4 wX7_isFull vX9_261 rfl rfl good_X7_isFull rc_X7_isFull (by decide) (by decide)) (by decide)) dX9_keep_7 (by decide) rfl) (cs_ret (p1 := 12) C (ce_bipush C dX9_keep_10 (by decide)) dX9_keep_12)
 cs_skip)
 (cs_seq (p1 := 24) (cs_call (p1 := 21) (ca_cons (p1 := 17) (ce_fld C (ce_aln C dX9_keep_13 rfl) dX9_keep_14 fX9_44) (ca_cons (p1 := 21) (ce_fld C (ce_aln C dX9_keep_17 rfl) dX9_keep_18 fX9_28) ca_nil)) (xCal_V (ci := 7) C dX9_keep_21 wX7_push vX9_158 rfl rfl good_X7_push rc_X7_push (by decide) (by decide)))
 (cs_ret (p1 := 31) C (ce_fld C (ce_fld C (ce_aln C dX9_keep_24 rfl) dX9_keep_25 fX9_44) dX9_keep_28 fX9_177) dX9_keep_31)))
theorem good_X9_keep : xGood yX9_keep cX9_keep 1 (some .int) 3 60 m_X9_keep :=
  x_methI (ini := false) (bz := false) (Or.inl ⟨rfl, rfl⟩) ⟨fun h => (by cases h), fun h => (by cases h)⟩ (fun h => by cases h) (by decide) (fun K C => bo_X9_keep C)

def bd_X9_back : XS := (s_seq (s_ite (b_not (b_cmp0 r_ne0 (e_call m_X7_popInto [(e_fld 9 5 (e_al 0)), (e_fld 9 2 (e_al 0))]))) (s_ret (e_lit (-2)))
 s_skip)
 (s_seq (s_put 7 0 0 (e_fld 9 4 (e_al 0)) (e_lit 0))
 (s_ret (e_fld 7 0 (e_fld 9 5 (e_al 0))))))
def m_X9_back : XF := xM 9 0 1 false bd_X9_back
theorem rc_X9_back : xRecv m_X9_back 9 0 := xM_recv
set_option maxRecDepth 100000 in
set_option maxHeartbeats 4000000 in
theorem bo_X9_back {K : XK} (C : xOK K RX9 cX9_back false false 3 60) : CS K 0 bd_X9_back 33 0 0 :=
 (cs_seq (p1 := 17) (cs_itf (pT := 14) (pF := 17) (cc_not (cc_ne0J (p1 := 11) C (ce_call (p1 := 8) (ca_cons (p1 := 4) (ce_fld C (ce_aln C dX9_back_0 rfl) dX9_back_1 fX9_44) (ca_cons (p1 := 8) (ce_fld C (ce_aln C dX9_back_4 rfl) dX9_back_5 fX9_28) ca_nil)) (xCal_V (ci := 7) C dX9_back_8 wX7_popInto vX9_173 rfl rfl good_X7_popInto rc_X7_popInto (by decide) (by decide)) (by decide)) dX9_back_11 (by decide) rfl)) (cs_ret (p1 := 16) C (ce_bipush C dX9_back_14 (by decide)) dX9_back_16)
 cs_skip)
 (cs_seq (p1 := 25) (cs_put (p1 := 21) (p2 := 22) C (ce_fld C (ce_aln C dX9_back_17 rfl) dX9_back_18 fX9_40) (ce_iconst C dX9_back_21 (by decide)) dX9_back_22 pX9_177_false)
 (cs_ret (p1 := 32) C (ce_fld C (ce_fld C (ce_aln C dX9_back_25 rfl) dX9_back_26 fX9_44) dX9_back_29 fX9_177) dX9_back_32)))
theorem good_X9_back : xGood yX9_back cX9_back 1 (some .int) 3 60 m_X9_back :=
  x_methI (ini := false) (bz := false) (Or.inl ⟨rfl, rfl⟩) ⟨fun h => (by cases h), fun h => (by cases h)⟩ (fun h => by cases h) (by decide) (fun K C => bo_X9_back C)

def bd_X9_count : XS := (s_sw (e_il 1) [(0, (s_ret (e_fld 4 0 (e_fld 9 1 (e_al 0))))),
 (1, (s_ret (e_fld 4 2 (e_fld 9 1 (e_al 0))))),
 (2, (s_ret (e_fld 4 3 (e_fld 9 1 (e_al 0))))),
 (3, (s_ret (e_fld 6 0 (e_fld 9 2 (e_al 0))))),
 (4, (s_ret (e_call m_X6_brokenStiles [(e_fld 9 2 (e_al 0))]))),
 (5, (s_ret (e_call m_X6_wornOfAll [(e_fld 9 2 (e_al 0))]))),
 (6, (s_ret (e_call m_X6_creditOfAll [(e_fld 9 2 (e_al 0))]))),
 (7, (s_ret (e_fld 5 0 (e_fld 9 6 (e_al 0))))),
 (8, (s_ret (e_fld 7 0 (e_fld 9 4 (e_al 0))))),
 (9, (s_ret (e_fld 7 0 (e_fld 9 5 (e_al 0))))),
 (10, (s_ret (e_fld 8 0 (e_fld 9 0 (e_al 0)))))]
 (s_ret (e_lit (-1))))
def m_X9_count : XF := xM 9 1 2 false bd_X9_count
theorem rc_X9_count : xRecv m_X9_count 9 1 := xM_recv
set_option maxRecDepth 100000 in
set_option maxHeartbeats 4000000 in
theorem bo_X9_count {K : XK} (C : xOK K RX9 cX9_count false false 2 43) : CS K 0 bd_X9_count 150 0 0 :=
 (cs_table (p1 := 1) (ts := [60, 68, 76, 84, 92, 100, 108, 116, 124, 132, 140]) (td := 148) C (ce_iln C dX9_count_0 rfl) dX9_count_1 (by decide) (by decide) (by decide) (by decide) ⟨(cs_ret (p1 := 67) C (ce_fld C (ce_fld C (ce_aln C dX9_count_60 rfl) dX9_count_61 fX9_19) dX9_count_64 fX9_106) dX9_count_67),
 (cs_ret (p1 := 75) C (ce_fld C (ce_fld C (ce_aln C dX9_count_68 rfl) dX9_count_69 fX9_19) dX9_count_72 fX9_265) dX9_count_75),
 (cs_ret (p1 := 83) C (ce_fld C (ce_fld C (ce_aln C dX9_count_76 rfl) dX9_count_77 fX9_19) dX9_count_80 fX9_100) dX9_count_83),
 (cs_ret (p1 := 91) C (ce_fld C (ce_fld C (ce_aln C dX9_count_84 rfl) dX9_count_85 fX9_28) dX9_count_88 fX9_268) dX9_count_91),
 (cs_ret (p1 := 99) C (ce_call (p1 := 96) (ca_cons (p1 := 96) (ce_fld C (ce_aln C dX9_count_92 rfl) dX9_count_93 fX9_28) ca_nil) (xCal_V (ci := 6) C dX9_count_96 wX6_brokenStiles vX9_258 rfl rfl good_X6_brokenStiles rc_X6_brokenStiles (by decide) (by decide)) (by decide)) dX9_count_99),
 (cs_ret (p1 := 107) C (ce_call (p1 := 104) (ca_cons (p1 := 104) (ce_fld C (ce_aln C dX9_count_100 rfl) dX9_count_101 fX9_28) ca_nil) (xCal_V (ci := 6) C dX9_count_104 wX6_wornOfAll vX9_271 rfl rfl good_X6_wornOfAll rc_X6_wornOfAll (by decide) (by decide)) (by decide)) dX9_count_107),
 (cs_ret (p1 := 115) C (ce_call (p1 := 112) (ca_cons (p1 := 112) (ce_fld C (ce_aln C dX9_count_108 rfl) dX9_count_109 fX9_28) ca_nil) (xCal_V (ci := 6) C dX9_count_112 wX6_creditOfAll vX9_255 rfl rfl good_X6_creditOfAll rc_X6_creditOfAll (by decide) (by decide)) (by decide)) dX9_count_115),
 (cs_ret (p1 := 123) C (ce_fld C (ce_fld C (ce_aln C dX9_count_116 rfl) dX9_count_117 fX9_50) dX9_count_120 fX9_224) dX9_count_123),
 (cs_ret (p1 := 131) C (ce_fld C (ce_fld C (ce_aln C dX9_count_124 rfl) dX9_count_125 fX9_40) dX9_count_128 fX9_177) dX9_count_131),
 (cs_ret (p1 := 139) C (ce_fld C (ce_fld C (ce_aln C dX9_count_132 rfl) dX9_count_133 fX9_44) dX9_count_136 fX9_177) dX9_count_139),
 (cs_ret (p1 := 147) C (ce_fld C (ce_fld C (ce_aln C dX9_count_140 rfl) dX9_count_141 fX9_10) dX9_count_144 fX9_89) dX9_count_147), trivial⟩
 (cs_ret (p1 := 149) C (ce_iconst C dX9_count_148 (by decide)) dX9_count_149))
theorem good_X9_count : xGood yX9_count cX9_count 2 (some .int) 2 43 m_X9_count :=
  x_methI (ini := false) (bz := false) (Or.inl ⟨rfl, rfl⟩) ⟨fun h => (by cases h), fun h => (by cases h)⟩ (fun h => by cases h) (by decide) (fun K C => bo_X9_count C)

def lc_X9_layFirstText_1 : XB := (b_cmp r_lt (e_il 1) (e_slen))
def la_X9_layFirstText_1 : XS := (s_exp (e_call m_X8_append [(e_fld 9 0 (e_al 0)), (e_sat (e_il 1))]))
def lu_X9_layFirstText_1 : XS := (s_inc 1 1)
def bd_X9_layFirstText : XS := (s_seq (s_iasg 1 (e_lit 0))
 (s_seq (s_loop 1000 (lc_X9_layFirstText_1) (la_X9_layFirstText_1) (lu_X9_layFirstText_1))
 (s_seq (s_exp (e_call m_X8_firstFault [(e_fld 9 0 (e_al 0))]))
 (s_seq (s_call m_X9_layTold [(e_al 0)])
 (s_seq (s_put 8 0 0 (e_fld 9 0 (e_al 0)) (e_lit 0))
 s_retV)))))
def m_X9_layFirstText : XF := xM 9 0 2 true bd_X9_layFirstText
theorem rc_X9_layFirstText : xRecv m_X9_layFirstText 9 0 := xM_recv
set_option maxRecDepth 100000 in
set_option maxHeartbeats 4000000 in
theorem bo_X9_layFirstText {K : XK} (C : xOK K RX9 cX9_layFirstText false false 4 100) : CS K 0 bd_X9_layFirstText 54 0 0 :=
 (cs_seq (p1 := 2) (cs_iasgn (p1 := 1) C (ce_iconst C dX9_layFirstText_0 (by decide)) dX9_layFirstText_1 rfl)
 (cs_seq (p1 := 33) (cs_loop (pB := 12) (pE := 33) (pu := 27) (p2 := 30) C (cc_ltN (p1 := 3) (p2 := 9) C (ce_iln C dX9_layFirstText_2 rfl) (ce_slen C dX9_layFirstText_3 dX9_layFirstText_6 (by decide) (by decide) (by decide)) dX9_layFirstText_9 (by decide) rfl)
 (cs_exp (p1 := 26) C (ce_call (p1 := 23) (ca_cons (p1 := 16) (ce_fld C (ce_aln C dX9_layFirstText_12 rfl) dX9_layFirstText_13 fX9_10) (ca_cons (p1 := 23) (ce_sat (p2 := 20) C dX9_layFirstText_16 (fun _ => (ce_iln C dX9_layFirstText_19 rfl)) dX9_layFirstText_20 (by decide) (by decide) (by decide)) ca_nil)) (xCal_V (ci := 8) C dX9_layFirstText_23 wX8_append vX9_85 rfl rfl good_X8_append rc_X8_append (by decide) (by decide)) (by decide)) dX9_layFirstText_26)
 (cs_inc C dX9_layFirstText_27 (by decide)) dX9_layFirstText_30 (by decide))
 (cs_seq (p1 := 41) (cs_exp (p1 := 40) C (ce_call (p1 := 37) (ca_cons (p1 := 37) (ce_fld C (ce_aln C dX9_layFirstText_33 rfl) dX9_layFirstText_34 fX9_10) ca_nil) (xCal_V (ci := 8) C dX9_layFirstText_37 wX8_firstFault vX9_93 rfl rfl good_X8_firstFault rc_X8_firstFault (by decide) (by decide)) (by decide)) dX9_layFirstText_40)
 (cs_seq (p1 := 45) (cs_call (p1 := 42) (ca_cons (p1 := 42) (ce_aln C dX9_layFirstText_41 rfl) ca_nil) (xCal_V (ci := 9) C dX9_layFirstText_42 wX9_layTold vX9_103 rfl rfl good_X9_layTold rc_X9_layTold (by decide) (by decide)))
 (cs_seq (p1 := 53) (cs_put (p1 := 49) (p2 := 50) C (ce_fld C (ce_aln C dX9_layFirstText_45 rfl) dX9_layFirstText_46 fX9_10) (ce_iconst C dX9_layFirstText_49 (by decide)) dX9_layFirstText_50 pX9_89_false)
 (cs_retV C dX9_layFirstText_53))))))
theorem good_X9_layFirstText : xGood yX9_layFirstText cX9_layFirstText 2 none 4 100 m_X9_layFirstText :=
  x_methI (ini := false) (bz := false) (Or.inr (Or.inr rfl)) ⟨fun _ => rfl, fun _ => rfl⟩ (fun h => by cases h) (by decide) (fun K C => bo_X9_layFirstText C)

def bd_X9_init : XS := (s_seq s_oinit
 (s_seq (s_put 9 0 2 (e_al 0) (e_new 8 m_X8_init []))
 (s_seq (s_put 9 1 2 (e_al 0) (e_new 4 m_X4_init []))
 (s_seq (s_put 9 2 2 (e_al 0) (e_new 6 m_X6_init [(e_fld 9 1 (e_al 0))]))
 (s_seq (s_put 9 3 2 (e_al 0) (e_new 6 m_X6_init [(e_fld 9 1 (e_al 0))]))
 (s_seq (s_put 9 4 2 (e_al 0) (e_new 7 m_X7_init [(e_lit 8), (e_fld 9 1 (e_al 0))]))
 (s_seq (s_put 9 5 2 (e_al 0) (e_new 7 m_X7_init [(e_lit 2), (e_fld 9 1 (e_al 0))]))
 (s_seq (s_put 9 6 2 (e_al 0) (e_new 5 m_X5_init []))
 (s_seq (s_put 9 7 2 (e_al 0) (e_new 0 m_X0_init []))
 (s_seq (s_put 9 8 2 (e_al 0) (e_new 2 m_X2_init []))
 (s_seq (s_put 9 9 2 (e_al 0) (e_new 3 m_X3_init []))
 (s_seq (s_put 9 10 2 (e_al 0) (e_new 1 m_X1_init []))
 (s_seq (s_call m_X9_layFirstText [(e_al 0)])
 s_retV)))))))))))))
def m_X9_init : XF := xM 9 0 1 true bd_X9_init
theorem rc_X9_init : xRecv m_X9_init 9 0 := xM_recv
set_option maxRecDepth 100000 in
set_option maxHeartbeats 4000000 in
theorem bo_X9_init {K : XK} (C : xOK K RX9 cX9_init true false 5 121) : CS K 0 bd_X9_init 149 0 0 :=
 (cs_seq (p1 := 4) (cs_oinit C dX9_init_0 dX9_init_1 oiX9_1 xW_oi1 xW_oi2 (by decide) (by decide))
 (cs_seq (p1 := 15) (cs_put (p1 := 5) (p2 := 12) C (ce_aln C dX9_init_4 rfl) (ce_new (p1 := 9) C dX9_init_5 nX9_7 dX9_init_8 ca_nil (xCal_I (ci := 8) C dX9_init_9 wX8_init vX9_9 good_X8_init rc_X8_init (by decide) (by decide)) (by decide)) dX9_init_12 pX9_10_true)
 (cs_seq (p1 := 26) (cs_put (p1 := 16) (p2 := 23) C (ce_aln C dX9_init_15 rfl) (ce_new (p1 := 20) C dX9_init_16 nX9_16 dX9_init_19 ca_nil (xCal_I (ci := 4) C dX9_init_20 wX4_init vX9_18 good_X4_init rc_X4_init (by decide) (by decide)) (by decide)) dX9_init_23 pX9_19_true)
 (cs_seq (p1 := 41) (cs_put (p1 := 27) (p2 := 38) C (ce_aln C dX9_init_26 rfl) (ce_new (p1 := 35) C dX9_init_27 nX9_23 dX9_init_30 (ca_cons (p1 := 35) (ce_fld C (ce_aln C dX9_init_31 rfl) dX9_init_32 fX9_19) ca_nil) (xCal_I (ci := 6) C dX9_init_35 wX6_init vX9_25 good_X6_init rc_X6_init (by decide) (by decide)) (by decide)) dX9_init_38 pX9_28_true)
 (cs_seq (p1 := 56) (cs_put (p1 := 42) (p2 := 53) C (ce_aln C dX9_init_41 rfl) (ce_new (p1 := 50) C dX9_init_42 nX9_23 dX9_init_45 (ca_cons (p1 := 50) (ce_fld C (ce_aln C dX9_init_46 rfl) dX9_init_47 fX9_19) ca_nil) (xCal_I (ci := 6) C dX9_init_50 wX6_init vX9_25 good_X6_init rc_X6_init (by decide) (by decide)) (by decide)) dX9_init_53 pX9_32_true)
 (cs_seq (p1 := 73) (cs_put (p1 := 57) (p2 := 70) C (ce_aln C dX9_init_56 rfl) (ce_new (p1 := 67) C dX9_init_57 nX9_35 dX9_init_60 (ca_cons (p1 := 63) (ce_bipush C dX9_init_61 (by decide)) (ca_cons (p1 := 67) (ce_fld C (ce_aln C dX9_init_63 rfl) dX9_init_64 fX9_19) ca_nil)) (xCal_I (ci := 7) C dX9_init_67 wX7_init vX9_37 good_X7_init rc_X7_init (by decide) (by decide)) (by decide)) dX9_init_70 pX9_40_true)
 (cs_seq (p1 := 89) (cs_put (p1 := 74) (p2 := 86) C (ce_aln C dX9_init_73 rfl) (ce_new (p1 := 83) C dX9_init_74 nX9_35 dX9_init_77 (ca_cons (p1 := 79) (ce_iconst C dX9_init_78 (by decide)) (ca_cons (p1 := 83) (ce_fld C (ce_aln C dX9_init_79 rfl) dX9_init_80 fX9_19) ca_nil)) (xCal_I (ci := 7) C dX9_init_83 wX7_init vX9_37 good_X7_init rc_X7_init (by decide) (by decide)) (by decide)) dX9_init_86 pX9_44_true)
 (cs_seq (p1 := 100) (cs_put (p1 := 90) (p2 := 97) C (ce_aln C dX9_init_89 rfl) (ce_new (p1 := 94) C dX9_init_90 nX9_47 dX9_init_93 ca_nil (xCal_I (ci := 5) C dX9_init_94 wX5_init vX9_49 good_X5_init rc_X5_init (by decide) (by decide)) (by decide)) dX9_init_97 pX9_50_true)
 (cs_seq (p1 := 111) (cs_put (p1 := 101) (p2 := 108) C (ce_aln C dX9_init_100 rfl) (ce_new (p1 := 105) C dX9_init_101 nX9_54 dX9_init_104 ca_nil (xCal_I (ci := 0) C dX9_init_105 wX0_init vX9_56 good_X0_init rc_X0_init (by decide) (by decide)) (by decide)) dX9_init_108 pX9_57_true)
 (cs_seq (p1 := 122) (cs_put (p1 := 112) (p2 := 119) C (ce_aln C dX9_init_111 rfl) (ce_new (p1 := 116) C dX9_init_112 nX9_61 dX9_init_115 ca_nil (xCal_I (ci := 2) C dX9_init_116 wX2_init vX9_63 good_X2_init rc_X2_init (by decide) (by decide)) (by decide)) dX9_init_119 pX9_64_true)
 (cs_seq (p1 := 133) (cs_put (p1 := 123) (p2 := 130) C (ce_aln C dX9_init_122 rfl) (ce_new (p1 := 127) C dX9_init_123 nX9_68 dX9_init_126 ca_nil (xCal_I (ci := 3) C dX9_init_127 wX3_init vX9_70 good_X3_init rc_X3_init (by decide) (by decide)) (by decide)) dX9_init_130 pX9_71_true)
 (cs_seq (p1 := 144) (cs_put (p1 := 134) (p2 := 141) C (ce_aln C dX9_init_133 rfl) (ce_new (p1 := 138) C dX9_init_134 nX9_75 dX9_init_137 ca_nil (xCal_I (ci := 1) C dX9_init_138 wX1_init vX9_77 good_X1_init rc_X1_init (by decide) (by decide)) (by decide)) dX9_init_141 pX9_78_true)
 (cs_seq (p1 := 148) (cs_call (p1 := 145) (ca_cons (p1 := 145) (ce_aln C dX9_init_144 rfl) ca_nil) (xCal_V (ci := 9) C dX9_init_145 wX9_layFirstText vX9_82 rfl rfl good_X9_layFirstText rc_X9_layFirstText (by decide) (by decide)))
 (cs_retV C dX9_init_148))))))))))))))
theorem good_X9_init : xGood yX9_init cX9_init 1 none 5 121 m_X9_init :=
  x_methI (ini := true) (bz := false) (Or.inr (Or.inr rfl)) ⟨fun _ => rfl, fun _ => rfl⟩ (fun _ => rfl) (by decide) (fun K C => bo_X9_init C)
