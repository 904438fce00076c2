/-! the methods, by program out of the sources: the small classes -/
def bd_X4_clear : XS := (s_seq (s_put 4 0 0 (e_al 0) (e_lit 5))
 (s_seq (s_put 4 1 0 (e_al 0) (e_lit 40))
 (s_seq (s_put 4 2 0 (e_al 0) (e_lit 0))
 (s_seq (s_put 4 3 0 (e_al 0) (e_lit 0))
 s_retV))))
def m_X4_clear : XF := xM 4 0 1 true bd_X4_clear
theorem rc_X4_clear : xRecv m_X4_clear 4 0 := xM_recv
set_option maxRecDepth 100000 in
set_option maxHeartbeats 4000000 in
theorem bo_X4_clear {K : XK} (C : xOK K RX4 cX4_clear false false 0 0) : CS K 0 bd_X4_clear 22 0 0 :=
 (cs_seq (p1 := 5) (cs_put (p1 := 1) (p2 := 2) C (ce_aln C dX4_clear_0 rfl) (ce_iconst C dX4_clear_1 (by decide)) dX4_clear_2 pX4_30_false)
 (cs_seq (p1 := 11) (cs_put (p1 := 6) (p2 := 8) C (ce_aln C dX4_clear_5 rfl) (ce_bipush C dX4_clear_6 (by decide)) dX4_clear_8 pX4_34_false)
 (cs_seq (p1 := 16) (cs_put (p1 := 12) (p2 := 13) C (ce_aln C dX4_clear_11 rfl) (ce_iconst C dX4_clear_12 (by decide)) dX4_clear_13 pX4_37_false)
 (cs_seq (p1 := 21) (cs_put (p1 := 17) (p2 := 18) C (ce_aln C dX4_clear_16 rfl) (ce_iconst C dX4_clear_17 (by decide)) dX4_clear_18 pX4_40_false)
 (cs_retV C dX4_clear_21)))))
theorem good_X4_clear : xGood yX4_clear cX4_clear 1 none 0 0 m_X4_clear :=
  x_methI (ini := false) (bz := false) (Or.inr (Or.inr rfl)) ⟨fun _ => rfl, fun _ => rfl⟩ (fun h => by cases h) (by decide) (fun K C => bo_X4_clear C)

def bd_X4_copyFrom : XS := (s_seq (s_put 4 0 0 (e_al 0) (e_fld 4 0 (e_al 1)))
 (s_seq (s_put 4 1 0 (e_al 0) (e_fld 4 1 (e_al 1)))
 (s_seq (s_put 4 2 0 (e_al 0) (e_fld 4 2 (e_al 1)))
 (s_seq (s_put 4 3 0 (e_al 0) (e_fld 4 3 (e_al 1)))
 (s_seq (s_copy (e_fld 4 4 (e_al 1)) (e_fld 4 4 (e_al 0)) (e_lit 9))
 (s_seq (s_copy (e_fld 4 5 (e_al 1)) (e_fld 4 5 (e_al 0)) (e_lit 9))
 (s_seq (s_copy (e_fld 4 6 (e_al 1)) (e_fld 4 6 (e_al 0)) (e_lit 9))
 (s_seq (s_copy (e_fld 4 7 (e_al 1)) (e_fld 4 7 (e_al 0)) (e_lit 4))
 (s_seq (s_copy (e_fld 4 8 (e_al 1)) (e_fld 4 8 (e_al 0)) (e_lit 4))
 (s_seq (s_copy (e_fld 4 9 (e_al 1)) (e_fld 4 9 (e_al 0)) (e_lit 4))
 s_retV))))))))))
def m_X4_copyFrom : XF := xM 4 1 2 true bd_X4_copyFrom
theorem rc_X4_copyFrom : xRecv m_X4_copyFrom 4 1 := xM_recv
set_option maxRecDepth 100000 in
set_option maxHeartbeats 4000000 in
theorem bo_X4_copyFrom {K : XK} (C : xOK K RX4 cX4_copyFrom false false 1 18) : CS K 0 bd_X4_copyFrom 120 0 0 :=
 (cs_seq (p1 := 8) (cs_put (p1 := 1) (p2 := 5) C (ce_aln C dX4_copyFrom_0 rfl) (ce_fld C (ce_aln C dX4_copyFrom_1 rfl) dX4_copyFrom_2 fX4_30) dX4_copyFrom_5 pX4_30_false)
 (cs_seq (p1 := 16) (cs_put (p1 := 9) (p2 := 13) C (ce_aln C dX4_copyFrom_8 rfl) (ce_fld C (ce_aln C dX4_copyFrom_9 rfl) dX4_copyFrom_10 fX4_34) dX4_copyFrom_13 pX4_34_false)
 (cs_seq (p1 := 24) (cs_put (p1 := 17) (p2 := 21) C (ce_aln C dX4_copyFrom_16 rfl) (ce_fld C (ce_aln C dX4_copyFrom_17 rfl) dX4_copyFrom_18 fX4_37) dX4_copyFrom_21 pX4_37_false)
 (cs_seq (p1 := 32) (cs_put (p1 := 25) (p2 := 29) C (ce_aln C dX4_copyFrom_24 rfl) (ce_fld C (ce_aln C dX4_copyFrom_25 rfl) dX4_copyFrom_26 fX4_40) dX4_copyFrom_29 pX4_40_false)
 (cs_seq (p1 := 47) (cs_copy (p1 := 44) C (ca_cons (p1 := 36) (ce_fld C (ce_aln C dX4_copyFrom_32 rfl) dX4_copyFrom_33 fX4_9) (ca_cons (p1 := 37) (ce_iconst C dX4_copyFrom_36 (by decide)) (ca_cons (p1 := 41) (ce_fld C (ce_aln C dX4_copyFrom_37 rfl) dX4_copyFrom_38 fX4_9) (ca_cons (p1 := 42) (ce_iconst C dX4_copyFrom_41 (by decide)) (ca_cons (p1 := 44) (ce_bipush C dX4_copyFrom_42 (by decide)) ca_nil))))) dX4_copyFrom_44 cpX4_43 (by decide) (by decide))
 (cs_seq (p1 := 62) (cs_copy (p1 := 59) C (ca_cons (p1 := 51) (ce_fld C (ce_aln C dX4_copyFrom_47 rfl) dX4_copyFrom_48 fX4_15) (ca_cons (p1 := 52) (ce_iconst C dX4_copyFrom_51 (by decide)) (ca_cons (p1 := 56) (ce_fld C (ce_aln C dX4_copyFrom_52 rfl) dX4_copyFrom_53 fX4_15) (ca_cons (p1 := 57) (ce_iconst C dX4_copyFrom_56 (by decide)) (ca_cons (p1 := 59) (ce_bipush C dX4_copyFrom_57 (by decide)) ca_nil))))) dX4_copyFrom_59 cpX4_43 (by decide) (by decide))
 (cs_seq (p1 := 77) (cs_copy (p1 := 74) C (ca_cons (p1 := 66) (ce_fld C (ce_aln C dX4_copyFrom_62 rfl) dX4_copyFrom_63 fX4_18) (ca_cons (p1 := 67) (ce_iconst C dX4_copyFrom_66 (by decide)) (ca_cons (p1 := 71) (ce_fld C (ce_aln C dX4_copyFrom_67 rfl) dX4_copyFrom_68 fX4_18) (ca_cons (p1 := 72) (ce_iconst C dX4_copyFrom_71 (by decide)) (ca_cons (p1 := 74) (ce_bipush C dX4_copyFrom_72 (by decide)) ca_nil))))) dX4_copyFrom_74 cpX4_43 (by decide) (by decide))
 (cs_seq (p1 := 91) (cs_copy (p1 := 88) C (ca_cons (p1 := 81) (ce_fld C (ce_aln C dX4_copyFrom_77 rfl) dX4_copyFrom_78 fX4_21) (ca_cons (p1 := 82) (ce_iconst C dX4_copyFrom_81 (by decide)) (ca_cons (p1 := 86) (ce_fld C (ce_aln C dX4_copyFrom_82 rfl) dX4_copyFrom_83 fX4_21) (ca_cons (p1 := 87) (ce_iconst C dX4_copyFrom_86 (by decide)) (ca_cons (p1 := 88) (ce_iconst C dX4_copyFrom_87 (by decide)) ca_nil))))) dX4_copyFrom_88 cpX4_43 (by decide) (by decide))
 (cs_seq (p1 := 105) (cs_copy (p1 := 102) C (ca_cons (p1 := 95) (ce_fld C (ce_aln C dX4_copyFrom_91 rfl) dX4_copyFrom_92 fX4_24) (ca_cons (p1 := 96) (ce_iconst C dX4_copyFrom_95 (by decide)) (ca_cons (p1 := 100) (ce_fld C (ce_aln C dX4_copyFrom_96 rfl) dX4_copyFrom_97 fX4_24) (ca_cons (p1 := 101) (ce_iconst C dX4_copyFrom_100 (by decide)) (ca_cons (p1 := 102) (ce_iconst C dX4_copyFrom_101 (by decide)) ca_nil))))) dX4_copyFrom_102 cpX4_43 (by decide) (by decide))
 (cs_seq (p1 := 119) (cs_copy (p1 := 116) C (ca_cons (p1 := 109) (ce_fld C (ce_aln C dX4_copyFrom_105 rfl) dX4_copyFrom_106 fX4_27) (ca_cons (p1 := 110) (ce_iconst C dX4_copyFrom_109 (by decide)) (ca_cons (p1 := 114) (ce_fld C (ce_aln C dX4_copyFrom_110 rfl) dX4_copyFrom_111 fX4_27) (ca_cons (p1 := 115) (ce_iconst C dX4_copyFrom_114 (by decide)) (ca_cons (p1 := 116) (ce_iconst C dX4_copyFrom_115 (by decide)) ca_nil))))) dX4_copyFrom_116 cpX4_43 (by decide) (by decide))
 (cs_retV C dX4_copyFrom_119)))))))))))
theorem good_X4_copyFrom : xGood yX4_copyFrom cX4_copyFrom 2 none 1 18 m_X4_copyFrom :=
  x_methI (ini := false) (bz := false) (Or.inr (Or.inr rfl)) ⟨fun _ => rfl, fun _ => rfl⟩ (fun h => by cases h) (by decide) (fun K C => bo_X4_copyFrom C)

def bd_X4_hasField : XS := (s_retZ (e_tern (b_and (b_cmp0 r_ge0 (e_il 1)) (b_cmp r_lt (e_il 1) (e_fld 4 0 (e_al 0)))) (e_lit 1) (e_lit 0)))
def m_X4_hasField : XF := xM 4 1 2 false bd_X4_hasField
theorem rc_X4_hasField : xRecv m_X4_hasField 4 1 := xM_recv
set_option maxRecDepth 100000 in
set_option maxHeartbeats 4000000 in
theorem bo_X4_hasField {K : XK} (C : xOK K RX4 cX4_hasField false true 0 0) : CS K 0 bd_X4_hasField 18 0 0 :=
 (cs_retZ (p1 := 17) C (ce_tern (pT := 12) (pF := 16) (p1 := 13) C (cc_and (pM := 4) (cc_ge0N (p1 := 1) C (ce_iln C dX4_hasField_0 rfl) dX4_hasField_1 (by decide) rfl) (cc_ltN (p1 := 5) (p2 := 9) C (ce_iln C dX4_hasField_4 rfl) (ce_fld C (ce_aln C dX4_hasField_5 rfl) dX4_hasField_6 fX4_30) dX4_hasField_9 (by decide) rfl)) (ce_iconst C dX4_hasField_12 (by decide)) dX4_hasField_13 (by decide) (ce_iconst C dX4_hasField_16 (by decide))) dX4_hasField_17)
theorem good_X4_hasField : xGood yX4_hasField cX4_hasField 2 (some .boolean) 0 0 m_X4_hasField :=
  x_methI (ini := false) (bz := true) (Or.inr (Or.inl ⟨rfl, rfl⟩)) ⟨fun h => (by cases h), fun h => (by cases h)⟩ (fun h => by cases h) (by decide) (fun K C => bo_X4_hasField C)

def bd_X4_addStile : XS := (s_seq (s_ite (b_or (b_or (b_or (b_or (b_cmp r_ge (e_fld 4 2 (e_al 0)) (e_lit 9)) (b_cmp r_gt (e_il 1) (e_lit 3))) (b_not (b_cmp0 r_ne0 (e_call m_X4_hasField [(e_al 0), (e_il 2)])))) (b_not (b_cmp0 r_ne0 (e_call m_X4_hasField [(e_al 0), (e_il 3)])))) (b_cmp r_eq (e_il 2) (e_il 3))) (s_retZ (e_lit 0))
 s_skip)
 (s_seq (s_ast 0 (e_fld 4 4 (e_al 0)) (e_fld 4 2 (e_al 0)) (e_il 1))
 (s_seq (s_ast 0 (e_fld 4 5 (e_al 0)) (e_fld 4 2 (e_al 0)) (e_il 2))
 (s_seq (s_ast 0 (e_fld 4 6 (e_al 0)) (e_fld 4 2 (e_al 0)) (e_il 3))
 (s_seq (s_putop 4 2 o_add (e_al 0) (e_lit 1))
 (s_retZ (e_lit 1)))))))
def m_X4_addStile : XF := xM 4 3 4 false bd_X4_addStile
theorem rc_X4_addStile : xRecv m_X4_addStile 4 3 := xM_recv
set_option maxRecDepth 100000 in
set_option maxHeartbeats 4000000 in
theorem bo_X4_addStile {K : XK} (C : xOK K RX4 cX4_addStile false true 1 21) : CS K 0 bd_X4_addStile 79 0 0 :=
 (cs_seq (p1 := 37) (cs_itf (pT := 35) (pF := 37) (cc_or (pM := 30) (cc_or (pM := 22) (cc_or (pM := 14) (cc_or (pM := 9) (cc_geJ (p1 := 4) (p2 := 6) C (ce_fld C (ce_aln C dX4_addStile_0 rfl) dX4_addStile_1 fX4_37) (ce_bipush C dX4_addStile_4 (by decide)) dX4_addStile_6 (by decide) rfl) (cc_gtJ (p1 := 10) (p2 := 11) C (ce_iln C dX4_addStile_9 rfl) (ce_iconst C dX4_addStile_10 (by decide)) dX4_addStile_11 (by decide) rfl)) (cc_not (cc_ne0N (p1 := 19) C (ce_call (p1 := 16) (ca_cons (p1 := 15) (ce_aln C dX4_addStile_14 rfl) (ca_cons (p1 := 16) (ce_iln C dX4_addStile_15 rfl) ca_nil)) (xCal_V (ci := 4) C dX4_addStile_16 wX4_hasField vX4_49 rfl rfl good_X4_hasField rc_X4_hasField (by decide) (by decide)) (by decide)) dX4_addStile_19 (by decide) rfl))) (cc_not (cc_ne0N (p1 := 27) C (ce_call (p1 := 24) (ca_cons (p1 := 23) (ce_aln C dX4_addStile_22 rfl) (ca_cons (p1 := 24) (ce_iln C dX4_addStile_23 rfl) ca_nil)) (xCal_V (ci := 4) C dX4_addStile_24 wX4_hasField vX4_49 rfl rfl good_X4_hasField rc_X4_hasField (by decide) (by decide)) (by decide)) dX4_addStile_27 (by decide) rfl))) (cc_eqN (p1 := 31) (p2 := 32) C (ce_iln C dX4_addStile_30 rfl) (ce_iln C dX4_addStile_31 rfl) dX4_addStile_32 (by decide) rfl)) (cs_retZ (p1 := 36) C (ce_iconst C dX4_addStile_35 (by decide)) dX4_addStile_36)
 cs_skip)
 (cs_seq (p1 := 47) (cs_iast (p1 := 41) (p2 := 45) (p3 := 46) C (ce_fld C (ce_aln C dX4_addStile_37 rfl) dX4_addStile_38 fX4_9) (ce_fld C (ce_aln C dX4_addStile_41 rfl) dX4_addStile_42 fX4_37) (ce_iln C dX4_addStile_45 rfl) dX4_addStile_46)
 (cs_seq (p1 := 57) (cs_iast (p1 := 51) (p2 := 55) (p3 := 56) C (ce_fld C (ce_aln C dX4_addStile_47 rfl) dX4_addStile_48 fX4_15) (ce_fld C (ce_aln C dX4_addStile_51 rfl) dX4_addStile_52 fX4_37) (ce_iln C dX4_addStile_55 rfl) dX4_addStile_56)
 (cs_seq (p1 := 67) (cs_iast (p1 := 61) (p2 := 65) (p3 := 66) C (ce_fld C (ce_aln C dX4_addStile_57 rfl) dX4_addStile_58 fX4_18) (ce_fld C (ce_aln C dX4_addStile_61 rfl) dX4_addStile_62 fX4_37) (ce_iln C dX4_addStile_65 rfl) dX4_addStile_66)
 (cs_seq (p1 := 77) (cs_putop (p1 := 68) (p2 := 73) C (ce_aln C dX4_addStile_67 rfl) dX4_addStile_68 dX4_addStile_69 fX4_37 (ce_iconst C dX4_addStile_72 (by decide)) (ob_add C dX4_addStile_73) dX4_addStile_74 pX4_37_false)
 (cs_retZ (p1 := 78) C (ce_iconst C dX4_addStile_77 (by decide)) dX4_addStile_78))))))
theorem good_X4_addStile : xGood yX4_addStile cX4_addStile 4 (some .boolean) 1 21 m_X4_addStile :=
  x_methI (ini := false) (bz := true) (Or.inr (Or.inl ⟨rfl, rfl⟩)) ⟨fun h => (by cases h), fun h => (by cases h)⟩ (fun h => by cases h) (by decide) (fun K C => bo_X4_addStile C)

def bd_X4_addWalker : XS := (s_seq (s_ite (b_or (b_or (b_or (b_or (b_cmp r_ge (e_fld 4 3 (e_al 0)) (e_lit 4)) (b_cmp r_gt (e_il 1) (e_lit 3))) (b_not (b_cmp0 r_ne0 (e_call m_X4_hasField [(e_al 0), (e_il 2)])))) (b_cmp r_lt (e_il 3) (e_lit 1))) (b_cmp r_gt (e_il 3) (e_lit 9))) (s_retZ (e_lit 0))
 s_skip)
 (s_seq (s_ast 0 (e_fld 4 7 (e_al 0)) (e_fld 4 3 (e_al 0)) (e_il 1))
 (s_seq (s_ast 0 (e_fld 4 8 (e_al 0)) (e_fld 4 3 (e_al 0)) (e_il 2))
 (s_seq (s_ast 0 (e_fld 4 9 (e_al 0)) (e_fld 4 3 (e_al 0)) (e_il 3))
 (s_seq (s_putop 4 3 o_add (e_al 0) (e_lit 1))
 (s_retZ (e_lit 1)))))))
def m_X4_addWalker : XF := xM 4 3 4 false bd_X4_addWalker
theorem rc_X4_addWalker : xRecv m_X4_addWalker 4 3 := xM_recv
set_option maxRecDepth 100000 in
set_option maxHeartbeats 4000000 in
theorem bo_X4_addWalker {K : XK} (C : xOK K RX4 cX4_addWalker false true 1 21) : CS K 0 bd_X4_addWalker 76 0 0 :=
 (cs_seq (p1 := 34) (cs_itf (pT := 32) (pF := 34) (cc_or (pM := 26) (cc_or (pM := 21) (cc_or (pM := 13) (cc_or (pM := 8) (cc_geJ (p1 := 4) (p2 := 5) C (ce_fld C (ce_aln C dX4_addWalker_0 rfl) dX4_addWalker_1 fX4_40) (ce_iconst C dX4_addWalker_4 (by decide)) dX4_addWalker_5 (by decide) rfl) (cc_gtJ (p1 := 9) (p2 := 10) C (ce_iln C dX4_addWalker_8 rfl) (ce_iconst C dX4_addWalker_9 (by decide)) dX4_addWalker_10 (by decide) rfl)) (cc_not (cc_ne0N (p1 := 18) C (ce_call (p1 := 15) (ca_cons (p1 := 14) (ce_aln C dX4_addWalker_13 rfl) (ca_cons (p1 := 15) (ce_iln C dX4_addWalker_14 rfl) ca_nil)) (xCal_V (ci := 4) C dX4_addWalker_15 wX4_hasField vX4_49 rfl rfl good_X4_hasField rc_X4_hasField (by decide) (by decide)) (by decide)) dX4_addWalker_18 (by decide) rfl))) (cc_ltJ (p1 := 22) (p2 := 23) C (ce_iln C dX4_addWalker_21 rfl) (ce_iconst C dX4_addWalker_22 (by decide)) dX4_addWalker_23 (by decide) rfl)) (cc_gtN (p1 := 27) (p2 := 29) C (ce_iln C dX4_addWalker_26 rfl) (ce_bipush C dX4_addWalker_27 (by decide)) dX4_addWalker_29 (by decide) rfl)) (cs_retZ (p1 := 33) C (ce_iconst C dX4_addWalker_32 (by decide)) dX4_addWalker_33)
 cs_skip)
 (cs_seq (p1 := 44) (cs_iast (p1 := 38) (p2 := 42) (p3 := 43) C (ce_fld C (ce_aln C dX4_addWalker_34 rfl) dX4_addWalker_35 fX4_21) (ce_fld C (ce_aln C dX4_addWalker_38 rfl) dX4_addWalker_39 fX4_40) (ce_iln C dX4_addWalker_42 rfl) dX4_addWalker_43)
 (cs_seq (p1 := 54) (cs_iast (p1 := 48) (p2 := 52) (p3 := 53) C (ce_fld C (ce_aln C dX4_addWalker_44 rfl) dX4_addWalker_45 fX4_24) (ce_fld C (ce_aln C dX4_addWalker_48 rfl) dX4_addWalker_49 fX4_40) (ce_iln C dX4_addWalker_52 rfl) dX4_addWalker_53)
 (cs_seq (p1 := 64) (cs_iast (p1 := 58) (p2 := 62) (p3 := 63) C (ce_fld C (ce_aln C dX4_addWalker_54 rfl) dX4_addWalker_55 fX4_27) (ce_fld C (ce_aln C dX4_addWalker_58 rfl) dX4_addWalker_59 fX4_40) (ce_iln C dX4_addWalker_62 rfl) dX4_addWalker_63)
 (cs_seq (p1 := 74) (cs_putop (p1 := 65) (p2 := 70) C (ce_aln C dX4_addWalker_64 rfl) dX4_addWalker_65 dX4_addWalker_66 fX4_40 (ce_iconst C dX4_addWalker_69 (by decide)) (ob_add C dX4_addWalker_70) dX4_addWalker_71 pX4_40_false)
 (cs_retZ (p1 := 75) C (ce_iconst C dX4_addWalker_74 (by decide)) dX4_addWalker_75))))))
theorem good_X4_addWalker : xGood yX4_addWalker cX4_addWalker 4 (some .boolean) 1 21 m_X4_addWalker :=
  x_methI (ini := false) (bz := true) (Or.inr (Or.inl ⟨rfl, rfl⟩)) ⟨fun h => (by cases h), fun h => (by cases h)⟩ (fun h => by cases h) (by decide) (fun K C => bo_X4_addWalker C)

def bd_X4_hasStile : XS := (s_retZ (e_tern (b_and (b_cmp0 r_ge0 (e_il 1)) (b_cmp r_lt (e_il 1) (e_fld 4 2 (e_al 0)))) (e_lit 1) (e_lit 0)))
def m_X4_hasStile : XF := xM 4 1 2 false bd_X4_hasStile
theorem rc_X4_hasStile : xRecv m_X4_hasStile 4 1 := xM_recv
set_option maxRecDepth 100000 in
set_option maxHeartbeats 4000000 in
theorem bo_X4_hasStile {K : XK} (C : xOK K RX4 cX4_hasStile false true 0 0) : CS K 0 bd_X4_hasStile 18 0 0 :=
 (cs_retZ (p1 := 17) C (ce_tern (pT := 12) (pF := 16) (p1 := 13) C (cc_and (pM := 4) (cc_ge0N (p1 := 1) C (ce_iln C dX4_hasStile_0 rfl) dX4_hasStile_1 (by decide) rfl) (cc_ltN (p1 := 5) (p2 := 9) C (ce_iln C dX4_hasStile_4 rfl) (ce_fld C (ce_aln C dX4_hasStile_5 rfl) dX4_hasStile_6 fX4_37) dX4_hasStile_9 (by decide) rfl)) (ce_iconst C dX4_hasStile_12 (by decide)) dX4_hasStile_13 (by decide) (ce_iconst C dX4_hasStile_16 (by decide))) dX4_hasStile_17)
theorem good_X4_hasStile : xGood yX4_hasStile cX4_hasStile 2 (some .boolean) 0 0 m_X4_hasStile :=
  x_methI (ini := false) (bz := true) (Or.inr (Or.inl ⟨rfl, rfl⟩)) ⟨fun h => (by cases h), fun h => (by cases h)⟩ (fun h => by cases h) (by decide) (fun K C => bo_X4_hasStile C)

def bd_X4_hasWalker : XS := (s_retZ (e_tern (b_and (b_cmp0 r_ge0 (e_il 1)) (b_cmp r_lt (e_il 1) (e_fld 4 3 (e_al 0)))) (e_lit 1) (e_lit 0)))
def m_X4_hasWalker : XF := xM 4 1 2 false bd_X4_hasWalker
theorem rc_X4_hasWalker : xRecv m_X4_hasWalker 4 1 := xM_recv
set_option maxRecDepth 100000 in
set_option maxHeartbeats 4000000 in
theorem bo_X4_hasWalker {K : XK} (C : xOK K RX4 cX4_hasWalker false true 0 0) : CS K 0 bd_X4_hasWalker 18 0 0 :=
 (cs_retZ (p1 := 17) C (ce_tern (pT := 12) (pF := 16) (p1 := 13) C (cc_and (pM := 4) (cc_ge0N (p1 := 1) C (ce_iln C dX4_hasWalker_0 rfl) dX4_hasWalker_1 (by decide) rfl) (cc_ltN (p1 := 5) (p2 := 9) C (ce_iln C dX4_hasWalker_4 rfl) (ce_fld C (ce_aln C dX4_hasWalker_5 rfl) dX4_hasWalker_6 fX4_40) dX4_hasWalker_9 (by decide) rfl)) (ce_iconst C dX4_hasWalker_12 (by decide)) dX4_hasWalker_13 (by decide) (ce_iconst C dX4_hasWalker_16 (by decide))) dX4_hasWalker_17)
theorem good_X4_hasWalker : xGood yX4_hasWalker cX4_hasWalker 2 (some .boolean) 0 0 m_X4_hasWalker :=
  x_methI (ini := false) (bz := true) (Or.inr (Or.inl ⟨rfl, rfl⟩)) ⟨fun h => (by cases h), fun h => (by cases h)⟩ (fun h => by cases h) (by decide) (fun K C => bo_X4_hasWalker C)

def bd_X4_isAt : XS := (s_retZ (e_tern (b_or (b_cmp r_eq (e_ald 0 (e_fld 4 5 (e_al 0)) (e_il 1)) (e_il 2)) (b_cmp r_eq (e_ald 0 (e_fld 4 6 (e_al 0)) (e_il 1)) (e_il 2))) (e_lit 1) (e_lit 0)))
def m_X4_isAt : XF := xM 4 2 3 false bd_X4_isAt
theorem rc_X4_isAt : xRecv m_X4_isAt 4 2 := xM_recv
set_option maxRecDepth 100000 in
set_option maxHeartbeats 4000000 in
theorem bo_X4_isAt {K : XK} (C : xOK K RX4 cX4_isAt false true 0 0) : CS K 0 bd_X4_isAt 26 0 0 :=
 (cs_retZ (p1 := 25) C (ce_tern (pT := 20) (pF := 24) (p1 := 21) C (cc_or (pM := 10) (cc_eqJ (p1 := 6) (p2 := 7) C (ce_iald (p1 := 4) (p2 := 5) C (ce_fld C (ce_aln C dX4_isAt_0 rfl) dX4_isAt_1 fX4_15) (ce_iln C dX4_isAt_4 rfl) dX4_isAt_5) (ce_iln C dX4_isAt_6 rfl) dX4_isAt_7 (by decide) rfl) (cc_eqN (p1 := 16) (p2 := 17) C (ce_iald (p1 := 14) (p2 := 15) C (ce_fld C (ce_aln C dX4_isAt_10 rfl) dX4_isAt_11 fX4_18) (ce_iln C dX4_isAt_14 rfl) dX4_isAt_15) (ce_iln C dX4_isAt_16 rfl) dX4_isAt_17 (by decide) rfl)) (ce_iconst C dX4_isAt_20 (by decide)) dX4_isAt_21 (by decide) (ce_iconst C dX4_isAt_24 (by decide))) dX4_isAt_25)
theorem good_X4_isAt : xGood yX4_isAt cX4_isAt 3 (some .boolean) 0 0 m_X4_isAt :=
  x_methI (ini := false) (bz := true) (Or.inr (Or.inl ⟨rfl, rfl⟩)) ⟨fun h => (by cases h), fun h => (by cases h)⟩ (fun h => by cases h) (by decide) (fun K C => bo_X4_isAt C)

def bd_X4_across : XS := (s_ret (e_tern (b_cmp r_eq (e_ald 0 (e_fld 4 5 (e_al 0)) (e_il 1)) (e_il 2)) (e_ald 0 (e_fld 4 6 (e_al 0)) (e_il 1)) (e_ald 0 (e_fld 4 5 (e_al 0)) (e_il 1))))
def m_X4_across : XF := xM 4 2 3 false bd_X4_across
theorem rc_X4_across : xRecv m_X4_across 4 2 := xM_recv
set_option maxRecDepth 100000 in
set_option maxHeartbeats 4000000 in
theorem bo_X4_across {K : XK} (C : xOK K RX4 cX4_across false false 0 0) : CS K 0 bd_X4_across 26 0 0 :=
 (cs_ret (p1 := 25) C (ce_tern (pT := 10) (pF := 19) (p1 := 16) C (cc_eqN (p1 := 6) (p2 := 7) C (ce_iald (p1 := 4) (p2 := 5) C (ce_fld C (ce_aln C dX4_across_0 rfl) dX4_across_1 fX4_15) (ce_iln C dX4_across_4 rfl) dX4_across_5) (ce_iln C dX4_across_6 rfl) dX4_across_7 (by decide) rfl) (ce_iald (p1 := 14) (p2 := 15) C (ce_fld C (ce_aln C dX4_across_10 rfl) dX4_across_11 fX4_18) (ce_iln C dX4_across_14 rfl) dX4_across_15) dX4_across_16 (by decide) (ce_iald (p1 := 23) (p2 := 24) C (ce_fld C (ce_aln C dX4_across_19 rfl) dX4_across_20 fX4_15) (ce_iln C dX4_across_23 rfl) dX4_across_24)) dX4_across_25)
theorem good_X4_across : xGood yX4_across cX4_across 3 (some .int) 0 0 m_X4_across :=
  x_methI (ini := false) (bz := false) (Or.inl ⟨rfl, rfl⟩) ⟨fun h => (by cases h), fun h => (by cases h)⟩ (fun h => by cases h) (by decide) (fun K C => bo_X4_across C)

def lc_X4_hasStileBetween_1 : XB := (b_cmp r_lt (e_il 3) (e_fld 4 2 (e_al 0)))
def la_X4_hasStileBetween_1 : XS := (s_ite (b_and (b_cmp0 r_ne0 (e_call m_X4_isAt [(e_al 0), (e_il 3), (e_il 1)])) (b_cmp0 r_ne0 (e_call m_X4_isAt [(e_al 0), (e_il 3), (e_il 2)]))) (s_retZ (e_lit 1))
 s_skip)
def lu_X4_hasStileBetween_1 : XS := (s_inc 3 1)
def bd_X4_hasStileBetween : XS := (s_seq (s_iasg 3 (e_lit 0))
 (s_seq (s_loop 1000 (lc_X4_hasStileBetween_1) (la_X4_hasStileBetween_1) (lu_X4_hasStileBetween_1))
 (s_retZ (e_lit 0))))
def m_X4_hasStileBetween : XF := xM 4 2 4 false bd_X4_hasStileBetween
theorem rc_X4_hasStileBetween : xRecv m_X4_hasStileBetween 4 2 := xM_recv
set_option maxRecDepth 100000 in
set_option maxHeartbeats 4000000 in
theorem bo_X4_hasStileBetween {K : XK} (C : xOK K RX4 cX4_hasStileBetween false true 1 22) : CS K 0 bd_X4_hasStileBetween 38 0 0 :=
 (cs_seq (p1 := 2) (cs_iasgn (p1 := 1) C (ce_iconst C dX4_hasStileBetween_0 (by decide)) dX4_hasStileBetween_1 rfl)
 (cs_seq (p1 := 36) (cs_loop (pB := 10) (pE := 36) (pu := 30) (p2 := 33) C (cc_ltN (p1 := 3) (p2 := 7) C (ce_iln C dX4_hasStileBetween_2 rfl) (ce_fld C (ce_aln C dX4_hasStileBetween_3 rfl) dX4_hasStileBetween_4 fX4_37) dX4_hasStileBetween_7 (by decide) rfl)
 (cs_itf (pT := 28) (pF := 30) (cc_and (pM := 19) (cc_ne0N (p1 := 16) C (ce_call (p1 := 13) (ca_cons (p1 := 11) (ce_aln C dX4_hasStileBetween_10 rfl) (ca_cons (p1 := 12) (ce_iln C dX4_hasStileBetween_11 rfl) (ca_cons (p1 := 13) (ce_iln C dX4_hasStileBetween_12 rfl) ca_nil))) (xCal_V (ci := 4) C dX4_hasStileBetween_13 wX4_isAt vX4_53 rfl rfl good_X4_isAt rc_X4_isAt (by decide) (by decide)) (by decide)) dX4_hasStileBetween_16 (by decide) rfl) (cc_ne0N (p1 := 25) C (ce_call (p1 := 22) (ca_cons (p1 := 20) (ce_aln C dX4_hasStileBetween_19 rfl) (ca_cons (p1 := 21) (ce_iln C dX4_hasStileBetween_20 rfl) (ca_cons (p1 := 22) (ce_iln C dX4_hasStileBetween_21 rfl) ca_nil))) (xCal_V (ci := 4) C dX4_hasStileBetween_22 wX4_isAt vX4_53 rfl rfl good_X4_isAt rc_X4_isAt (by decide) (by decide)) (by decide)) dX4_hasStileBetween_25 (by decide) rfl)) (cs_retZ (p1 := 29) C (ce_iconst C dX4_hasStileBetween_28 (by decide)) dX4_hasStileBetween_29)
 cs_skip)
 (cs_inc C dX4_hasStileBetween_30 (by decide)) dX4_hasStileBetween_33 (by decide))
 (cs_retZ (p1 := 37) C (ce_iconst C dX4_hasStileBetween_36 (by decide)) dX4_hasStileBetween_37)))
theorem good_X4_hasStileBetween : xGood yX4_hasStileBetween cX4_hasStileBetween 4 (some .boolean) 1 22 m_X4_hasStileBetween :=
  x_methI (ini := false) (bz := true) (Or.inr (Or.inl ⟨rfl, rfl⟩)) ⟨fun h => (by cases h), fun h => (by cases h)⟩ (fun h => by cases h) (by decide) (fun K C => bo_X4_hasStileBetween C)

def lc_X4_lowestStileAt_1 : XB := (b_cmp r_lt (e_il 2) (e_fld 4 2 (e_al 0)))
def la_X4_lowestStileAt_1 : XS := (s_ite (b_cmp0 r_ne0 (e_call m_X4_isAt [(e_al 0), (e_il 2), (e_il 1)])) (s_ret (e_il 2))
 s_skip)
def lu_X4_lowestStileAt_1 : XS := (s_inc 2 1)
def bd_X4_lowestStileAt : XS := (s_seq (s_iasg 2 (e_lit 0))
 (s_seq (s_loop 1000 (lc_X4_lowestStileAt_1) (la_X4_lowestStileAt_1) (lu_X4_lowestStileAt_1))
 (s_ret (e_lit (-4)))))
def m_X4_lowestStileAt : XF := xM 4 1 3 false bd_X4_lowestStileAt
theorem rc_X4_lowestStileAt : xRecv m_X4_lowestStileAt 4 1 := xM_recv
set_option maxRecDepth 100000 in
set_option maxHeartbeats 4000000 in
theorem bo_X4_lowestStileAt {K : XK} (C : xOK K RX4 cX4_lowestStileAt false false 1 22) : CS K 0 bd_X4_lowestStileAt 30 0 0 :=
 (cs_seq (p1 := 2) (cs_iasgn (p1 := 1) C (ce_iconst C dX4_lowestStileAt_0 (by decide)) dX4_lowestStileAt_1 rfl)
 (cs_seq (p1 := 27) (cs_loop (pB := 10) (pE := 27) (pu := 21) (p2 := 24) C (cc_ltN (p1 := 3) (p2 := 7) C (ce_iln C dX4_lowestStileAt_2 rfl) (ce_fld C (ce_aln C dX4_lowestStileAt_3 rfl) dX4_lowestStileAt_4 fX4_37) dX4_lowestStileAt_7 (by decide) rfl)
 (cs_itf (pT := 19) (pF := 21) (cc_ne0N (p1 := 16) C (ce_call (p1 := 13) (ca_cons (p1 := 11) (ce_aln C dX4_lowestStileAt_10 rfl) (ca_cons (p1 := 12) (ce_iln C dX4_lowestStileAt_11 rfl) (ca_cons (p1 := 13) (ce_iln C dX4_lowestStileAt_12 rfl) ca_nil))) (xCal_V (ci := 4) C dX4_lowestStileAt_13 wX4_isAt vX4_53 rfl rfl good_X4_isAt rc_X4_isAt (by decide) (by decide)) (by decide)) dX4_lowestStileAt_16 (by decide) rfl) (cs_ret (p1 := 20) C (ce_iln C dX4_lowestStileAt_19 rfl) dX4_lowestStileAt_20)
 cs_skip)
 (cs_inc C dX4_lowestStileAt_21 (by decide)) dX4_lowestStileAt_24 (by decide))
 (cs_ret (p1 := 29) C (ce_bipush C dX4_lowestStileAt_27 (by decide)) dX4_lowestStileAt_29)))
theorem good_X4_lowestStileAt : xGood yX4_lowestStileAt cX4_lowestStileAt 3 (some .int) 1 22 m_X4_lowestStileAt :=
  x_methI (ini := false) (bz := false) (Or.inl ⟨rfl, rfl⟩) ⟨fun h => (by cases h), fun h => (by cases h)⟩ (fun h => by cases h) (by decide) (fun K C => bo_X4_lowestStileAt C)

def bd_X4_wearOf : XS := (s_seq (s_iasg 3 (e_ald 0 (e_fld 4 4 (e_al 0)) (e_il 2)))
 (s_seq (s_ite (b_or (b_cmp r_eq (e_il 3) (e_lit 2)) (b_cmp r_eq (e_il 3) (e_lit 3))) (s_ret (e_lit 0))
 s_skip)
 (s_seq (s_iasg 4 (e_tern (b_cmp r_eq (e_il 3) (e_lit 1)) (e_bin o_mul (e_lit 2) (e_ald 0 (e_fld 4 9 (e_al 0)) (e_il 1))) (e_ald 0 (e_fld 4 9 (e_al 0)) (e_il 1))))
 (s_ret (e_tern (b_cmp r_eq (e_ald 0 (e_fld 4 7 (e_al 0)) (e_il 1)) (e_lit 2)) (e_bin o_mul (e_lit 2) (e_il 4)) (e_il 4))))))
def m_X4_wearOf : XF := xM 4 2 5 false bd_X4_wearOf
theorem rc_X4_wearOf : xRecv m_X4_wearOf 4 2 := xM_recv
set_option maxRecDepth 100000 in
set_option maxHeartbeats 4000000 in
theorem bo_X4_wearOf {K : XK} (C : xOK K RX4 cX4_wearOf false false 0 0) : CS K 0 bd_X4_wearOf 63 0 0 :=
 (cs_seq (p1 := 7) (cs_iasgn (p1 := 6) C (ce_iald (p1 := 4) (p2 := 5) C (ce_fld C (ce_aln C dX4_wearOf_0 rfl) dX4_wearOf_1 fX4_9) (ce_iln C dX4_wearOf_4 rfl) dX4_wearOf_5) dX4_wearOf_6 rfl)
 (cs_seq (p1 := 19) (cs_itf (pT := 17) (pF := 19) (cc_or (pM := 12) (cc_eqJ (p1 := 8) (p2 := 9) C (ce_iln C dX4_wearOf_7 rfl) (ce_iconst C dX4_wearOf_8 (by decide)) dX4_wearOf_9 (by decide) rfl) (cc_eqN (p1 := 13) (p2 := 14) C (ce_iln C dX4_wearOf_12 rfl) (ce_iconst C dX4_wearOf_13 (by decide)) dX4_wearOf_14 (by decide) rfl)) (cs_ret (p1 := 18) C (ce_iconst C dX4_wearOf_17 (by decide)) dX4_wearOf_18)
 cs_skip)
 (cs_seq (p1 := 43) (cs_iasg (p1 := 41) C (ce_tern (pT := 24) (pF := 35) (p1 := 32) C (cc_eqN (p1 := 20) (p2 := 21) C (ce_iln C dX4_wearOf_19 rfl) (ce_iconst C dX4_wearOf_20 (by decide)) dX4_wearOf_21 (by decide) rfl) (ce_bin (p1 := 25) (p2 := 31) (ce_iconst C dX4_wearOf_24 (by decide)) (ce_iald (p1 := 29) (p2 := 30) C (ce_fld C (ce_aln C dX4_wearOf_25 rfl) dX4_wearOf_26 fX4_27) (ce_iln C dX4_wearOf_29 rfl) dX4_wearOf_30) (ob_mul C dX4_wearOf_31)) dX4_wearOf_32 (by decide) (ce_iald (p1 := 39) (p2 := 40) C (ce_fld C (ce_aln C dX4_wearOf_35 rfl) dX4_wearOf_36 fX4_27) (ce_iln C dX4_wearOf_39 rfl) dX4_wearOf_40)) dX4_wearOf_41)
 (cs_ret (p1 := 62) C (ce_tern (pT := 53) (pF := 60) (p1 := 57) C (cc_eqN (p1 := 49) (p2 := 50) C (ce_iald (p1 := 47) (p2 := 48) C (ce_fld C (ce_aln C dX4_wearOf_43 rfl) dX4_wearOf_44 fX4_21) (ce_iln C dX4_wearOf_47 rfl) dX4_wearOf_48) (ce_iconst C dX4_wearOf_49 (by decide)) dX4_wearOf_50 (by decide) rfl) (ce_bin (p1 := 54) (p2 := 56) (ce_iconst C dX4_wearOf_53 (by decide)) (ce_il C dX4_wearOf_54) (ob_mul C dX4_wearOf_56)) dX4_wearOf_57 (by decide) (ce_il C dX4_wearOf_60)) dX4_wearOf_62))))
theorem good_X4_wearOf : xGood yX4_wearOf cX4_wearOf 5 (some .int) 0 0 m_X4_wearOf :=
  x_methI (ini := false) (bz := false) (Or.inl ⟨rfl, rfl⟩) ⟨fun h => (by cases h), fun h => (by cases h)⟩ (fun h => by cases h) (by decide) (fun K C => bo_X4_wearOf C)

def bd_X4_gainOf : XS := (s_seq (s_ite (b_or (b_cmp r_eq (e_ald 0 (e_fld 4 4 (e_al 0)) (e_il 2)) (e_lit 3)) (b_cmp r_eq (e_ald 0 (e_fld 4 7 (e_al 0)) (e_il 1)) (e_lit 3))) (s_ret (e_lit 0))
 s_skip)
 (s_ret (e_tern (b_cmp r_eq (e_ald 0 (e_fld 4 7 (e_al 0)) (e_il 1)) (e_lit 1)) (e_lit 2) (e_lit 1))))
def m_X4_gainOf : XF := xM 4 2 3 false bd_X4_gainOf
theorem rc_X4_gainOf : xRecv m_X4_gainOf 4 2 := xM_recv
set_option maxRecDepth 100000 in
set_option maxHeartbeats 4000000 in
theorem bo_X4_gainOf {K : XK} (C : xOK K RX4 cX4_gainOf false false 0 0) : CS K 0 bd_X4_gainOf 38 0 0 :=
 (cs_seq (p1 := 22) (cs_itf (pT := 20) (pF := 22) (cc_or (pM := 10) (cc_eqJ (p1 := 6) (p2 := 7) C (ce_iald (p1 := 4) (p2 := 5) C (ce_fld C (ce_aln C dX4_gainOf_0 rfl) dX4_gainOf_1 fX4_9) (ce_iln C dX4_gainOf_4 rfl) dX4_gainOf_5) (ce_iconst C dX4_gainOf_6 (by decide)) dX4_gainOf_7 (by decide) rfl) (cc_eqN (p1 := 16) (p2 := 17) C (ce_iald (p1 := 14) (p2 := 15) C (ce_fld C (ce_aln C dX4_gainOf_10 rfl) dX4_gainOf_11 fX4_21) (ce_iln C dX4_gainOf_14 rfl) dX4_gainOf_15) (ce_iconst C dX4_gainOf_16 (by decide)) dX4_gainOf_17 (by decide) rfl)) (cs_ret (p1 := 21) C (ce_iconst C dX4_gainOf_20 (by decide)) dX4_gainOf_21)
 cs_skip)
 (cs_ret (p1 := 37) C (ce_tern (pT := 32) (pF := 36) (p1 := 33) C (cc_eqN (p1 := 28) (p2 := 29) C (ce_iald (p1 := 26) (p2 := 27) C (ce_fld C (ce_aln C dX4_gainOf_22 rfl) dX4_gainOf_23 fX4_21) (ce_iln C dX4_gainOf_26 rfl) dX4_gainOf_27) (ce_iconst C dX4_gainOf_28 (by decide)) dX4_gainOf_29 (by decide) rfl) (ce_iconst C dX4_gainOf_32 (by decide)) dX4_gainOf_33 (by decide) (ce_iconst C dX4_gainOf_36 (by decide))) dX4_gainOf_37))
theorem good_X4_gainOf : xGood yX4_gainOf cX4_gainOf 3 (some .int) 0 0 m_X4_gainOf :=
  x_methI (ini := false) (bz := false) (Or.inl ⟨rfl, rfl⟩) ⟨fun h => (by cases h), fun h => (by cases h)⟩ (fun h => by cases h) (by decide) (fun K C => bo_X4_gainOf C)

def bd_X4_treadsToWear : XS := (s_seq (s_ite (b_cmp0 r_eq0 (e_il 3)) (s_ret (e_lit 0))
 s_skip)
 (s_seq (s_iasg 4 (e_call m_X4_wearOf [(e_al 0), (e_il 1), (e_il 2)]))
 (s_seq (s_ite (b_or (b_cmp0 r_le0 (e_il 4)) (b_cmp0 r_ne0 (e_bin o_rem (e_il 3) (e_il 4)))) (s_ret (e_lit (-4)))
 s_skip)
 (s_ret (e_bin o_div (e_il 3) (e_il 4))))))
def m_X4_treadsToWear : XF := xM 4 3 5 false bd_X4_treadsToWear
theorem rc_X4_treadsToWear : xRecv m_X4_treadsToWear 4 3 := xM_recv
set_option maxRecDepth 100000 in
set_option maxHeartbeats 4000000 in
theorem bo_X4_treadsToWear {K : XK} (C : xOK K RX4 cX4_treadsToWear false false 1 24) : CS K 0 bd_X4_treadsToWear 34 0 0 :=
 (cs_seq (p1 := 6) (cs_itf (pT := 4) (pF := 6) (cc_eq0N (p1 := 1) C (ce_iln C dX4_treadsToWear_0 rfl) dX4_treadsToWear_1 (by decide) rfl) (cs_ret (p1 := 5) C (ce_iconst C dX4_treadsToWear_4 (by decide)) dX4_treadsToWear_5)
 cs_skip)
 (cs_seq (p1 := 14) (cs_iasg (p1 := 12) C (ce_call (p1 := 9) (ca_cons (p1 := 7) (ce_aln C dX4_treadsToWear_6 rfl) (ca_cons (p1 := 8) (ce_iln C dX4_treadsToWear_7 rfl) (ca_cons (p1 := 9) (ce_iln C dX4_treadsToWear_8 rfl) ca_nil))) (xCal_V (ci := 4) C dX4_treadsToWear_9 wX4_wearOf vX4_57 rfl rfl good_X4_wearOf rc_X4_wearOf (by decide) (by decide)) (by decide)) dX4_treadsToWear_12)
 (cs_seq (p1 := 29) (cs_itf (pT := 26) (pF := 29) (cc_or (pM := 19) (cc_le0J (p1 := 16) C (ce_il C dX4_treadsToWear_14) dX4_treadsToWear_16 (by decide) rfl) (cc_ne0N (p1 := 23) C (ce_bin (p1 := 20) (p2 := 22) (ce_iln C dX4_treadsToWear_19 rfl) (ce_il C dX4_treadsToWear_20) (ob_rem C dX4_treadsToWear_22)) dX4_treadsToWear_23 (by decide) rfl)) (cs_ret (p1 := 28) C (ce_bipush C dX4_treadsToWear_26 (by decide)) dX4_treadsToWear_28)
 cs_skip)
 (cs_ret (p1 := 33) C (ce_bin (p1 := 30) (p2 := 32) (ce_iln C dX4_treadsToWear_29 rfl) (ce_il C dX4_treadsToWear_30) (ob_div C dX4_treadsToWear_32)) dX4_treadsToWear_33))))
theorem good_X4_treadsToWear : xGood yX4_treadsToWear cX4_treadsToWear 5 (some .int) 1 24 m_X4_treadsToWear :=
  x_methI (ini := false) (bz := false) (Or.inl ⟨rfl, rfl⟩) ⟨fun h => (by cases h), fun h => (by cases h)⟩ (fun h => by cases h) (by decide) (fun K C => bo_X4_treadsToWear C)

def bd_X4_init : XS := (s_seq s_oinit
 (s_seq (s_put 4 4 2 (e_al 0) (e_newa 0 (e_lit 9)))
 (s_seq (s_put 4 5 2 (e_al 0) (e_newa 0 (e_lit 9)))
 (s_seq (s_put 4 6 2 (e_al 0) (e_newa 0 (e_lit 9)))
 (s_seq (s_put 4 7 2 (e_al 0) (e_newa 0 (e_lit 4)))
 (s_seq (s_put 4 8 2 (e_al 0) (e_newa 0 (e_lit 4)))
 (s_seq (s_put 4 9 2 (e_al 0) (e_newa 0 (e_lit 4)))
 s_retV)))))))
def m_X4_init : XF := xM 4 0 1 true bd_X4_init
theorem rc_X4_init : xRecv m_X4_init 4 0 := xM_recv
set_option maxRecDepth 100000 in
set_option maxHeartbeats 4000000 in
theorem bo_X4_init {K : XK} (C : xOK K RX4 cX4_init true false 1 12) : CS K 0 bd_X4_init 50 0 0 :=
 (cs_seq (p1 := 4) (cs_oinit C dX4_init_0 dX4_init_1 oiX4_3 xW_oi1 xW_oi2 (by decide) (by decide))
 (cs_seq (p1 := 12) (cs_put (p1 := 5) (p2 := 9) C (ce_aln C dX4_init_4 rfl) (ce_newi C (ce_bipush C dX4_init_5 (by decide)) dX4_init_7 xW_arri) dX4_init_9 pX4_9_true)
 (cs_seq (p1 := 20) (cs_put (p1 := 13) (p2 := 17) C (ce_aln C dX4_init_12 rfl) (ce_newi C (ce_bipush C dX4_init_13 (by decide)) dX4_init_15 xW_arri) dX4_init_17 pX4_15_true)
 (cs_seq (p1 := 28) (cs_put (p1 := 21) (p2 := 25) C (ce_aln C dX4_init_20 rfl) (ce_newi C (ce_bipush C dX4_init_21 (by decide)) dX4_init_23 xW_arri) dX4_init_25 pX4_18_true)
 (cs_seq (p1 := 35) (cs_put (p1 := 29) (p2 := 32) C (ce_aln C dX4_init_28 rfl) (ce_newi C (ce_iconst C dX4_init_29 (by decide)) dX4_init_30 xW_arri) dX4_init_32 pX4_21_true)
 (cs_seq (p1 := 42) (cs_put (p1 := 36) (p2 := 39) C (ce_aln C dX4_init_35 rfl) (ce_newi C (ce_iconst C dX4_init_36 (by decide)) dX4_init_37 xW_arri) dX4_init_39 pX4_24_true)
 (cs_seq (p1 := 49) (cs_put (p1 := 43) (p2 := 46) C (ce_aln C dX4_init_42 rfl) (ce_newi C (ce_iconst C dX4_init_43 (by decide)) dX4_init_44 xW_arri) dX4_init_46 pX4_27_true)
 (cs_retV C dX4_init_49))))))))
theorem good_X4_init : xGood yX4_init cX4_init 1 none 1 12 m_X4_init :=
  x_methI (ini := true) (bz := false) (Or.inr (Or.inr rfl)) ⟨fun _ => rfl, fun _ => rfl⟩ (fun _ => rfl) (by decide) (fun K C => bo_X4_init C)

def lc_X6_renew_1 : XB := (b_cmp r_lt (e_il 2) (e_lit 4))
def la_X6_renew_1 : XS := (s_ast 0 (e_fld 6 5 (e_al 0)) (e_bin o_add (e_bin o_mul (e_il 2) (e_lit 9)) (e_il 1)) (e_lit 0))
def lu_X6_renew_1 : XS := (s_inc 2 1)
def bd_X6_renew : XS := (s_seq (s_ast 0 (e_fld 6 1 (e_al 0)) (e_il 1) (e_lit 0))
 (s_seq (s_iasg 2 (e_lit 0))
 (s_seq (s_loop 1000 (lc_X6_renew_1) (la_X6_renew_1) (lu_X6_renew_1))
 s_retV)))
def m_X6_renew : XF := xM 6 1 3 true bd_X6_renew
theorem rc_X6_renew : xRecv m_X6_renew 6 1 := xM_recv
set_option maxRecDepth 100000 in
set_option maxHeartbeats 4000000 in
theorem bo_X6_renew {K : XK} (C : xOK K RX6 cX6_renew false false 0 0) : CS K 0 bd_X6_renew 33 0 0 :=
 (cs_seq (p1 := 7) (cs_iast (p1 := 4) (p2 := 5) (p3 := 6) C (ce_fld C (ce_aln C dX6_renew_0 rfl) dX6_renew_1 fX6_9) (ce_iln C dX6_renew_4 rfl) (ce_iconst C dX6_renew_5 (by decide)) dX6_renew_6)
 (cs_seq (p1 := 9) (cs_iasgn (p1 := 8) C (ce_iconst C dX6_renew_7 (by decide)) dX6_renew_8 rfl)
 (cs_seq (p1 := 32) (cs_loop (pB := 14) (pE := 32) (pu := 26) (p2 := 29) C (cc_ltN (p1 := 10) (p2 := 11) C (ce_iln C dX6_renew_9 rfl) (ce_iconst C dX6_renew_10 (by decide)) dX6_renew_11 (by decide) rfl)
 (cs_iast (p1 := 18) (p2 := 24) (p3 := 25) C (ce_fld C (ce_aln C dX6_renew_14 rfl) dX6_renew_15 fX6_24) (ce_bin (p1 := 22) (p2 := 23) (ce_bin (p1 := 19) (p2 := 21) (ce_iln C dX6_renew_18 rfl) (ce_bipush C dX6_renew_19 (by decide)) (ob_mul C dX6_renew_21)) (ce_iln C dX6_renew_22 rfl) (ob_add C dX6_renew_23)) (ce_iconst C dX6_renew_24 (by decide)) dX6_renew_25)
 (cs_inc C dX6_renew_26 (by decide)) dX6_renew_29 (by decide))
 (cs_retV C dX6_renew_32))))
theorem good_X6_renew : xGood yX6_renew cX6_renew 3 none 0 0 m_X6_renew :=
  x_methI (ini := false) (bz := false) (Or.inr (Or.inr rfl)) ⟨fun _ => rfl, fun _ => rfl⟩ (fun h => by cases h) (by decide) (fun K C => bo_X6_renew C)

def lc_X6_begin_1 : XB := (b_cmp r_lt (e_il 1) (e_lit 9))
def la_X6_begin_1 : XS := (s_call m_X6_renew [(e_al 0), (e_il 1)])
def lu_X6_begin_1 : XS := (s_inc 1 1)
def lc_X6_begin_2 : XB := (b_cmp r_lt (e_il 1) (e_lit 4))
def la_X6_begin_2 : XS := (s_seq (s_ast 0 (e_fld 6 2 (e_al 0)) (e_il 1) (e_ald 0 (e_fld 4 8 (e_fld 6 6 (e_al 0))) (e_il 1)))
 (s_seq (s_ast 0 (e_fld 6 3 (e_al 0)) (e_il 1) (e_lit 0))
 (s_ast 0 (e_fld 6 4 (e_al 0)) (e_il 1) (e_lit (-4)))))
def lu_X6_begin_2 : XS := (s_inc 1 1)
def bd_X6_begin : XS := (s_seq (s_put 6 0 0 (e_al 0) (e_lit 0))
 (s_seq (s_iasg 1 (e_lit 0))
 (s_seq (s_loop 1000 (lc_X6_begin_1) (la_X6_begin_1) (lu_X6_begin_1))
 (s_seq (s_iasg 1 (e_lit 0))
 (s_seq (s_loop 1000 (lc_X6_begin_2) (la_X6_begin_2) (lu_X6_begin_2))
 s_retV)))))
def m_X6_begin : XF := xM 6 0 2 true bd_X6_begin
theorem rc_X6_begin : xRecv m_X6_begin 6 0 := xM_recv
set_option maxRecDepth 100000 in
set_option maxHeartbeats 4000000 in
theorem bo_X6_begin {K : XK} (C : xOK K RX6 cX6_begin false false 1 22) : CS K 0 bd_X6_begin 68 0 0 :=
 (cs_seq (p1 := 5) (cs_put (p1 := 1) (p2 := 2) C (ce_aln C dX6_begin_0 rfl) (ce_iconst C dX6_begin_1 (by decide)) dX6_begin_2 pX6_31_false)
 (cs_seq (p1 := 7) (cs_iasgn (p1 := 6) C (ce_iconst C dX6_begin_5 (by decide)) dX6_begin_6 rfl)
 (cs_seq (p1 := 24) (cs_loop (pB := 13) (pE := 24) (pu := 18) (p2 := 21) C (cc_ltN (p1 := 8) (p2 := 10) C (ce_iln C dX6_begin_7 rfl) (ce_bipush C dX6_begin_8 (by decide)) dX6_begin_10 (by decide) rfl)
 (cs_call (p1 := 15) (ca_cons (p1 := 14) (ce_aln C dX6_begin_13 rfl) (ca_cons (p1 := 15) (ce_iln C dX6_begin_14 rfl) ca_nil)) (xCal_V (ci := 6) C dX6_begin_15 wX6_renew vX6_35 rfl rfl good_X6_renew rc_X6_renew (by decide) (by decide)))
 (cs_inc C dX6_begin_18 (by decide)) dX6_begin_21 (by decide))
 (cs_seq (p1 := 26) (cs_iasgn (p1 := 25) C (ce_iconst C dX6_begin_24 (by decide)) dX6_begin_25 rfl)
 (cs_seq (p1 := 67) (cs_loop (pB := 31) (pE := 67) (pu := 61) (p2 := 64) C (cc_ltN (p1 := 27) (p2 := 28) C (ce_iln C dX6_begin_26 rfl) (ce_iconst C dX6_begin_27 (by decide)) dX6_begin_28 (by decide) rfl)
 (cs_seq (p1 := 46) (cs_iast (p1 := 35) (p2 := 36) (p3 := 45) C (ce_fld C (ce_aln C dX6_begin_31 rfl) dX6_begin_32 fX6_15) (ce_iln C dX6_begin_35 rfl) (ce_iald (p1 := 43) (p2 := 44) C (ce_fld C (ce_fld C (ce_aln C dX6_begin_36 rfl) dX6_begin_37 fX6_27) dX6_begin_40 fX6_39) (ce_iln C dX6_begin_43 rfl) dX6_begin_44) dX6_begin_45)
 (cs_seq (p1 := 53) (cs_iast (p1 := 50) (p2 := 51) (p3 := 52) C (ce_fld C (ce_aln C dX6_begin_46 rfl) dX6_begin_47 fX6_18) (ce_iln C dX6_begin_50 rfl) (ce_iconst C dX6_begin_51 (by decide)) dX6_begin_52)
 (cs_iast (p1 := 57) (p2 := 58) (p3 := 60) C (ce_fld C (ce_aln C dX6_begin_53 rfl) dX6_begin_54 fX6_21) (ce_iln C dX6_begin_57 rfl) (ce_bipush C dX6_begin_58 (by decide)) dX6_begin_60)))
 (cs_inc C dX6_begin_61 (by decide)) dX6_begin_64 (by decide))
 (cs_retV C dX6_begin_67))))))
theorem good_X6_begin : xGood yX6_begin cX6_begin 2 none 1 22 m_X6_begin :=
  x_methI (ini := false) (bz := false) (Or.inr (Or.inr rfl)) ⟨fun _ => rfl, fun _ => rfl⟩ (fun h => by cases h) (by decide) (fun K C => bo_X6_begin C)

def bd_X6_copyFrom : XS := (s_seq (s_put 6 0 0 (e_al 0) (e_fld 6 0 (e_al 1)))
 (s_seq (s_copy (e_fld 6 1 (e_al 1)) (e_fld 6 1 (e_al 0)) (e_lit 9))
 (s_seq (s_copy (e_fld 6 2 (e_al 1)) (e_fld 6 2 (e_al 0)) (e_lit 4))
 (s_seq (s_copy (e_fld 6 3 (e_al 1)) (e_fld 6 3 (e_al 0)) (e_lit 4))
 (s_seq (s_copy (e_fld 6 4 (e_al 1)) (e_fld 6 4 (e_al 0)) (e_lit 4))
 (s_seq (s_copy (e_fld 6 5 (e_al 1)) (e_fld 6 5 (e_al 0)) (e_lit 36))
 s_retV))))))
def m_X6_copyFrom : XF := xM 6 1 2 true bd_X6_copyFrom
theorem rc_X6_copyFrom : xRecv m_X6_copyFrom 6 1 := xM_recv
set_option maxRecDepth 100000 in
set_option maxHeartbeats 4000000 in
theorem bo_X6_copyFrom {K : XK} (C : xOK K RX6 cX6_copyFrom false false 1 18) : CS K 0 bd_X6_copyFrom 81 0 0 :=
 (cs_seq (p1 := 8) (cs_put (p1 := 1) (p2 := 5) C (ce_aln C dX6_copyFrom_0 rfl) (ce_fld C (ce_aln C dX6_copyFrom_1 rfl) dX6_copyFrom_2 fX6_31) dX6_copyFrom_5 pX6_31_false)
 (cs_seq (p1 := 23) (cs_copy (p1 := 20) C (ca_cons (p1 := 12) (ce_fld C (ce_aln C dX6_copyFrom_8 rfl) dX6_copyFrom_9 fX6_9) (ca_cons (p1 := 13) (ce_iconst C dX6_copyFrom_12 (by decide)) (ca_cons (p1 := 17) (ce_fld C (ce_aln C dX6_copyFrom_13 rfl) dX6_copyFrom_14 fX6_9) (ca_cons (p1 := 18) (ce_iconst C dX6_copyFrom_17 (by decide)) (ca_cons (p1 := 20) (ce_bipush C dX6_copyFrom_18 (by decide)) ca_nil))))) dX6_copyFrom_20 cpX6_44 (by decide) (by decide))
 (cs_seq (p1 := 37) (cs_copy (p1 := 34) C (ca_cons (p1 := 27) (ce_fld C (ce_aln C dX6_copyFrom_23 rfl) dX6_copyFrom_24 fX6_15) (ca_cons (p1 := 28) (ce_iconst C dX6_copyFrom_27 (by decide)) (ca_cons (p1 := 32) (ce_fld C (ce_aln C dX6_copyFrom_28 rfl) dX6_copyFrom_29 fX6_15) (ca_cons (p1 := 33) (ce_iconst C dX6_copyFrom_32 (by decide)) (ca_cons (p1 := 34) (ce_iconst C dX6_copyFrom_33 (by decide)) ca_nil))))) dX6_copyFrom_34 cpX6_44 (by decide) (by decide))
 (cs_seq (p1 := 51) (cs_copy (p1 := 48) C (ca_cons (p1 := 41) (ce_fld C (ce_aln C dX6_copyFrom_37 rfl) dX6_copyFrom_38 fX6_18) (ca_cons (p1 := 42) (ce_iconst C dX6_copyFrom_41 (by decide)) (ca_cons (p1 := 46) (ce_fld C (ce_aln C dX6_copyFrom_42 rfl) dX6_copyFrom_43 fX6_18) (ca_cons (p1 := 47) (ce_iconst C dX6_copyFrom_46 (by decide)) (ca_cons (p1 := 48) (ce_iconst C dX6_copyFrom_47 (by decide)) ca_nil))))) dX6_copyFrom_48 cpX6_44 (by decide) (by decide))
 (cs_seq (p1 := 65) (cs_copy (p1 := 62) C (ca_cons (p1 := 55) (ce_fld C (ce_aln C dX6_copyFrom_51 rfl) dX6_copyFrom_52 fX6_21) (ca_cons (p1 := 56) (ce_iconst C dX6_copyFrom_55 (by decide)) (ca_cons (p1 := 60) (ce_fld C (ce_aln C dX6_copyFrom_56 rfl) dX6_copyFrom_57 fX6_21) (ca_cons (p1 := 61) (ce_iconst C dX6_copyFrom_60 (by decide)) (ca_cons (p1 := 62) (ce_iconst C dX6_copyFrom_61 (by decide)) ca_nil))))) dX6_copyFrom_62 cpX6_44 (by decide) (by decide))
 (cs_seq (p1 := 80) (cs_copy (p1 := 77) C (ca_cons (p1 := 69) (ce_fld C (ce_aln C dX6_copyFrom_65 rfl) dX6_copyFrom_66 fX6_24) (ca_cons (p1 := 70) (ce_iconst C dX6_copyFrom_69 (by decide)) (ca_cons (p1 := 74) (ce_fld C (ce_aln C dX6_copyFrom_70 rfl) dX6_copyFrom_71 fX6_24) (ca_cons (p1 := 75) (ce_iconst C dX6_copyFrom_74 (by decide)) (ca_cons (p1 := 77) (ce_bipush C dX6_copyFrom_75 (by decide)) ca_nil))))) dX6_copyFrom_77 cpX6_44 (by decide) (by decide))
 (cs_retV C dX6_copyFrom_80)))))))
theorem good_X6_copyFrom : xGood yX6_copyFrom cX6_copyFrom 2 none 1 18 m_X6_copyFrom :=
  x_methI (ini := false) (bz := false) (Or.inr (Or.inr rfl)) ⟨fun _ => rfl, fun _ => rfl⟩ (fun h => by cases h) (by decide) (fun K C => bo_X6_copyFrom C)

def bd_X6_wearBy : XS := (s_seq (s_ast 0 (e_fld 6 1 (e_al 0)) (e_il 1) (e_call m_min [(e_bin o_add (e_ald 0 (e_fld 6 1 (e_al 0)) (e_il 1)) (e_il 2)), (e_lit 999)]))
 s_retV)
def m_X6_wearBy : XF := xM 6 2 3 true bd_X6_wearBy
theorem rc_X6_wearBy : xRecv m_X6_wearBy 6 2 := xM_recv
set_option maxRecDepth 100000 in
set_option maxHeartbeats 4000000 in
theorem bo_X6_wearBy {K : XK} (C : xOK K RX6 cX6_wearBy false false 1 21) : CS K 0 bd_X6_wearBy 21 0 0 :=
 (cs_seq (p1 := 20) (cs_iast (p1 := 4) (p2 := 5) (p3 := 19) C (ce_fld C (ce_aln C dX6_wearBy_0 rfl) dX6_wearBy_1 fX6_9) (ce_iln C dX6_wearBy_4 rfl) (ce_call (p1 := 16) (ca_cons (p1 := 13) (ce_bin (p1 := 11) (p2 := 12) (ce_iald (p1 := 9) (p2 := 10) C (ce_fld C (ce_aln C dX6_wearBy_5 rfl) dX6_wearBy_6 fX6_9) (ce_iln C dX6_wearBy_9 rfl) dX6_wearBy_10) (ce_iln C dX6_wearBy_11 rfl) (ob_add C dX6_wearBy_12)) (ca_cons (p1 := 16) (ce_sipush C dX6_wearBy_13 (by decide)) ca_nil)) (xCal_min C dX6_wearBy_16 maX6_67 (by decide) (by decide)) (by decide)) dX6_wearBy_19)
 (cs_retV C dX6_wearBy_20))
theorem good_X6_wearBy : xGood yX6_wearBy cX6_wearBy 3 none 1 21 m_X6_wearBy :=
  x_methI (ini := false) (bz := false) (Or.inr (Or.inr rfl)) ⟨fun _ => rfl, fun _ => rfl⟩ (fun h => by cases h) (by decide) (fun K C => bo_X6_wearBy C)

def bd_X6_goOver : XS := (s_seq (s_astop o_add (e_fld 6 5 (e_al 0)) (e_bin o_add (e_bin o_mul (e_il 1) (e_lit 9)) (e_il 2)) (e_tern (b_cmp r_eq (e_ald 0 (e_fld 4 5 (e_fld 6 6 (e_al 0))) (e_il 2)) (e_ald 0 (e_fld 6 2 (e_al 0)) (e_il 1))) (e_lit 1) (e_lit (-1))))
 (s_seq (s_ast 0 (e_fld 6 2 (e_al 0)) (e_il 1) (e_call m_X4_across [(e_fld 6 6 (e_al 0)), (e_il 2), (e_ald 0 (e_fld 6 2 (e_al 0)) (e_il 1))]))
 (s_seq (s_ast 0 (e_fld 6 4 (e_al 0)) (e_il 1) (e_il 2))
 (s_seq (s_astop o_add (e_fld 6 3 (e_al 0)) (e_il 1) (e_call m_X4_gainOf [(e_fld 6 6 (e_al 0)), (e_il 1), (e_il 2)]))
 (s_seq (s_call m_X6_wearBy [(e_al 0), (e_il 2), (e_call m_X4_wearOf [(e_fld 6 6 (e_al 0)), (e_il 1), (e_il 2)])])
 (s_seq (s_putop 6 0 o_add (e_al 0) (e_lit 1))
 s_retV))))))
def m_X6_goOver : XF := xM 6 2 3 true bd_X6_goOver
theorem rc_X6_goOver : xRecv m_X6_goOver 6 2 := xM_recv
set_option maxRecDepth 100000 in
set_option maxHeartbeats 4000000 in
theorem bo_X6_goOver {K : XK} (C : xOK K RX6 cX6_goOver false false 2 43) : CS K 0 bd_X6_goOver 107 0 0 :=
 (cs_seq (p1 := 37) (cs_astop (p1 := 4) (p2 := 10) (p3 := 35) C (ce_fld C (ce_aln C dX6_goOver_0 rfl) dX6_goOver_1 fX6_24) (ce_bin (p1 := 8) (p2 := 9) (ce_bin (p1 := 5) (p2 := 7) (ce_iln C dX6_goOver_4 rfl) (ce_bipush C dX6_goOver_5 (by decide)) (ob_mul C dX6_goOver_7)) (ce_iln C dX6_goOver_8 rfl) (ob_add C dX6_goOver_9)) dX6_goOver_10 dX6_goOver_11 (ce_tern (pT := 30) (pF := 34) (p1 := 31) C (cc_eqN (p1 := 21) (p2 := 27) C (ce_iald (p1 := 19) (p2 := 20) C (ce_fld C (ce_fld C (ce_aln C dX6_goOver_12 rfl) dX6_goOver_13 fX6_27) dX6_goOver_16 fX6_50) (ce_iln C dX6_goOver_19 rfl) dX6_goOver_20) (ce_iald (p1 := 25) (p2 := 26) C (ce_fld C (ce_aln C dX6_goOver_21 rfl) dX6_goOver_22 fX6_15) (ce_iln C dX6_goOver_25 rfl) dX6_goOver_26) dX6_goOver_27 (by decide) rfl) (ce_iconst C dX6_goOver_30 (by decide)) dX6_goOver_31 (by decide) (ce_iconst C dX6_goOver_34 (by decide))) (ob_add C dX6_goOver_35) dX6_goOver_36)
 (cs_seq (p1 := 57) (cs_iast (p1 := 41) (p2 := 42) (p3 := 56) C (ce_fld C (ce_aln C dX6_goOver_37 rfl) dX6_goOver_38 fX6_15) (ce_iln C dX6_goOver_41 rfl) (ce_call (p1 := 53) (ca_cons (p1 := 46) (ce_fld C (ce_aln C dX6_goOver_42 rfl) dX6_goOver_43 fX6_27) (ca_cons (p1 := 47) (ce_iln C dX6_goOver_46 rfl) (ca_cons (p1 := 53) (ce_iald (p1 := 51) (p2 := 52) C (ce_fld C (ce_aln C dX6_goOver_47 rfl) dX6_goOver_48 fX6_15) (ce_iln C dX6_goOver_51 rfl) dX6_goOver_52) ca_nil))) (xCal_V (ci := 4) C dX6_goOver_53 wX4_across vX6_53 rfl rfl good_X4_across rc_X4_across (by decide) (by decide)) (by decide)) dX6_goOver_56)
 (cs_seq (p1 := 64) (cs_iast (p1 := 61) (p2 := 62) (p3 := 63) C (ce_fld C (ce_aln C dX6_goOver_57 rfl) dX6_goOver_58 fX6_21) (ce_iln C dX6_goOver_61 rfl) (ce_iln C dX6_goOver_62 rfl) dX6_goOver_63)
 (cs_seq (p1 := 82) (cs_astop (p1 := 68) (p2 := 69) (p3 := 80) C (ce_fld C (ce_aln C dX6_goOver_64 rfl) dX6_goOver_65 fX6_18) (ce_iln C dX6_goOver_68 rfl) dX6_goOver_69 dX6_goOver_70 (ce_call (p1 := 77) (ca_cons (p1 := 75) (ce_fld C (ce_aln C dX6_goOver_71 rfl) dX6_goOver_72 fX6_27) (ca_cons (p1 := 76) (ce_iln C dX6_goOver_75 rfl) (ca_cons (p1 := 77) (ce_iln C dX6_goOver_76 rfl) ca_nil))) (xCal_V (ci := 4) C dX6_goOver_77 wX4_gainOf vX6_57 rfl rfl good_X4_gainOf rc_X4_gainOf (by decide) (by decide)) (by decide)) (ob_add C dX6_goOver_80) dX6_goOver_81)
 (cs_seq (p1 := 96) (cs_call (p1 := 93) (ca_cons (p1 := 83) (ce_aln C dX6_goOver_82 rfl) (ca_cons (p1 := 84) (ce_iln C dX6_goOver_83 rfl) (ca_cons (p1 := 93) (ce_call (p1 := 90) (ca_cons (p1 := 88) (ce_fld C (ce_aln C dX6_goOver_84 rfl) dX6_goOver_85 fX6_27) (ca_cons (p1 := 89) (ce_iln C dX6_goOver_88 rfl) (ca_cons (p1 := 90) (ce_iln C dX6_goOver_89 rfl) ca_nil))) (xCal_V (ci := 4) C dX6_goOver_90 wX4_wearOf vX6_60 rfl rfl good_X4_wearOf rc_X4_wearOf (by decide) (by decide)) (by decide)) ca_nil))) (xCal_V (ci := 6) C dX6_goOver_93 wX6_wearBy vX6_63 rfl rfl good_X6_wearBy rc_X6_wearBy (by decide) (by decide)))
 (cs_seq (p1 := 106) (cs_putop (p1 := 97) (p2 := 102) C (ce_aln C dX6_goOver_96 rfl) dX6_goOver_97 dX6_goOver_98 fX6_31 (ce_iconst C dX6_goOver_101 (by decide)) (ob_add C dX6_goOver_102) dX6_goOver_103 pX6_31_false)
 (cs_retV C dX6_goOver_106)))))))
theorem good_X6_goOver : xGood yX6_goOver cX6_goOver 3 none 2 43 m_X6_goOver :=
  x_methI (ini := false) (bz := false) (Or.inr (Or.inr rfl)) ⟨fun _ => rfl, fun _ => rfl⟩ (fun h => by cases h) (by decide) (fun K C => bo_X6_goOver C)

def bd_X6_accountOf : XS := (s_ret (e_ald 0 (e_fld 6 5 (e_al 0)) (e_bin o_add (e_bin o_mul (e_il 1) (e_lit 9)) (e_il 2))))
def m_X6_accountOf : XF := xM 6 2 3 false bd_X6_accountOf
theorem rc_X6_accountOf : xRecv m_X6_accountOf 6 2 := xM_recv
set_option maxRecDepth 100000 in
set_option maxHeartbeats 4000000 in
theorem bo_X6_accountOf {K : XK} (C : xOK K RX6 cX6_accountOf false false 0 0) : CS K 0 bd_X6_accountOf 12 0 0 :=
 (cs_ret (p1 := 11) C (ce_iald (p1 := 4) (p2 := 10) C (ce_fld C (ce_aln C dX6_accountOf_0 rfl) dX6_accountOf_1 fX6_24) (ce_bin (p1 := 8) (p2 := 9) (ce_bin (p1 := 5) (p2 := 7) (ce_iln C dX6_accountOf_4 rfl) (ce_bipush C dX6_accountOf_5 (by decide)) (ob_mul C dX6_accountOf_7)) (ce_iln C dX6_accountOf_8 rfl) (ob_add C dX6_accountOf_9)) dX6_accountOf_10) dX6_accountOf_11)
theorem good_X6_accountOf : xGood yX6_accountOf cX6_accountOf 3 (some .int) 0 0 m_X6_accountOf :=
  x_methI (ini := false) (bz := false) (Or.inl ⟨rfl, rfl⟩) ⟨fun h => (by cases h), fun h => (by cases h)⟩ (fun h => by cases h) (by decide) (fun K C => bo_X6_accountOf C)

def lc_X6_unevenStiles_1 : XB := (b_cmp r_lt (e_il 3) (e_fld 4 2 (e_fld 6 6 (e_al 0))))
def la_X6_unevenStiles_1 : XS := (s_ite (b_cmp0 r_ne0 (e_call m_X6_accountOf [(e_al 0), (e_il 1), (e_il 3)])) (s_iasg 2 (e_bin o_or (e_il 2) (e_bin o_shl (e_lit 1) (e_il 3))))
 s_skip)
def lu_X6_unevenStiles_1 : XS := (s_inc 3 1)
def bd_X6_unevenStiles : XS := (s_seq (s_iasg 2 (e_lit 0))
 (s_seq (s_iasg 3 (e_lit 0))
 (s_seq (s_loop 1000 (lc_X6_unevenStiles_1) (la_X6_unevenStiles_1) (lu_X6_unevenStiles_1))
 (s_ret (e_il 2)))))
def m_X6_unevenStiles : XF := xM 6 1 4 false bd_X6_unevenStiles
theorem rc_X6_unevenStiles : xRecv m_X6_unevenStiles 6 1 := xM_recv
set_option maxRecDepth 100000 in
set_option maxHeartbeats 4000000 in
theorem bo_X6_unevenStiles {K : XK} (C : xOK K RX6 cX6_unevenStiles false false 1 22) : CS K 0 bd_X6_unevenStiles 38 0 0 :=
 (cs_seq (p1 := 2) (cs_iasgn (p1 := 1) C (ce_iconst C dX6_unevenStiles_0 (by decide)) dX6_unevenStiles_1 rfl)
 (cs_seq (p1 := 4) (cs_iasgn (p1 := 3) C (ce_iconst C dX6_unevenStiles_2 (by decide)) dX6_unevenStiles_3 rfl)
 (cs_seq (p1 := 36) (cs_loop (pB := 15) (pE := 36) (pu := 30) (p2 := 33) C (cc_ltN (p1 := 5) (p2 := 12) C (ce_iln C dX6_unevenStiles_4 rfl) (ce_fld C (ce_fld C (ce_aln C dX6_unevenStiles_5 rfl) dX6_unevenStiles_6 fX6_27) dX6_unevenStiles_9 fX6_72) dX6_unevenStiles_12 (by decide) rfl)
 (cs_itf (pT := 24) (pF := 30) (cc_ne0N (p1 := 21) C (ce_call (p1 := 18) (ca_cons (p1 := 16) (ce_aln C dX6_unevenStiles_15 rfl) (ca_cons (p1 := 17) (ce_iln C dX6_unevenStiles_16 rfl) (ca_cons (p1 := 18) (ce_iln C dX6_unevenStiles_17 rfl) ca_nil))) (xCal_V (ci := 6) C dX6_unevenStiles_18 wX6_accountOf vX6_75 rfl rfl good_X6_accountOf rc_X6_accountOf (by decide) (by decide)) (by decide)) dX6_unevenStiles_21 (by decide) rfl) (cs_iasgn (p1 := 29) C (ce_bin (p1 := 25) (p2 := 28) (ce_iln C dX6_unevenStiles_24 rfl) (ce_bin (p1 := 26) (p2 := 27) (ce_iconst C dX6_unevenStiles_25 (by decide)) (ce_iln C dX6_unevenStiles_26 rfl) (ob_shl C dX6_unevenStiles_27)) (ob_or C dX6_unevenStiles_28)) dX6_unevenStiles_29 rfl)
 cs_skip)
 (cs_inc C dX6_unevenStiles_30 (by decide)) dX6_unevenStiles_33 (by decide))
 (cs_ret (p1 := 37) C (ce_iln C dX6_unevenStiles_36 rfl) dX6_unevenStiles_37))))
theorem good_X6_unevenStiles : xGood yX6_unevenStiles cX6_unevenStiles 4 (some .int) 1 22 m_X6_unevenStiles :=
  x_methI (ini := false) (bz := false) (Or.inl ⟨rfl, rfl⟩) ⟨fun h => (by cases h), fun h => (by cases h)⟩ (fun h => by cases h) (by decide) (fun K C => bo_X6_unevenStiles C)

def bd_X6_isLevel : XS := (s_retZ (e_tern (b_cmp0 r_eq0 (e_call m_X6_unevenStiles [(e_al 0), (e_il 1)])) (e_lit 1) (e_lit 0)))
def m_X6_isLevel : XF := xM 6 1 2 false bd_X6_isLevel
theorem rc_X6_isLevel : xRecv m_X6_isLevel 6 1 := xM_recv
set_option maxRecDepth 100000 in
set_option maxHeartbeats 4000000 in
theorem bo_X6_isLevel {K : XK} (C : xOK K RX6 cX6_isLevel false true 2 45) : CS K 0 bd_X6_isLevel 14 0 0 :=
 (cs_retZ (p1 := 13) C (ce_tern (pT := 8) (pF := 12) (p1 := 9) C (cc_eq0N (p1 := 5) C (ce_call (p1 := 2) (ca_cons (p1 := 1) (ce_aln C dX6_isLevel_0 rfl) (ca_cons (p1 := 2) (ce_iln C dX6_isLevel_1 rfl) ca_nil)) (xCal_V (ci := 6) C dX6_isLevel_2 wX6_unevenStiles vX6_78 rfl rfl good_X6_unevenStiles rc_X6_unevenStiles (by decide) (by decide)) (by decide)) dX6_isLevel_5 (by decide) rfl) (ce_iconst C dX6_isLevel_8 (by decide)) dX6_isLevel_9 (by decide) (ce_iconst C dX6_isLevel_12 (by decide))) dX6_isLevel_13)
theorem good_X6_isLevel : xGood yX6_isLevel cX6_isLevel 2 (some .boolean) 2 45 m_X6_isLevel :=
  x_methI (ini := false) (bz := true) (Or.inr (Or.inl ⟨rfl, rfl⟩)) ⟨fun h => (by cases h), fun h => (by cases h)⟩ (fun h => by cases h) (by decide) (fun K C => bo_X6_isLevel C)

def bd_X6_isBroken : XS := (s_retZ (e_tern (b_cmp r_ge (e_ald 0 (e_fld 6 1 (e_al 0)) (e_il 1)) (e_fld 4 1 (e_fld 6 6 (e_al 0)))) (e_lit 1) (e_lit 0)))
def m_X6_isBroken : XF := xM 6 1 2 false bd_X6_isBroken
theorem rc_X6_isBroken : xRecv m_X6_isBroken 6 1 := xM_recv
set_option maxRecDepth 100000 in
set_option maxHeartbeats 4000000 in
theorem bo_X6_isBroken {K : XK} (C : xOK K RX6 cX6_isBroken false true 0 0) : CS K 0 bd_X6_isBroken 22 0 0 :=
 (cs_retZ (p1 := 21) C (ce_tern (pT := 16) (pF := 20) (p1 := 17) C (cc_geN (p1 := 6) (p2 := 13) C (ce_iald (p1 := 4) (p2 := 5) C (ce_fld C (ce_aln C dX6_isBroken_0 rfl) dX6_isBroken_1 fX6_9) (ce_iln C dX6_isBroken_4 rfl) dX6_isBroken_5) (ce_fld C (ce_fld C (ce_aln C dX6_isBroken_6 rfl) dX6_isBroken_7 fX6_27) dX6_isBroken_10 fX6_82) dX6_isBroken_13 (by decide) rfl) (ce_iconst C dX6_isBroken_16 (by decide)) dX6_isBroken_17 (by decide) (ce_iconst C dX6_isBroken_20 (by decide))) dX6_isBroken_21)
theorem good_X6_isBroken : xGood yX6_isBroken cX6_isBroken 2 (some .boolean) 0 0 m_X6_isBroken :=
  x_methI (ini := false) (bz := true) (Or.inr (Or.inl ⟨rfl, rfl⟩)) ⟨fun h => (by cases h), fun h => (by cases h)⟩ (fun h => by cases h) (by decide) (fun K C => bo_X6_isBroken C)

def bd_X6_isOpenAt : XS := (s_retZ (e_tern (b_and (b_cmp0 r_ne0 (e_call m_X4_isAt [(e_fld 6 6 (e_al 0)), (e_il 1), (e_il 2)])) (b_not (b_cmp0 r_ne0 (e_call m_X6_isBroken [(e_al 0), (e_il 1)])))) (e_lit 1) (e_lit 0)))
def m_X6_isOpenAt : XF := xM 6 2 3 false bd_X6_isOpenAt
theorem rc_X6_isOpenAt : xRecv m_X6_isOpenAt 6 2 := xM_recv
set_option maxRecDepth 100000 in
set_option maxHeartbeats 4000000 in
theorem bo_X6_isOpenAt {K : XK} (C : xOK K RX6 cX6_isOpenAt false true 1 22) : CS K 0 bd_X6_isOpenAt 26 0 0 :=
 (cs_retZ (p1 := 25) C (ce_tern (pT := 20) (pF := 24) (p1 := 21) C (cc_and (pM := 12) (cc_ne0N (p1 := 9) C (ce_call (p1 := 6) (ca_cons (p1 := 4) (ce_fld C (ce_aln C dX6_isOpenAt_0 rfl) dX6_isOpenAt_1 fX6_27) (ca_cons (p1 := 5) (ce_iln C dX6_isOpenAt_4 rfl) (ca_cons (p1 := 6) (ce_iln C dX6_isOpenAt_5 rfl) ca_nil))) (xCal_V (ci := 4) C dX6_isOpenAt_6 wX4_isAt vX6_85 rfl rfl good_X4_isAt rc_X4_isAt (by decide) (by decide)) (by decide)) dX6_isOpenAt_9 (by decide) rfl) (cc_not (cc_ne0J (p1 := 17) C (ce_call (p1 := 14) (ca_cons (p1 := 13) (ce_aln C dX6_isOpenAt_12 rfl) (ca_cons (p1 := 14) (ce_iln C dX6_isOpenAt_13 rfl) ca_nil)) (xCal_V (ci := 6) C dX6_isOpenAt_14 wX6_isBroken vX6_89 rfl rfl good_X6_isBroken rc_X6_isBroken (by decide) (by decide)) (by decide)) dX6_isOpenAt_17 (by decide) rfl))) (ce_iconst C dX6_isOpenAt_20 (by decide)) dX6_isOpenAt_21 (by decide) (ce_iconst C dX6_isOpenAt_24 (by decide))) dX6_isOpenAt_25)
theorem good_X6_isOpenAt : xGood yX6_isOpenAt cX6_isOpenAt 3 (some .boolean) 1 22 m_X6_isOpenAt :=
  x_methI (ini := false) (bz := true) (Or.inr (Or.inl ⟨rfl, rfl⟩)) ⟨fun h => (by cases h), fun h => (by cases h)⟩ (fun h => by cases h) (by decide) (fun K C => bo_X6_isOpenAt C)

def lc_X6_openStilesAt_1 : XB := (b_cmp r_lt (e_il 3) (e_fld 4 2 (e_fld 6 6 (e_al 0))))
def la_X6_openStilesAt_1 : XS := (s_ite (b_cmp0 r_ne0 (e_call m_X6_isOpenAt [(e_al 0), (e_il 3), (e_il 1)])) (s_inc 2 1)
 s_skip)
def lu_X6_openStilesAt_1 : XS := (s_inc 3 1)
def bd_X6_openStilesAt : XS := (s_seq (s_iasg 2 (e_lit 0))
 (s_seq (s_iasg 3 (e_lit 0))
 (s_seq (s_loop 1000 (lc_X6_openStilesAt_1) (la_X6_openStilesAt_1) (lu_X6_openStilesAt_1))
 (s_ret (e_il 2)))))
def m_X6_openStilesAt : XF := xM 6 1 4 false bd_X6_openStilesAt
theorem rc_X6_openStilesAt : xRecv m_X6_openStilesAt 6 1 := xM_recv
set_option maxRecDepth 100000 in
set_option maxHeartbeats 4000000 in
theorem bo_X6_openStilesAt {K : XK} (C : xOK K RX6 cX6_openStilesAt false false 2 44) : CS K 0 bd_X6_openStilesAt 35 0 0 :=
 (cs_seq (p1 := 2) (cs_iasgn (p1 := 1) C (ce_iconst C dX6_openStilesAt_0 (by decide)) dX6_openStilesAt_1 rfl)
 (cs_seq (p1 := 4) (cs_iasgn (p1 := 3) C (ce_iconst C dX6_openStilesAt_2 (by decide)) dX6_openStilesAt_3 rfl)
 (cs_seq (p1 := 33) (cs_loop (pB := 15) (pE := 33) (pu := 27) (p2 := 30) C (cc_ltN (p1 := 5) (p2 := 12) C (ce_iln C dX6_openStilesAt_4 rfl) (ce_fld C (ce_fld C (ce_aln C dX6_openStilesAt_5 rfl) dX6_openStilesAt_6 fX6_27) dX6_openStilesAt_9 fX6_72) dX6_openStilesAt_12 (by decide) rfl)
 (cs_itf (pT := 24) (pF := 27) (cc_ne0N (p1 := 21) C (ce_call (p1 := 18) (ca_cons (p1 := 16) (ce_aln C dX6_openStilesAt_15 rfl) (ca_cons (p1 := 17) (ce_iln C dX6_openStilesAt_16 rfl) (ca_cons (p1 := 18) (ce_iln C dX6_openStilesAt_17 rfl) ca_nil))) (xCal_V (ci := 6) C dX6_openStilesAt_18 wX6_isOpenAt vX6_93 rfl rfl good_X6_isOpenAt rc_X6_isOpenAt (by decide) (by decide)) (by decide)) dX6_openStilesAt_21 (by decide) rfl) (cs_inc C dX6_openStilesAt_24 (by decide))
 cs_skip)
 (cs_inc C dX6_openStilesAt_27 (by decide)) dX6_openStilesAt_30 (by decide))
 (cs_ret (p1 := 34) C (ce_iln C dX6_openStilesAt_33 rfl) dX6_openStilesAt_34))))
theorem good_X6_openStilesAt : xGood yX6_openStilesAt cX6_openStilesAt 4 (some .int) 2 44 m_X6_openStilesAt :=
  x_methI (ini := false) (bz := false) (Or.inl ⟨rfl, rfl⟩) ⟨fun h => (by cases h), fun h => (by cases h)⟩ (fun h => by cases h) (by decide) (fun K C => bo_X6_openStilesAt C)

def lc_X6_openStileAt_1 : XB := (b_and (b_cmp r_lt (e_il 5) (e_fld 4 2 (e_fld 6 6 (e_al 0)))) (b_cmp r_le (e_il 4) (e_il 2)))
def la_X6_openStileAt_1 : XS := (s_ite (b_cmp0 r_ne0 (e_call m_X6_isOpenAt [(e_al 0), (e_il 5), (e_il 1)])) (s_seq (s_iasg 3 (e_il 5))
 (s_inc 4 1))
 s_skip)
def lu_X6_openStileAt_1 : XS := (s_inc 5 1)
def bd_X6_openStileAt : XS := (s_seq (s_iasg 3 (e_lit 0))
 (s_seq (s_iasg 4 (e_lit 0))
 (s_seq (s_iasg 5 (e_lit 0))
 (s_seq (s_loop 1000 (lc_X6_openStileAt_1) (la_X6_openStileAt_1) (lu_X6_openStileAt_1))
 (s_ret (e_il 3))))))
def m_X6_openStileAt : XF := xM 6 2 6 false bd_X6_openStileAt
theorem rc_X6_openStileAt : xRecv m_X6_openStileAt 6 2 := xM_recv
set_option maxRecDepth 100000 in
set_option maxHeartbeats 4000000 in
theorem bo_X6_openStileAt {K : XK} (C : xOK K RX6 cX6_openStileAt false false 2 44) : CS K 0 bd_X6_openStileAt 50 0 0 :=
 (cs_seq (p1 := 2) (cs_iasgn (p1 := 1) C (ce_iconst C dX6_openStileAt_0 (by decide)) dX6_openStileAt_1 rfl)
 (cs_seq (p1 := 5) (cs_iasg (p1 := 3) C (ce_iconst C dX6_openStileAt_2 (by decide)) dX6_openStileAt_3)
 (cs_seq (p1 := 8) (cs_iasg (p1 := 6) C (ce_iconst C dX6_openStileAt_5 (by decide)) dX6_openStileAt_6)
 (cs_seq (p1 := 48) (cs_loop (pB := 26) (pE := 48) (pu := 42) (p2 := 45) C (cc_and (pM := 20) (cc_ltN (p1 := 10) (p2 := 17) C (ce_il C dX6_openStileAt_8) (ce_fld C (ce_fld C (ce_aln C dX6_openStileAt_10 rfl) dX6_openStileAt_11 fX6_27) dX6_openStileAt_14 fX6_72) dX6_openStileAt_17 (by decide) rfl) (cc_leN (p1 := 22) (p2 := 23) C (ce_il C dX6_openStileAt_20) (ce_iln C dX6_openStileAt_22 rfl) dX6_openStileAt_23 (by decide) rfl))
 (cs_itf (pT := 36) (pF := 42) (cc_ne0N (p1 := 33) C (ce_call (p1 := 30) (ca_cons (p1 := 27) (ce_aln C dX6_openStileAt_26 rfl) (ca_cons (p1 := 29) (ce_il C dX6_openStileAt_27) (ca_cons (p1 := 30) (ce_iln C dX6_openStileAt_29 rfl) ca_nil))) (xCal_V (ci := 6) C dX6_openStileAt_30 wX6_isOpenAt vX6_93 rfl rfl good_X6_isOpenAt rc_X6_isOpenAt (by decide) (by decide)) (by decide)) dX6_openStileAt_33 (by decide) rfl) (cs_seq (p1 := 39) (cs_iasgn (p1 := 38) C (ce_il C dX6_openStileAt_36) dX6_openStileAt_38 rfl)
 (cs_inc C dX6_openStileAt_39 (by decide)))
 cs_skip)
 (cs_inc C dX6_openStileAt_42 (by decide)) dX6_openStileAt_45 (by decide))
 (cs_ret (p1 := 49) C (ce_iln C dX6_openStileAt_48 rfl) dX6_openStileAt_49)))))
theorem good_X6_openStileAt : xGood yX6_openStileAt cX6_openStileAt 6 (some .int) 2 44 m_X6_openStileAt :=
  x_methI (ini := false) (bz := false) (Or.inl ⟨rfl, rfl⟩) ⟨fun h => (by cases h), fun h => (by cases h)⟩ (fun h => by cases h) (by decide) (fun K C => bo_X6_openStileAt C)

def lc_X6_brokenStiles_1 : XB := (b_cmp r_lt (e_il 2) (e_fld 4 2 (e_fld 6 6 (e_al 0))))
def la_X6_brokenStiles_1 : XS := (s_ite (b_cmp0 r_ne0 (e_call m_X6_isBroken [(e_al 0), (e_il 2)])) (s_inc 1 1)
 s_skip)
def lu_X6_brokenStiles_1 : XS := (s_inc 2 1)
def bd_X6_brokenStiles : XS := (s_seq (s_iasg 1 (e_lit 0))
 (s_seq (s_iasg 2 (e_lit 0))
 (s_seq (s_loop 1000 (lc_X6_brokenStiles_1) (la_X6_brokenStiles_1) (lu_X6_brokenStiles_1))
 (s_ret (e_il 1)))))
def m_X6_brokenStiles : XF := xM 6 0 3 false bd_X6_brokenStiles
theorem rc_X6_brokenStiles : xRecv m_X6_brokenStiles 6 0 := xM_recv
set_option maxRecDepth 100000 in
set_option maxHeartbeats 4000000 in
theorem bo_X6_brokenStiles {K : XK} (C : xOK K RX6 cX6_brokenStiles false false 1 21) : CS K 0 bd_X6_brokenStiles 34 0 0 :=
 (cs_seq (p1 := 2) (cs_iasgn (p1 := 1) C (ce_iconst C dX6_brokenStiles_0 (by decide)) dX6_brokenStiles_1 rfl)
 (cs_seq (p1 := 4) (cs_iasgn (p1 := 3) C (ce_iconst C dX6_brokenStiles_2 (by decide)) dX6_brokenStiles_3 rfl)
 (cs_seq (p1 := 32) (cs_loop (pB := 15) (pE := 32) (pu := 26) (p2 := 29) C (cc_ltN (p1 := 5) (p2 := 12) C (ce_iln C dX6_brokenStiles_4 rfl) (ce_fld C (ce_fld C (ce_aln C dX6_brokenStiles_5 rfl) dX6_brokenStiles_6 fX6_27) dX6_brokenStiles_9 fX6_72) dX6_brokenStiles_12 (by decide) rfl)
 (cs_itf (pT := 23) (pF := 26) (cc_ne0N (p1 := 20) C (ce_call (p1 := 17) (ca_cons (p1 := 16) (ce_aln C dX6_brokenStiles_15 rfl) (ca_cons (p1 := 17) (ce_iln C dX6_brokenStiles_16 rfl) ca_nil)) (xCal_V (ci := 6) C dX6_brokenStiles_17 wX6_isBroken vX6_89 rfl rfl good_X6_isBroken rc_X6_isBroken (by decide) (by decide)) (by decide)) dX6_brokenStiles_20 (by decide) rfl) (cs_inc C dX6_brokenStiles_23 (by decide))
 cs_skip)
 (cs_inc C dX6_brokenStiles_26 (by decide)) dX6_brokenStiles_29 (by decide))
 (cs_ret (p1 := 33) C (ce_iln C dX6_brokenStiles_32 rfl) dX6_brokenStiles_33))))
theorem good_X6_brokenStiles : xGood yX6_brokenStiles cX6_brokenStiles 3 (some .int) 1 21 m_X6_brokenStiles :=
  x_methI (ini := false) (bz := false) (Or.inl ⟨rfl, rfl⟩) ⟨fun h => (by cases h), fun h => (by cases h)⟩ (fun h => by cases h) (by decide) (fun K C => bo_X6_brokenStiles C)

def lc_X6_wornOfAll_1 : XB := (b_cmp r_lt (e_il 2) (e_fld 4 2 (e_fld 6 6 (e_al 0))))
def la_X6_wornOfAll_1 : XS := (s_iasg 1 (e_bin o_add (e_il 1) (e_ald 0 (e_fld 6 1 (e_al 0)) (e_il 2))))
def lu_X6_wornOfAll_1 : XS := (s_inc 2 1)
def bd_X6_wornOfAll : XS := (s_seq (s_iasg 1 (e_lit 0))
 (s_seq (s_iasg 2 (e_lit 0))
 (s_seq (s_loop 1000 (lc_X6_wornOfAll_1) (la_X6_wornOfAll_1) (lu_X6_wornOfAll_1))
 (s_ret (e_il 1)))))
def m_X6_wornOfAll : XF := xM 6 0 3 false bd_X6_wornOfAll
theorem rc_X6_wornOfAll : xRecv m_X6_wornOfAll 6 0 := xM_recv
set_option maxRecDepth 100000 in
set_option maxHeartbeats 4000000 in
theorem bo_X6_wornOfAll {K : XK} (C : xOK K RX6 cX6_wornOfAll false false 0 0) : CS K 0 bd_X6_wornOfAll 32 0 0 :=
 (cs_seq (p1 := 2) (cs_iasgn (p1 := 1) C (ce_iconst C dX6_wornOfAll_0 (by decide)) dX6_wornOfAll_1 rfl)
 (cs_seq (p1 := 4) (cs_iasgn (p1 := 3) C (ce_iconst C dX6_wornOfAll_2 (by decide)) dX6_wornOfAll_3 rfl)
 (cs_seq (p1 := 30) (cs_loop (pB := 15) (pE := 30) (pu := 24) (p2 := 27) C (cc_ltN (p1 := 5) (p2 := 12) C (ce_iln C dX6_wornOfAll_4 rfl) (ce_fld C (ce_fld C (ce_aln C dX6_wornOfAll_5 rfl) dX6_wornOfAll_6 fX6_27) dX6_wornOfAll_9 fX6_72) dX6_wornOfAll_12 (by decide) rfl)
 (cs_iasgn (p1 := 23) C (ce_bin (p1 := 16) (p2 := 22) (ce_iln C dX6_wornOfAll_15 rfl) (ce_iald (p1 := 20) (p2 := 21) C (ce_fld C (ce_aln C dX6_wornOfAll_16 rfl) dX6_wornOfAll_17 fX6_9) (ce_iln C dX6_wornOfAll_20 rfl) dX6_wornOfAll_21) (ob_add C dX6_wornOfAll_22)) dX6_wornOfAll_23 rfl)
 (cs_inc C dX6_wornOfAll_24 (by decide)) dX6_wornOfAll_27 (by decide))
 (cs_ret (p1 := 31) C (ce_iln C dX6_wornOfAll_30 rfl) dX6_wornOfAll_31))))
theorem good_X6_wornOfAll : xGood yX6_wornOfAll cX6_wornOfAll 3 (some .int) 0 0 m_X6_wornOfAll :=
  x_methI (ini := false) (bz := false) (Or.inl ⟨rfl, rfl⟩) ⟨fun h => (by cases h), fun h => (by cases h)⟩ (fun h => by cases h) (by decide) (fun K C => bo_X6_wornOfAll C)

def lc_X6_creditOfAll_1 : XB := (b_cmp r_lt (e_il 2) (e_fld 4 3 (e_fld 6 6 (e_al 0))))
def la_X6_creditOfAll_1 : XS := (s_iasg 1 (e_bin o_add (e_il 1) (e_ald 0 (e_fld 6 3 (e_al 0)) (e_il 2))))
def lu_X6_creditOfAll_1 : XS := (s_inc 2 1)
def bd_X6_creditOfAll : XS := (s_seq (s_iasg 1 (e_lit 0))
 (s_seq (s_iasg 2 (e_lit 0))
 (s_seq (s_loop 1000 (lc_X6_creditOfAll_1) (la_X6_creditOfAll_1) (lu_X6_creditOfAll_1))
 (s_ret (e_il 1)))))
def m_X6_creditOfAll : XF := xM 6 0 3 false bd_X6_creditOfAll
theorem rc_X6_creditOfAll : xRecv m_X6_creditOfAll 6 0 := xM_recv
set_option maxRecDepth 100000 in
set_option maxHeartbeats 4000000 in
theorem bo_X6_creditOfAll {K : XK} (C : xOK K RX6 cX6_creditOfAll false false 0 0) : CS K 0 bd_X6_creditOfAll 32 0 0 :=
 (cs_seq (p1 := 2) (cs_iasgn (p1 := 1) C (ce_iconst C dX6_creditOfAll_0 (by decide)) dX6_creditOfAll_1 rfl)
 (cs_seq (p1 := 4) (cs_iasgn (p1 := 3) C (ce_iconst C dX6_creditOfAll_2 (by decide)) dX6_creditOfAll_3 rfl)
 (cs_seq (p1 := 30) (cs_loop (pB := 15) (pE := 30) (pu := 24) (p2 := 27) C (cc_ltN (p1 := 5) (p2 := 12) C (ce_iln C dX6_creditOfAll_4 rfl) (ce_fld C (ce_fld C (ce_aln C dX6_creditOfAll_5 rfl) dX6_creditOfAll_6 fX6_27) dX6_creditOfAll_9 fX6_96) dX6_creditOfAll_12 (by decide) rfl)
 (cs_iasgn (p1 := 23) C (ce_bin (p1 := 16) (p2 := 22) (ce_iln C dX6_creditOfAll_15 rfl) (ce_iald (p1 := 20) (p2 := 21) C (ce_fld C (ce_aln C dX6_creditOfAll_16 rfl) dX6_creditOfAll_17 fX6_18) (ce_iln C dX6_creditOfAll_20 rfl) dX6_creditOfAll_21) (ob_add C dX6_creditOfAll_22)) dX6_creditOfAll_23 rfl)
 (cs_inc C dX6_creditOfAll_24 (by decide)) dX6_creditOfAll_27 (by decide))
 (cs_ret (p1 := 31) C (ce_iln C dX6_creditOfAll_30 rfl) dX6_creditOfAll_31))))
theorem good_X6_creditOfAll : xGood yX6_creditOfAll cX6_creditOfAll 3 (some .int) 0 0 m_X6_creditOfAll :=
  x_methI (ini := false) (bz := false) (Or.inl ⟨rfl, rfl⟩) ⟨fun h => (by cases h), fun h => (by cases h)⟩ (fun h => by cases h) (by decide) (fun K C => bo_X6_creditOfAll C)

def bd_X6_init : XS := (s_seq s_oinit
 (s_seq (s_put 6 1 2 (e_al 0) (e_newa 0 (e_lit 9)))
 (s_seq (s_put 6 2 2 (e_al 0) (e_newa 0 (e_lit 4)))
 (s_seq (s_put 6 3 2 (e_al 0) (e_newa 0 (e_lit 4)))
 (s_seq (s_put 6 4 2 (e_al 0) (e_newa 0 (e_lit 4)))
 (s_seq (s_put 6 5 2 (e_al 0) (e_newa 0 (e_lit 36)))
 (s_seq (s_put 6 6 2 (e_al 0) (e_al 1))
 s_retV)))))))
def m_X6_init : XF := xM 6 1 2 true bd_X6_init
theorem rc_X6_init : xRecv m_X6_init 6 1 := xM_recv
set_option maxRecDepth 100000 in
set_option maxHeartbeats 4000000 in
theorem bo_X6_init {K : XK} (C : xOK K RX6 cX6_init true false 1 12) : CS K 0 bd_X6_init 47 0 0 :=
 (cs_seq (p1 := 4) (cs_oinit C dX6_init_0 dX6_init_1 oiX6_3 xW_oi1 xW_oi2 (by decide) (by decide))
 (cs_seq (p1 := 12) (cs_put (p1 := 5) (p2 := 9) C (ce_aln C dX6_init_4 rfl) (ce_newi C (ce_bipush C dX6_init_5 (by decide)) dX6_init_7 xW_arri) dX6_init_9 pX6_9_true)
 (cs_seq (p1 := 19) (cs_put (p1 := 13) (p2 := 16) C (ce_aln C dX6_init_12 rfl) (ce_newi C (ce_iconst C dX6_init_13 (by decide)) dX6_init_14 xW_arri) dX6_init_16 pX6_15_true)
 (cs_seq (p1 := 26) (cs_put (p1 := 20) (p2 := 23) C (ce_aln C dX6_init_19 rfl) (ce_newi C (ce_iconst C dX6_init_20 (by decide)) dX6_init_21 xW_arri) dX6_init_23 pX6_18_true)
 (cs_seq (p1 := 33) (cs_put (p1 := 27) (p2 := 30) C (ce_aln C dX6_init_26 rfl) (ce_newi C (ce_iconst C dX6_init_27 (by decide)) dX6_init_28 xW_arri) dX6_init_30 pX6_21_true)
 (cs_seq (p1 := 41) (cs_put (p1 := 34) (p2 := 38) C (ce_aln C dX6_init_33 rfl) (ce_newi C (ce_bipush C dX6_init_34 (by decide)) dX6_init_36 xW_arri) dX6_init_38 pX6_24_true)
 (cs_seq (p1 := 46) (cs_put (p1 := 42) (p2 := 43) C (ce_aln C dX6_init_41 rfl) (ce_aln C dX6_init_42 rfl) dX6_init_43 pX6_27_true)
 (cs_retV C dX6_init_46))))))))
theorem good_X6_init : xGood yX6_init cX6_init 2 none 1 12 m_X6_init :=
  x_methI (ini := true) (bz := false) (Or.inr (Or.inr rfl)) ⟨fun _ => rfl, fun _ => rfl⟩ (fun _ => rfl) (by decide) (fun K C => bo_X6_init C)

def bd_X8_append : XS := (s_seq (s_ite (b_cmp r_ge (e_fld 8 0 (e_al 0)) (e_lit 200)) (s_retZ (e_lit 0))
 s_skip)
 (s_seq (s_ast 1 (e_fld 8 2 (e_al 0)) (e_fld 8 0 (e_al 0)) (e_il 1))
 (s_seq (s_putop 8 0 o_add (e_al 0) (e_lit 1))
 (s_retZ (e_lit 1)))))
def m_X8_append : XF := xM 8 1 2 false bd_X8_append
theorem rc_X8_append : xRecv m_X8_append 8 1 := xM_recv
set_option maxRecDepth 100000 in
set_option maxHeartbeats 4000000 in
theorem bo_X8_append {K : XK} (C : xOK K RX8 cX8_append false true 0 0) : CS K 0 bd_X8_append 34 0 0 :=
 (cs_seq (p1 := 12) (cs_itf (pT := 10) (pF := 12) (cc_geN (p1 := 4) (p2 := 7) C (ce_fld C (ce_aln C dX8_append_0 rfl) dX8_append_1 fX8_26) (ce_sipush C dX8_append_4 (by decide)) dX8_append_7 (by decide) rfl) (cs_retZ (p1 := 11) C (ce_iconst C dX8_append_10 (by decide)) dX8_append_11)
 cs_skip)
 (cs_seq (p1 := 22) (cs_cast (p1 := 16) (p2 := 20) (p3 := 21) C (ce_fld C (ce_aln C dX8_append_12 rfl) dX8_append_13 fX8_18) (ce_fld C (ce_aln C dX8_append_16 rfl) dX8_append_17 fX8_26) (ce_iln C dX8_append_20 rfl) dX8_append_21)
 (cs_seq (p1 := 32) (cs_putop (p1 := 23) (p2 := 28) C (ce_aln C dX8_append_22 rfl) dX8_append_23 dX8_append_24 fX8_26 (ce_iconst C dX8_append_27 (by decide)) (ob_add C dX8_append_28) dX8_append_29 pX8_26_false)
 (cs_retZ (p1 := 33) C (ce_iconst C dX8_append_32 (by decide)) dX8_append_33))))
theorem good_X8_append : xGood yX8_append cX8_append 2 (some .boolean) 0 0 m_X8_append :=
  x_methI (ini := false) (bz := true) (Or.inr (Or.inl ⟨rfl, rfl⟩)) ⟨fun h => (by cases h), fun h => (by cases h)⟩ (fun h => by cases h) (by decide) (fun K C => bo_X8_append C)

def lc_X8_readNumbers_1 : XB := (b_cmp r_lt (e_il 4) (e_fld 8 0 (e_al 0)))
def la_X8_readNumbers_1 : XS := (s_seq (s_iasg 5 (e_ald 1 (e_fld 8 2 (e_al 0)) (e_il 4)))
 (s_seq (s_ite (b_and (b_and (b_cmp r_ge (e_il 5) (e_lit 48)) (b_cmp r_le (e_il 5) (e_lit 57))) (b_cmp r_lt (e_il 3) (e_lit 2))) (s_seq (s_iasg 2 (e_bin o_sub (e_bin o_add (e_bin o_mul (e_lit 10) (e_il 2)) (e_il 5)) (e_lit 48)))
 (s_seq (s_inc 3 1)
 s_cont))
 s_skip)
 (s_seq (s_ite (b_or (b_or (b_cmp0 r_eq0 (e_il 3)) (b_cmp r_ge (e_fld 8 4 (e_al 0)) (e_lit 3))) (b_and (b_cmp r_ne (e_il 5) (e_lit 44)) (b_cmp r_ne (e_il 5) (e_lit 59)))) (s_ret (e_il 1))
 s_skip)
 (s_seq (s_ast 0 (e_fld 8 3 (e_al 0)) (e_fld 8 4 (e_al 0)) (e_il 2))
 (s_seq (s_putop 8 4 o_add (e_al 0) (e_lit 1))
 (s_seq (s_ite (b_cmp r_eq (e_il 5) (e_lit 59)) (s_ret (e_bin o_add (e_il 4) (e_lit 1)))
 s_skip)
 (s_seq (s_iasg 2 (e_lit 0))
 (s_iasg 3 (e_lit 0)))))))))
def lu_X8_readNumbers_1 : XS := (s_inc 4 1)
def bd_X8_readNumbers : XS := (s_seq (s_put 8 4 0 (e_al 0) (e_lit 0))
 (s_seq (s_iasg 2 (e_lit 0))
 (s_seq (s_iasg 3 (e_lit 0))
 (s_seq (s_iasg 4 (e_bin o_add (e_il 1) (e_lit 1)))
 (s_seq (s_loop 1000 (lc_X8_readNumbers_1) (la_X8_readNumbers_1) (lu_X8_readNumbers_1))
 (s_ret (e_il 1)))))))
def m_X8_readNumbers : XF := xM 8 1 6 false bd_X8_readNumbers
theorem rc_X8_readNumbers : xRecv m_X8_readNumbers 8 1 := xM_recv
set_option maxRecDepth 100000 in
set_option maxHeartbeats 4000000 in
theorem bo_X8_readNumbers {K : XK} (C : xOK K RX8 cX8_readNumbers false false 0 0) : CS K 0 bd_X8_readNumbers 140 0 0 :=
 (cs_seq (p1 := 5) (cs_put (p1 := 1) (p2 := 2) C (ce_aln C dX8_readNumbers_0 rfl) (ce_iconst C dX8_readNumbers_1 (by decide)) dX8_readNumbers_2 pX8_45_false)
 (cs_seq (p1 := 7) (cs_iasgn (p1 := 6) C (ce_iconst C dX8_readNumbers_5 (by decide)) dX8_readNumbers_6 rfl)
 (cs_seq (p1 := 9) (cs_iasgn (p1 := 8) C (ce_iconst C dX8_readNumbers_7 (by decide)) dX8_readNumbers_8 rfl)
 (cs_seq (p1 := 14) (cs_iasg (p1 := 12) C (ce_bin (p1 := 10) (p2 := 11) (ce_iln C dX8_readNumbers_9 rfl) (ce_iconst C dX8_readNumbers_10 (by decide)) (ob_add C dX8_readNumbers_11)) dX8_readNumbers_12)
 (cs_seq (p1 := 138) (cs_loop (pB := 23) (pE := 138) (pu := 132) (p2 := 135) C (cc_ltN (p1 := 16) (p2 := 20) C (ce_il C dX8_readNumbers_14) (ce_fld C (ce_aln C dX8_readNumbers_16 rfl) dX8_readNumbers_17 fX8_26) dX8_readNumbers_20 (by decide) rfl)
 (cs_seq (p1 := 32) (cs_iasg (p1 := 30) C (ce_cald (p1 := 27) (p2 := 29) C (ce_fld C (ce_aln C dX8_readNumbers_23 rfl) dX8_readNumbers_24 fX8_18) (ce_il C dX8_readNumbers_27) dX8_readNumbers_29) dX8_readNumbers_30)
 (cs_seq (p1 := 68) (cs_itf (pT := 51) (pF := 68) (cc_and (pM := 46) (cc_and (pM := 39) (cc_geN (p1 := 34) (p2 := 36) C (ce_il C dX8_readNumbers_32) (ce_bipush C dX8_readNumbers_34 (by decide)) dX8_readNumbers_36 (by decide) rfl) (cc_leN (p1 := 41) (p2 := 43) C (ce_il C dX8_readNumbers_39) (ce_bipush C dX8_readNumbers_41 (by decide)) dX8_readNumbers_43 (by decide) rfl)) (cc_ltN (p1 := 47) (p2 := 48) C (ce_iln C dX8_readNumbers_46 rfl) (ce_iconst C dX8_readNumbers_47 (by decide)) dX8_readNumbers_48 (by decide) rfl)) (cs_seq (p1 := 62) (cs_iasgn (p1 := 61) C (ce_bin (p1 := 58) (p2 := 60) (ce_bin (p1 := 55) (p2 := 57) (ce_bin (p1 := 53) (p2 := 54) (ce_bipush C dX8_readNumbers_51 (by decide)) (ce_iln C dX8_readNumbers_53 rfl) (ob_mul C dX8_readNumbers_54)) (ce_il C dX8_readNumbers_55) (ob_add C dX8_readNumbers_57)) (ce_bipush C dX8_readNumbers_58 (by decide)) (ob_sub C dX8_readNumbers_60)) dX8_readNumbers_61 rfl)
 (cs_seq (p1 := 65) (cs_inc C dX8_readNumbers_62 (by decide))
 (cs_cont C dX8_readNumbers_65 (by decide))))
 cs_skip)
 (cs_seq (p1 := 96) (cs_itf (pT := 94) (pF := 96) (cc_or (pM := 80) (cc_or (pM := 72) (cc_eq0J (p1 := 69) C (ce_iln C dX8_readNumbers_68 rfl) dX8_readNumbers_69 (by decide) rfl) (cc_geJ (p1 := 76) (p2 := 77) C (ce_fld C (ce_aln C dX8_readNumbers_72 rfl) dX8_readNumbers_73 fX8_45) (ce_iconst C dX8_readNumbers_76 (by decide)) dX8_readNumbers_77 (by decide) rfl)) (cc_and (pM := 87) (cc_neN (p1 := 82) (p2 := 84) C (ce_il C dX8_readNumbers_80) (ce_bipush C dX8_readNumbers_82 (by decide)) dX8_readNumbers_84 (by decide) rfl) (cc_neN (p1 := 89) (p2 := 91) C (ce_il C dX8_readNumbers_87) (ce_bipush C dX8_readNumbers_89 (by decide)) dX8_readNumbers_91 (by decide) rfl))) (cs_ret (p1 := 95) C (ce_iln C dX8_readNumbers_94 rfl) dX8_readNumbers_95)
 cs_skip)
 (cs_seq (p1 := 106) (cs_iast (p1 := 100) (p2 := 104) (p3 := 105) C (ce_fld C (ce_aln C dX8_readNumbers_96 rfl) dX8_readNumbers_97 fX8_22) (ce_fld C (ce_aln C dX8_readNumbers_100 rfl) dX8_readNumbers_101 fX8_45) (ce_iln C dX8_readNumbers_104 rfl) dX8_readNumbers_105)
 (cs_seq (p1 := 116) (cs_putop (p1 := 107) (p2 := 112) C (ce_aln C dX8_readNumbers_106 rfl) dX8_readNumbers_107 dX8_readNumbers_108 fX8_45 (ce_iconst C dX8_readNumbers_111 (by decide)) (ob_add C dX8_readNumbers_112) dX8_readNumbers_113 pX8_45_false)
 (cs_seq (p1 := 128) (cs_itf (pT := 123) (pF := 128) (cc_eqN (p1 := 118) (p2 := 120) C (ce_il C dX8_readNumbers_116) (ce_bipush C dX8_readNumbers_118 (by decide)) dX8_readNumbers_120 (by decide) rfl) (cs_ret (p1 := 127) C (ce_bin (p1 := 125) (p2 := 126) (ce_il C dX8_readNumbers_123) (ce_iconst C dX8_readNumbers_125 (by decide)) (ob_add C dX8_readNumbers_126)) dX8_readNumbers_127)
 cs_skip)
 (cs_seq (p1 := 130) (cs_iasgn (p1 := 129) C (ce_iconst C dX8_readNumbers_128 (by decide)) dX8_readNumbers_129 rfl)
 (cs_iasgn (p1 := 131) C (ce_iconst C dX8_readNumbers_130 (by decide)) dX8_readNumbers_131 rfl))))))))
 (cs_inc C dX8_readNumbers_132 (by decide)) dX8_readNumbers_135 (by decide))
 (cs_ret (p1 := 139) C (ce_iln C dX8_readNumbers_138 rfl) dX8_readNumbers_139))))))
theorem good_X8_readNumbers : xGood yX8_readNumbers cX8_readNumbers 6 (some .int) 0 0 m_X8_readNumbers :=
  x_methI (ini := false) (bz := false) (Or.inl ⟨rfl, rfl⟩) ⟨fun h => (by cases h), fun h => (by cases h)⟩ (fun h => by cases h) (by decide) (fun K C => bo_X8_readNumbers C)

def bd_X8_takeFields : XS := (s_seq (s_ite (b_or (b_or (b_or (b_cmp0 r_ne0 (e_fld 8 5 (e_al 0))) (b_cmp r_ne (e_fld 8 4 (e_al 0)) (e_lit 1))) (b_cmp r_lt (e_ald 0 (e_fld 8 3 (e_al 0)) (e_lit 0)) (e_lit 1))) (b_cmp r_gt (e_ald 0 (e_fld 8 3 (e_al 0)) (e_lit 0)) (e_lit 8))) (s_retZ (e_lit 0))
 s_skip)
 (s_seq (s_put 4 0 0 (e_fld 8 1 (e_al 0)) (e_ald 0 (e_fld 8 3 (e_al 0)) (e_lit 0)))
 (s_retZ (e_lit 1))))
def m_X8_takeFields : XF := xM 8 0 1 false bd_X8_takeFields
theorem rc_X8_takeFields : xRecv m_X8_takeFields 8 0 := xM_recv
set_option maxRecDepth 100000 in
set_option maxHeartbeats 4000000 in
theorem bo_X8_takeFields {K : XK} (C : xOK K RX8 cX8_takeFields false true 0 0) : CS K 0 bd_X8_takeFields 53 0 0 :=
 (cs_seq (p1 := 38) (cs_itf (pT := 36) (pF := 38) (cc_or (pM := 25) (cc_or (pM := 15) (cc_or (pM := 7) (cc_ne0J (p1 := 4) C (ce_fld C (ce_aln C dX8_takeFields_0 rfl) dX8_takeFields_1 fX8_33) dX8_takeFields_4 (by decide) rfl) (cc_neJ (p1 := 11) (p2 := 12) C (ce_fld C (ce_aln C dX8_takeFields_7 rfl) dX8_takeFields_8 fX8_45) (ce_iconst C dX8_takeFields_11 (by decide)) dX8_takeFields_12 (by decide) rfl)) (cc_ltJ (p1 := 21) (p2 := 22) C (ce_iald (p1 := 19) (p2 := 20) C (ce_fld C (ce_aln C dX8_takeFields_15 rfl) dX8_takeFields_16 fX8_22) (ce_iconst C dX8_takeFields_19 (by decide)) dX8_takeFields_20) (ce_iconst C dX8_takeFields_21 (by decide)) dX8_takeFields_22 (by decide) rfl)) (cc_gtN (p1 := 31) (p2 := 33) C (ce_iald (p1 := 29) (p2 := 30) C (ce_fld C (ce_aln C dX8_takeFields_25 rfl) dX8_takeFields_26 fX8_22) (ce_iconst C dX8_takeFields_29 (by decide)) dX8_takeFields_30) (ce_bipush C dX8_takeFields_31 (by decide)) dX8_takeFields_33 (by decide) rfl)) (cs_retZ (p1 := 37) C (ce_iconst C dX8_takeFields_36 (by decide)) dX8_takeFields_37)
 cs_skip)
 (cs_seq (p1 := 51) (cs_put (p1 := 42) (p2 := 48) C (ce_fld C (ce_aln C dX8_takeFields_38 rfl) dX8_takeFields_39 fX8_12) (ce_iald (p1 := 46) (p2 := 47) C (ce_fld C (ce_aln C dX8_takeFields_42 rfl) dX8_takeFields_43 fX8_22) (ce_iconst C dX8_takeFields_46 (by decide)) dX8_takeFields_47) dX8_takeFields_48 pX8_62_false)
 (cs_retZ (p1 := 52) C (ce_iconst C dX8_takeFields_51 (by decide)) dX8_takeFields_52)))
theorem good_X8_takeFields : xGood yX8_takeFields cX8_takeFields 1 (some .boolean) 0 0 m_X8_takeFields :=
  x_methI (ini := false) (bz := true) (Or.inr (Or.inl ⟨rfl, rfl⟩)) ⟨fun h => (by cases h), fun h => (by cases h)⟩ (fun h => by cases h) (by decide) (fun K C => bo_X8_takeFields C)

def bd_X8_takeLimit : XS := (s_seq (s_ite (b_or (b_cmp r_ne (e_fld 8 4 (e_al 0)) (e_lit 1)) (b_cmp r_lt (e_ald 0 (e_fld 8 3 (e_al 0)) (e_lit 0)) (e_lit 10))) (s_retZ (e_lit 0))
 s_skip)
 (s_seq (s_put 4 1 0 (e_fld 8 1 (e_al 0)) (e_ald 0 (e_fld 8 3 (e_al 0)) (e_lit 0)))
 (s_retZ (e_lit 1))))
def m_X8_takeLimit : XF := xM 8 0 1 false bd_X8_takeLimit
theorem rc_X8_takeLimit : xRecv m_X8_takeLimit 8 0 := xM_recv
set_option maxRecDepth 100000 in
set_option maxHeartbeats 4000000 in
theorem bo_X8_takeLimit {K : XK} (C : xOK K RX8 cX8_takeLimit false true 0 0) : CS K 0 bd_X8_takeLimit 36 0 0 :=
 (cs_seq (p1 := 21) (cs_itf (pT := 19) (pF := 21) (cc_or (pM := 8) (cc_neJ (p1 := 4) (p2 := 5) C (ce_fld C (ce_aln C dX8_takeLimit_0 rfl) dX8_takeLimit_1 fX8_45) (ce_iconst C dX8_takeLimit_4 (by decide)) dX8_takeLimit_5 (by decide) rfl) (cc_ltN (p1 := 14) (p2 := 16) C (ce_iald (p1 := 12) (p2 := 13) C (ce_fld C (ce_aln C dX8_takeLimit_8 rfl) dX8_takeLimit_9 fX8_22) (ce_iconst C dX8_takeLimit_12 (by decide)) dX8_takeLimit_13) (ce_bipush C dX8_takeLimit_14 (by decide)) dX8_takeLimit_16 (by decide) rfl)) (cs_retZ (p1 := 20) C (ce_iconst C dX8_takeLimit_19 (by decide)) dX8_takeLimit_20)
 cs_skip)
 (cs_seq (p1 := 34) (cs_put (p1 := 25) (p2 := 31) C (ce_fld C (ce_aln C dX8_takeLimit_21 rfl) dX8_takeLimit_22 fX8_12) (ce_iald (p1 := 29) (p2 := 30) C (ce_fld C (ce_aln C dX8_takeLimit_25 rfl) dX8_takeLimit_26 fX8_22) (ce_iconst C dX8_takeLimit_29 (by decide)) dX8_takeLimit_30) dX8_takeLimit_31 pX8_65_false)
 (cs_retZ (p1 := 35) C (ce_iconst C dX8_takeLimit_34 (by decide)) dX8_takeLimit_35)))
theorem good_X8_takeLimit : xGood yX8_takeLimit cX8_takeLimit 1 (some .boolean) 0 0 m_X8_takeLimit :=
  x_methI (ini := false) (bz := true) (Or.inr (Or.inl ⟨rfl, rfl⟩)) ⟨fun h => (by cases h), fun h => (by cases h)⟩ (fun h => by cases h) (by decide) (fun K C => bo_X8_takeLimit C)

def bd_X8_takeItem : XS := (s_seq (s_ite (b_cmp r_eq (e_il 1) (e_lit 102)) (s_retZ (e_call m_X8_takeFields [(e_al 0)]))
 s_skip)
 (s_seq (s_put 8 5 1 (e_al 0) (e_lit 1))
 (s_sw (e_il 1) [(115, (s_retZ (e_tern (b_and (b_cmp r_eq (e_fld 8 4 (e_al 0)) (e_lit 3)) (b_cmp0 r_ne0 (e_call m_X4_addStile [(e_fld 8 1 (e_al 0)), (e_ald 0 (e_fld 8 3 (e_al 0)) (e_lit 0)), (e_ald 0 (e_fld 8 3 (e_al 0)) (e_lit 1)), (e_ald 0 (e_fld 8 3 (e_al 0)) (e_lit 2))]))) (e_lit 1) (e_lit 0)))),
 (119, (s_retZ (e_tern (b_and (b_cmp r_eq (e_fld 8 4 (e_al 0)) (e_lit 3)) (b_cmp0 r_ne0 (e_call m_X4_addWalker [(e_fld 8 1 (e_al 0)), (e_ald 0 (e_fld 8 3 (e_al 0)) (e_lit 0)), (e_ald 0 (e_fld 8 3 (e_al 0)) (e_lit 1)), (e_ald 0 (e_fld 8 3 (e_al 0)) (e_lit 2))]))) (e_lit 1) (e_lit 0)))),
 (108, (s_retZ (e_call m_X8_takeLimit [(e_al 0)])))]
 (s_retZ (e_lit 0)))))
def m_X8_takeItem : XF := xM 8 1 2 false bd_X8_takeItem
theorem rc_X8_takeItem : xRecv m_X8_takeItem 8 1 := xM_recv
set_option maxRecDepth 100000 in
set_option maxHeartbeats 4000000 in
theorem bo_X8_takeItem {K : XK} (C : xOK K RX8 cX8_takeItem false true 2 44) : CS K 0 bd_X8_takeItem 143 0 0 :=
 (cs_seq (p1 := 11) (cs_itf (pT := 6) (pF := 11) (cc_eqN (p1 := 1) (p2 := 3) C (ce_iln C dX8_takeItem_0 rfl) (ce_bipush C dX8_takeItem_1 (by decide)) dX8_takeItem_3 (by decide) rfl) (cs_retZ (p1 := 10) C (ce_call (p1 := 7) (ca_cons (p1 := 7) (ce_aln C dX8_takeItem_6 rfl) ca_nil) (xCal_V (ci := 8) C dX8_takeItem_7 wX8_takeFields vX8_48 rfl rfl good_X8_takeFields rc_X8_takeFields (by decide) (by decide)) (by decide)) dX8_takeItem_10)
 cs_skip)
 (cs_seq (p1 := 16) (cs_put (p1 := 12) (p2 := 13) C (ce_aln C dX8_takeItem_11 rfl) (ce_iconst C dX8_takeItem_12 (by decide)) dX8_takeItem_13 pX8_33_false)
 (cs_lookup (p1 := 17) (ts := [52, 94, 136]) (td := 141) C (ce_iln C dX8_takeItem_16 rfl) dX8_takeItem_17 (by decide +kernel) (x_lk_X8_takeItem) ⟨(cs_retZ (p1 := 93) C (ce_tern (pT := 88) (pF := 92) (p1 := 89) C (cc_and (pM := 60) (cc_eqN (p1 := 56) (p2 := 57) C (ce_fld C (ce_aln C dX8_takeItem_52 rfl) dX8_takeItem_53 fX8_45) (ce_iconst C dX8_takeItem_56 (by decide)) dX8_takeItem_57 (by decide) rfl) (cc_ne0N (p1 := 85) C (ce_call (p1 := 82) (ca_cons (p1 := 64) (ce_fld C (ce_aln C dX8_takeItem_60 rfl) dX8_takeItem_61 fX8_12) (ca_cons (p1 := 70) (ce_iald (p1 := 68) (p2 := 69) C (ce_fld C (ce_aln C dX8_takeItem_64 rfl) dX8_takeItem_65 fX8_22) (ce_iconst C dX8_takeItem_68 (by decide)) dX8_takeItem_69) (ca_cons (p1 := 76) (ce_iald (p1 := 74) (p2 := 75) C (ce_fld C (ce_aln C dX8_takeItem_70 rfl) dX8_takeItem_71 fX8_22) (ce_iconst C dX8_takeItem_74 (by decide)) dX8_takeItem_75) (ca_cons (p1 := 82) (ce_iald (p1 := 80) (p2 := 81) C (ce_fld C (ce_aln C dX8_takeItem_76 rfl) dX8_takeItem_77 fX8_22) (ce_iconst C dX8_takeItem_80 (by decide)) dX8_takeItem_81) ca_nil)))) (xCal_V (ci := 4) C dX8_takeItem_82 wX4_addStile vX8_52 rfl rfl good_X4_addStile rc_X4_addStile (by decide) (by decide)) (by decide)) dX8_takeItem_85 (by decide) rfl)) (ce_iconst C dX8_takeItem_88 (by decide)) dX8_takeItem_89 (by decide) (ce_iconst C dX8_takeItem_92 (by decide))) dX8_takeItem_93),
 (cs_retZ (p1 := 135) C (ce_tern (pT := 130) (pF := 134) (p1 := 131) C (cc_and (pM := 102) (cc_eqN (p1 := 98) (p2 := 99) C (ce_fld C (ce_aln C dX8_takeItem_94 rfl) dX8_takeItem_95 fX8_45) (ce_iconst C dX8_takeItem_98 (by decide)) dX8_takeItem_99 (by decide) rfl) (cc_ne0N (p1 := 127) C (ce_call (p1 := 124) (ca_cons (p1 := 106) (ce_fld C (ce_aln C dX8_takeItem_102 rfl) dX8_takeItem_103 fX8_12) (ca_cons (p1 := 112) (ce_iald (p1 := 110) (p2 := 111) C (ce_fld C (ce_aln C dX8_takeItem_106 rfl) dX8_takeItem_107 fX8_22) (ce_iconst C dX8_takeItem_110 (by decide)) dX8_takeItem_111) (ca_cons (p1 := 118) (ce_iald (p1 := 116) (p2 := 117) C (ce_fld C (ce_aln C dX8_takeItem_112 rfl) dX8_takeItem_113 fX8_22) (ce_iconst C dX8_takeItem_116 (by decide)) dX8_takeItem_117) (ca_cons (p1 := 124) (ce_iald (p1 := 122) (p2 := 123) C (ce_fld C (ce_aln C dX8_takeItem_118 rfl) dX8_takeItem_119 fX8_22) (ce_iconst C dX8_takeItem_122 (by decide)) dX8_takeItem_123) ca_nil)))) (xCal_V (ci := 4) C dX8_takeItem_124 wX4_addWalker vX8_56 rfl rfl good_X4_addWalker rc_X4_addWalker (by decide) (by decide)) (by decide)) dX8_takeItem_127 (by decide) rfl)) (ce_iconst C dX8_takeItem_130 (by decide)) dX8_takeItem_131 (by decide) (ce_iconst C dX8_takeItem_134 (by decide))) dX8_takeItem_135),
 (cs_retZ (p1 := 140) C (ce_call (p1 := 137) (ca_cons (p1 := 137) (ce_aln C dX8_takeItem_136 rfl) ca_nil) (xCal_V (ci := 8) C dX8_takeItem_137 wX8_takeLimit vX8_59 rfl rfl good_X8_takeLimit rc_X8_takeLimit (by decide) (by decide)) (by decide)) dX8_takeItem_140), trivial⟩
 (cs_retZ (p1 := 142) C (ce_iconst C dX8_takeItem_141 (by decide)) dX8_takeItem_142))))
theorem good_X8_takeItem : xGood yX8_takeItem cX8_takeItem 2 (some .boolean) 2 44 m_X8_takeItem :=
  x_methI (ini := false) (bz := true) (Or.inr (Or.inl ⟨rfl, rfl⟩)) ⟨fun h => (by cases h), fun h => (by cases h)⟩ (fun h => by cases h) (by decide) (fun K C => bo_X8_takeItem C)

def lc_X8_firstFault_1 : XB := (b_cmp r_lt (e_il 1) (e_fld 8 0 (e_al 0)))
def la_X8_firstFault_1 : XS := (s_seq (s_iasg 2 (e_call m_X8_readNumbers [(e_al 0), (e_il 1)]))
 (s_seq (s_ite (b_or (b_cmp r_le (e_il 2) (e_il 1)) (b_not (b_cmp0 r_ne0 (e_call m_X8_takeItem [(e_al 0), (e_ald 1 (e_fld 8 2 (e_al 0)) (e_il 1))])))) (s_ret (e_il 1))
 s_skip)
 (s_iasg 1 (e_il 2))))
def lu_X8_firstFault_1 : XS := s_skip
def bd_X8_firstFault : XS := (s_seq (s_call m_X4_clear [(e_fld 8 1 (e_al 0))])
 (s_seq (s_put 8 5 1 (e_al 0) (e_lit 0))
 (s_seq (s_iasg 1 (e_lit 0))
 (s_seq (s_loop 1000 (lc_X8_firstFault_1) (la_X8_firstFault_1) (lu_X8_firstFault_1))
 (s_ret (e_lit (-4)))))))
def m_X8_firstFault : XF := xM 8 0 3 false bd_X8_firstFault
theorem rc_X8_firstFault : xRecv m_X8_firstFault 8 0 := xM_recv
set_option maxRecDepth 100000 in
set_option maxHeartbeats 4000000 in
theorem bo_X8_firstFault {K : XK} (C : xOK K RX8 cX8_firstFault false false 3 65) : CS K 0 bd_X8_firstFault 56 0 0 :=
 (cs_seq (p1 := 7) (cs_call (p1 := 4) (ca_cons (p1 := 4) (ce_fld C (ce_aln C dX8_firstFault_0 rfl) dX8_firstFault_1 fX8_12) ca_nil) (xCal_V (ci := 4) C dX8_firstFault_4 wX4_clear vX8_30 rfl rfl good_X4_clear rc_X4_clear (by decide) (by decide)))
 (cs_seq (p1 := 12) (cs_put (p1 := 8) (p2 := 9) C (ce_aln C dX8_firstFault_7 rfl) (ce_iconst C dX8_firstFault_8 (by decide)) dX8_firstFault_9 pX8_33_false)
 (cs_seq (p1 := 14) (cs_iasgn (p1 := 13) C (ce_iconst C dX8_firstFault_12 (by decide)) dX8_firstFault_13 rfl)
 (cs_seq (p1 := 53) (cs_loop (pB := 22) (pE := 53) (pu := 50) (p2 := 50) C (cc_ltN (p1 := 15) (p2 := 19) C (ce_iln C dX8_firstFault_14 rfl) (ce_fld C (ce_aln C dX8_firstFault_15 rfl) dX8_firstFault_16 fX8_26) dX8_firstFault_19 (by decide) rfl)
 (cs_seq (p1 := 28) (cs_iasgn (p1 := 27) C (ce_call (p1 := 24) (ca_cons (p1 := 23) (ce_aln C dX8_firstFault_22 rfl) (ca_cons (p1 := 24) (ce_iln C dX8_firstFault_23 rfl) ca_nil)) (xCal_V (ci := 8) C dX8_firstFault_24 wX8_readNumbers vX8_37 rfl rfl good_X8_readNumbers rc_X8_readNumbers (by decide) (by decide)) (by decide)) dX8_firstFault_27 rfl)
 (cs_seq (p1 := 48) (cs_itf (pT := 46) (pF := 48) (cc_or (pM := 33) (cc_leJ (p1 := 29) (p2 := 30) C (ce_iln C dX8_firstFault_28 rfl) (ce_iln C dX8_firstFault_29 rfl) dX8_firstFault_30 (by decide) rfl) (cc_not (cc_ne0J (p1 := 43) C (ce_call (p1 := 40) (ca_cons (p1 := 34) (ce_aln C dX8_firstFault_33 rfl) (ca_cons (p1 := 40) (ce_cald (p1 := 38) (p2 := 39) C (ce_fld C (ce_aln C dX8_firstFault_34 rfl) dX8_firstFault_35 fX8_18) (ce_iln C dX8_firstFault_38 rfl) dX8_firstFault_39) ca_nil)) (xCal_V (ci := 8) C dX8_firstFault_40 wX8_takeItem vX8_41 rfl rfl good_X8_takeItem rc_X8_takeItem (by decide) (by decide)) (by decide)) dX8_firstFault_43 (by decide) rfl))) (cs_ret (p1 := 47) C (ce_iln C dX8_firstFault_46 rfl) dX8_firstFault_47)
 cs_skip)
 (cs_iasgn (p1 := 49) C (ce_iln C dX8_firstFault_48 rfl) dX8_firstFault_49 rfl)))
 cs_skip dX8_firstFault_50 (by decide))
 (cs_ret (p1 := 55) C (ce_bipush C dX8_firstFault_53 (by decide)) dX8_firstFault_55)))))
theorem good_X8_firstFault : xGood yX8_firstFault cX8_firstFault 3 (some .int) 3 65 m_X8_firstFault :=
  x_methI (ini := false) (bz := false) (Or.inl ⟨rfl, rfl⟩) ⟨fun h => (by cases h), fun h => (by cases h)⟩ (fun h => by cases h) (by decide) (fun K C => bo_X8_firstFault C)

def bd_X8_init : XS := (s_seq s_oinit
 (s_seq (s_put 8 1 2 (e_al 0) (e_new 4 m_X4_init []))
 (s_seq (s_put 8 2 2 (e_al 0) (e_newa 1 (e_lit 200)))
 (s_seq (s_put 8 3 2 (e_al 0) (e_newa 0 (e_lit 3)))
 s_retV))))
def m_X8_init : XF := xM 8 0 1 true bd_X8_init
theorem rc_X8_init : xRecv m_X8_init 8 0 := xM_recv
set_option maxRecDepth 100000 in
set_option maxHeartbeats 4000000 in
theorem bo_X8_init {K : XK} (C : xOK K RX8 cX8_init true false 2 32) : CS K 0 bd_X8_init 32 0 0 :=
 (cs_seq (p1 := 4) (cs_oinit C dX8_init_0 dX8_init_1 oiX8_3 xW_oi1 xW_oi2 (by decide) (by decide))
 (cs_seq (p1 := 15) (cs_put (p1 := 5) (p2 := 12) C (ce_aln C dX8_init_4 rfl) (ce_new (p1 := 9) C dX8_init_5 nX8_9 dX8_init_8 ca_nil (xCal_I (ci := 4) C dX8_init_9 wX4_init vX8_11 good_X4_init rc_X4_init (by decide) (by decide)) (by decide)) dX8_init_12 pX8_12_true)
 (cs_seq (p1 := 24) (cs_put (p1 := 16) (p2 := 21) C (ce_aln C dX8_init_15 rfl) (ce_newc C (ce_sipush C dX8_init_16 (by decide)) dX8_init_19 xW_arrc) dX8_init_21 pX8_18_true)
 (cs_seq (p1 := 31) (cs_put (p1 := 25) (p2 := 28) C (ce_aln C dX8_init_24 rfl) (ce_newi C (ce_iconst C dX8_init_25 (by decide)) dX8_init_26 xW_arri) dX8_init_28 pX8_22_true)
 (cs_retV C dX8_init_31)))))
theorem good_X8_init : xGood yX8_init cX8_init 1 none 2 32 m_X8_init :=
  x_methI (ini := true) (bz := false) (Or.inr (Or.inr rfl)) ⟨fun _ => rfl, fun _ => rfl⟩ (fun _ => rfl) (by decide) (fun K C => bo_X8_init C)

def bd_X5_add : XS := (s_seq (s_ite (b_cmp r_ge (e_fld 5 0 (e_al 0)) (e_lit 6)) (s_retZ (e_lit 0))
 s_skip)
 (s_seq (s_ast 0 (e_fld 5 1 (e_al 0)) (e_fld 5 0 (e_al 0)) (e_il 1))
 (s_seq (s_ast 0 (e_fld 5 2 (e_al 0)) (e_fld 5 0 (e_al 0)) (e_il 2))
 (s_seq (s_putop 5 0 o_add (e_al 0) (e_lit 1))
 (s_retZ (e_lit 1))))))
def m_X5_add : XF := xM 5 2 3 false bd_X5_add
theorem rc_X5_add : xRecv m_X5_add 5 2 := xM_recv
set_option maxRecDepth 100000 in
set_option maxHeartbeats 4000000 in
theorem bo_X5_add {K : XK} (C : xOK K RX5 cX5_add false true 0 0) : CS K 0 bd_X5_add 43 0 0 :=
 (cs_seq (p1 := 11) (cs_itf (pT := 9) (pF := 11) (cc_geN (p1 := 4) (p2 := 6) C (ce_fld C (ce_aln C dX5_add_0 rfl) dX5_add_1 fX5_18) (ce_bipush C dX5_add_4 (by decide)) dX5_add_6 (by decide) rfl) (cs_retZ (p1 := 10) C (ce_iconst C dX5_add_9 (by decide)) dX5_add_10)
 cs_skip)
 (cs_seq (p1 := 21) (cs_iast (p1 := 15) (p2 := 19) (p3 := 20) C (ce_fld C (ce_aln C dX5_add_11 rfl) dX5_add_12 fX5_9) (ce_fld C (ce_aln C dX5_add_15 rfl) dX5_add_16 fX5_18) (ce_iln C dX5_add_19 rfl) dX5_add_20)
 (cs_seq (p1 := 31) (cs_iast (p1 := 25) (p2 := 29) (p3 := 30) C (ce_fld C (ce_aln C dX5_add_21 rfl) dX5_add_22 fX5_15) (ce_fld C (ce_aln C dX5_add_25 rfl) dX5_add_26 fX5_18) (ce_iln C dX5_add_29 rfl) dX5_add_30)
 (cs_seq (p1 := 41) (cs_putop (p1 := 32) (p2 := 37) C (ce_aln C dX5_add_31 rfl) dX5_add_32 dX5_add_33 fX5_18 (ce_iconst C dX5_add_36 (by decide)) (ob_add C dX5_add_37) dX5_add_38 pX5_18_false)
 (cs_retZ (p1 := 42) C (ce_iconst C dX5_add_41 (by decide)) dX5_add_42)))))
theorem good_X5_add : xGood yX5_add cX5_add 3 (some .boolean) 0 0 m_X5_add :=
  x_methI (ini := false) (bz := true) (Or.inr (Or.inl ⟨rfl, rfl⟩)) ⟨fun h => (by cases h), fun h => (by cases h)⟩ (fun h => by cases h) (by decide) (fun K C => bo_X5_add C)

def lc_X5_canBeOf_1 : XB := (b_cmp r_lt (e_il 4) (e_fld 5 0 (e_al 0)))
def la_X5_canBeOf_1 : XS := (s_ite (b_and (b_cmp r_eq (e_ald 0 (e_fld 5 1 (e_al 0)) (e_il 4)) (e_il 3)) (b_cmp r_eq (e_call m_X4_treadsToWear [(e_al 1), (e_il 2), (e_il 3), (e_ald 0 (e_fld 5 2 (e_al 0)) (e_il 4))]) (e_lit (-4)))) (s_retZ (e_lit 0))
 s_skip)
def lu_X5_canBeOf_1 : XS := (s_inc 4 1)
def bd_X5_canBeOf : XS := (s_seq (s_iasg 4 (e_lit 0))
 (s_seq (s_loop 1000 (lc_X5_canBeOf_1) (la_X5_canBeOf_1) (lu_X5_canBeOf_1))
 (s_retZ (e_lit 1))))
def m_X5_canBeOf : XF := xM 5 3 5 false bd_X5_canBeOf
theorem rc_X5_canBeOf : xRecv m_X5_canBeOf 5 3 := xM_recv
set_option maxRecDepth 100000 in
set_option maxHeartbeats 4000000 in
theorem bo_X5_canBeOf {K : XK} (C : xOK K RX5 cX5_canBeOf false true 2 48) : CS K 0 bd_X5_canBeOf 51 0 0 :=
 (cs_seq (p1 := 3) (cs_iasg (p1 := 1) C (ce_iconst C dX5_canBeOf_0 (by decide)) dX5_canBeOf_1)
 (cs_seq (p1 := 49) (cs_loop (pB := 12) (pE := 49) (pu := 43) (p2 := 46) C (cc_ltN (p1 := 5) (p2 := 9) C (ce_il C dX5_canBeOf_3) (ce_fld C (ce_aln C dX5_canBeOf_5 rfl) dX5_canBeOf_6 fX5_18) dX5_canBeOf_9 (by decide) rfl)
 (cs_itf (pT := 41) (pF := 43) (cc_and (pM := 23) (cc_eqN (p1 := 19) (p2 := 20) C (ce_iald (p1 := 16) (p2 := 18) C (ce_fld C (ce_aln C dX5_canBeOf_12 rfl) dX5_canBeOf_13 fX5_9) (ce_il C dX5_canBeOf_16) dX5_canBeOf_18) (ce_iln C dX5_canBeOf_19 rfl) dX5_canBeOf_20 (by decide) rfl) (cc_eqN (p1 := 36) (p2 := 38) C (ce_call (p1 := 33) (ca_cons (p1 := 24) (ce_aln C dX5_canBeOf_23 rfl) (ca_cons (p1 := 25) (ce_iln C dX5_canBeOf_24 rfl) (ca_cons (p1 := 26) (ce_iln C dX5_canBeOf_25 rfl) (ca_cons (p1 := 33) (ce_iald (p1 := 30) (p2 := 32) C (ce_fld C (ce_aln C dX5_canBeOf_26 rfl) dX5_canBeOf_27 fX5_15) (ce_il C dX5_canBeOf_30) dX5_canBeOf_32) ca_nil)))) (xCal_V (ci := 4) C dX5_canBeOf_33 wX4_treadsToWear vX5_22 rfl rfl good_X4_treadsToWear rc_X4_treadsToWear (by decide) (by decide)) (by decide)) (ce_bipush C dX5_canBeOf_36 (by decide)) dX5_canBeOf_38 (by decide) rfl)) (cs_retZ (p1 := 42) C (ce_iconst C dX5_canBeOf_41 (by decide)) dX5_canBeOf_42)
 cs_skip)
 (cs_inc C dX5_canBeOf_43 (by decide)) dX5_canBeOf_46 (by decide))
 (cs_retZ (p1 := 50) C (ce_iconst C dX5_canBeOf_49 (by decide)) dX5_canBeOf_50)))
theorem good_X5_canBeOf : xGood yX5_canBeOf cX5_canBeOf 5 (some .boolean) 2 48 m_X5_canBeOf :=
  x_methI (ini := false) (bz := true) (Or.inr (Or.inl ⟨rfl, rfl⟩)) ⟨fun h => (by cases h), fun h => (by cases h)⟩ (fun h => by cases h) (by decide) (fun K C => bo_X5_canBeOf C)

def bd_X5_init : XS := (s_seq s_oinit
 (s_seq (s_put 5 1 2 (e_al 0) (e_newa 0 (e_lit 6)))
 (s_seq (s_put 5 2 2 (e_al 0) (e_newa 0 (e_lit 6)))
 s_retV)))
def m_X5_init : XF := xM 5 0 1 true bd_X5_init
theorem rc_X5_init : xRecv m_X5_init 5 0 := xM_recv
set_option maxRecDepth 100000 in
set_option maxHeartbeats 4000000 in
theorem bo_X5_init {K : XK} (C : xOK K RX5 cX5_init true false 1 12) : CS K 0 bd_X5_init 21 0 0 :=
 (cs_seq (p1 := 4) (cs_oinit C dX5_init_0 dX5_init_1 oiX5_3 xW_oi1 xW_oi2 (by decide) (by decide))
 (cs_seq (p1 := 12) (cs_put (p1 := 5) (p2 := 9) C (ce_aln C dX5_init_4 rfl) (ce_newi C (ce_bipush C dX5_init_5 (by decide)) dX5_init_7 xW_arri) dX5_init_9 pX5_9_true)
 (cs_seq (p1 := 20) (cs_put (p1 := 13) (p2 := 17) C (ce_aln C dX5_init_12 rfl) (ce_newi C (ce_bipush C dX5_init_13 (by decide)) dX5_init_15 xW_arri) dX5_init_17 pX5_15_true)
 (cs_retV C dX5_init_20))))
theorem good_X5_init : xGood yX5_init cX5_init 1 none 1 12 m_X5_init :=
  x_methI (ini := true) (bz := false) (Or.inr (Or.inr rfl)) ⟨fun _ => rfl, fun _ => rfl⟩ (fun _ => rfl) (by decide) (fun K C => bo_X5_init C)

def bd_X7_isFull : XS := (s_retZ (e_tern (b_cmp r_ge (e_fld 7 0 (e_al 0)) (e_alen (e_fld 7 1 (e_al 0)))) (e_lit 1) (e_lit 0)))
def m_X7_isFull : XF := xM 7 0 1 false bd_X7_isFull
theorem rc_X7_isFull : xRecv m_X7_isFull 7 0 := xM_recv
set_option maxRecDepth 100000 in
set_option maxHeartbeats 4000000 in
theorem bo_X7_isFull {K : XK} (C : xOK K RX7 cX7_isFull false true 0 0) : CS K 0 bd_X7_isFull 18 0 0 :=
 (cs_retZ (p1 := 17) C (ce_tern (pT := 12) (pF := 16) (p1 := 13) C (cc_geN (p1 := 4) (p2 := 9) C (ce_fld C (ce_aln C dX7_isFull_0 rfl) dX7_isFull_1 fX7_24) (ce_alen C (ce_fld C (ce_aln C dX7_isFull_4 rfl) dX7_isFull_5 fX7_15) dX7_isFull_8) dX7_isFull_9 (by decide) rfl) (ce_iconst C dX7_isFull_12 (by decide)) dX7_isFull_13 (by decide) (ce_iconst C dX7_isFull_16 (by decide))) dX7_isFull_17)
theorem good_X7_isFull : xGood yX7_isFull cX7_isFull 1 (some .boolean) 0 0 m_X7_isFull :=
  x_methI (ini := false) (bz := true) (Or.inr (Or.inl ⟨rfl, rfl⟩)) ⟨fun h => (by cases h), fun h => (by cases h)⟩ (fun h => by cases h) (by decide) (fun K C => bo_X7_isFull C)

def lc_X7_loseOldest_1 : XB := (b_cmp r_lt (e_il 2) (e_alen (e_fld 7 1 (e_al 0))))
def la_X7_loseOldest_1 : XS := (s_aast (e_fld 7 1 (e_al 0)) (e_bin o_sub (e_il 2) (e_lit 1)) (e_aald (e_fld 7 1 (e_al 0)) (e_il 2)))
def lu_X7_loseOldest_1 : XS := (s_inc 2 1)
def bd_X7_loseOldest : XS := (s_seq (s_aasg 1 (e_aald (e_fld 7 1 (e_al 0)) (e_lit 0)))
 (s_seq (s_iasg 2 (e_lit 1))
 (s_seq (s_loop 1000 (lc_X7_loseOldest_1) (la_X7_loseOldest_1) (lu_X7_loseOldest_1))
 (s_seq (s_aast (e_fld 7 1 (e_al 0)) (e_bin o_sub (e_alen (e_fld 7 1 (e_al 0))) (e_lit 1)) (e_al 1))
 (s_seq (s_put 7 0 0 (e_al 0) (e_bin o_sub (e_alen (e_fld 7 1 (e_al 0))) (e_lit 1)))
 s_retV)))))
def m_X7_loseOldest : XF := xM 7 0 3 true bd_X7_loseOldest
theorem rc_X7_loseOldest : xRecv m_X7_loseOldest 7 0 := xM_recv
set_option maxRecDepth 100000 in
set_option maxHeartbeats 4000000 in
theorem bo_X7_loseOldest {K : XK} (C : xOK K RX7 cX7_loseOldest false false 0 0) : CS K 0 bd_X7_loseOldest 63 0 0 :=
 (cs_seq (p1 := 7) (cs_aasgn (p1 := 6) C (ce_aald (p1 := 4) (p2 := 5) C (ce_fld C (ce_aln C dX7_loseOldest_0 rfl) dX7_loseOldest_1 fX7_15) (ce_iconst C dX7_loseOldest_4 (by decide)) dX7_loseOldest_5) dX7_loseOldest_6 rfl)
 (cs_seq (p1 := 9) (cs_iasgn (p1 := 8) C (ce_iconst C dX7_loseOldest_7 (by decide)) dX7_loseOldest_8 rfl)
 (cs_seq (p1 := 38) (cs_loop (pB := 18) (pE := 38) (pu := 32) (p2 := 35) C (cc_ltN (p1 := 10) (p2 := 15) C (ce_iln C dX7_loseOldest_9 rfl) (ce_alen C (ce_fld C (ce_aln C dX7_loseOldest_10 rfl) dX7_loseOldest_11 fX7_15) dX7_loseOldest_14) dX7_loseOldest_15 (by decide) rfl)
 (cs_aast (p1 := 22) (p2 := 25) (p3 := 31) C (ce_fld C (ce_aln C dX7_loseOldest_18 rfl) dX7_loseOldest_19 fX7_15) (ce_bin (p1 := 23) (p2 := 24) (ce_iln C dX7_loseOldest_22 rfl) (ce_iconst C dX7_loseOldest_23 (by decide)) (ob_sub C dX7_loseOldest_24)) (ce_aald (p1 := 29) (p2 := 30) C (ce_fld C (ce_aln C dX7_loseOldest_25 rfl) dX7_loseOldest_26 fX7_15) (ce_iln C dX7_loseOldest_29 rfl) dX7_loseOldest_30) dX7_loseOldest_31)
 (cs_inc C dX7_loseOldest_32 (by decide)) dX7_loseOldest_35 (by decide))
 (cs_seq (p1 := 51) (cs_aast (p1 := 42) (p2 := 49) (p3 := 50) C (ce_fld C (ce_aln C dX7_loseOldest_38 rfl) dX7_loseOldest_39 fX7_15) (ce_bin (p1 := 47) (p2 := 48) (ce_alen C (ce_fld C (ce_aln C dX7_loseOldest_42 rfl) dX7_loseOldest_43 fX7_15) dX7_loseOldest_46) (ce_iconst C dX7_loseOldest_47 (by decide)) (ob_sub C dX7_loseOldest_48)) (ce_aln C dX7_loseOldest_49 rfl) dX7_loseOldest_50)
 (cs_seq (p1 := 62) (cs_put (p1 := 52) (p2 := 59) C (ce_aln C dX7_loseOldest_51 rfl) (ce_bin (p1 := 57) (p2 := 58) (ce_alen C (ce_fld C (ce_aln C dX7_loseOldest_52 rfl) dX7_loseOldest_53 fX7_15) dX7_loseOldest_56) (ce_iconst C dX7_loseOldest_57 (by decide)) (ob_sub C dX7_loseOldest_58)) dX7_loseOldest_59 pX7_24_false)
 (cs_retV C dX7_loseOldest_62))))))
theorem good_X7_loseOldest : xGood yX7_loseOldest cX7_loseOldest 3 none 0 0 m_X7_loseOldest :=
  x_methI (ini := false) (bz := false) (Or.inr (Or.inr rfl)) ⟨fun _ => rfl, fun _ => rfl⟩ (fun h => by cases h) (by decide) (fun K C => bo_X7_loseOldest C)

def bd_X7_push : XS := (s_seq (s_ite (b_cmp0 r_ne0 (e_call m_X7_isFull [(e_al 0)])) (s_call m_X7_loseOldest [(e_al 0)])
 s_skip)
 (s_seq (s_call m_X6_copyFrom [(e_aald (e_fld 7 1 (e_al 0)) (e_fld 7 0 (e_al 0))), (e_al 1)])
 (s_seq (s_putop 7 0 o_add (e_al 0) (e_lit 1))
 s_retV)))
def m_X7_push : XF := xM 7 1 2 true bd_X7_push
theorem rc_X7_push : xRecv m_X7_push 7 1 := xM_recv
set_option maxRecDepth 100000 in
set_option maxHeartbeats 4000000 in
theorem bo_X7_push {K : XK} (C : xOK K RX7 cX7_push false false 2 39) : CS K 0 bd_X7_push 35 0 0 :=
 (cs_seq (p1 := 11) (cs_itf (pT := 7) (pF := 11) (cc_ne0N (p1 := 4) C (ce_call (p1 := 1) (ca_cons (p1 := 1) (ce_aln C dX7_push_0 rfl) ca_nil) (xCal_V (ci := 7) C dX7_push_1 wX7_isFull vX7_28 rfl rfl good_X7_isFull rc_X7_isFull (by decide) (by decide)) (by decide)) dX7_push_4 (by decide) rfl) (cs_call (p1 := 8) (ca_cons (p1 := 8) (ce_aln C dX7_push_7 rfl) ca_nil) (xCal_V (ci := 7) C dX7_push_8 wX7_loseOldest vX7_32 rfl rfl good_X7_loseOldest rc_X7_loseOldest (by decide) (by decide)))
 cs_skip)
 (cs_seq (p1 := 24) (cs_call (p1 := 21) (ca_cons (p1 := 20) (ce_aald (p1 := 15) (p2 := 19) C (ce_fld C (ce_aln C dX7_push_11 rfl) dX7_push_12 fX7_15) (ce_fld C (ce_aln C dX7_push_15 rfl) dX7_push_16 fX7_24) dX7_push_19) (ca_cons (p1 := 21) (ce_aln C dX7_push_20 rfl) ca_nil)) (xCal_V (ci := 6) C dX7_push_21 wX6_copyFrom vX7_35 rfl rfl good_X6_copyFrom rc_X6_copyFrom (by decide) (by decide)))
 (cs_seq (p1 := 34) (cs_putop (p1 := 25) (p2 := 30) C (ce_aln C dX7_push_24 rfl) dX7_push_25 dX7_push_26 fX7_24 (ce_iconst C dX7_push_29 (by decide)) (ob_add C dX7_push_30) dX7_push_31 pX7_24_false)
 (cs_retV C dX7_push_34))))
theorem good_X7_push : xGood yX7_push cX7_push 2 none 2 39 m_X7_push :=
  x_methI (ini := false) (bz := false) (Or.inr (Or.inr rfl)) ⟨fun _ => rfl, fun _ => rfl⟩ (fun h => by cases h) (by decide) (fun K C => bo_X7_push C)

def bd_X7_popInto : XS := (s_seq (s_ite (b_cmp r_lt (e_fld 7 0 (e_al 0)) (e_lit 1)) (s_retZ (e_lit 0))
 s_skip)
 (s_seq (s_putop 7 0 o_sub (e_al 0) (e_lit 1))
 (s_seq (s_call m_X6_copyFrom [(e_al 1), (e_aald (e_fld 7 1 (e_al 0)) (e_fld 7 0 (e_al 0)))])
 (s_retZ (e_lit 1)))))
def m_X7_popInto : XF := xM 7 1 2 false bd_X7_popInto
theorem rc_X7_popInto : xRecv m_X7_popInto 7 1 := xM_recv
set_option maxRecDepth 100000 in
set_option maxHeartbeats 4000000 in
theorem bo_X7_popInto {K : XK} (C : xOK K RX7 cX7_popInto false true 2 39) : CS K 0 bd_X7_popInto 35 0 0 :=
 (cs_seq (p1 := 10) (cs_itf (pT := 8) (pF := 10) (cc_ltN (p1 := 4) (p2 := 5) C (ce_fld C (ce_aln C dX7_popInto_0 rfl) dX7_popInto_1 fX7_24) (ce_iconst C dX7_popInto_4 (by decide)) dX7_popInto_5 (by decide) rfl) (cs_retZ (p1 := 9) C (ce_iconst C dX7_popInto_8 (by decide)) dX7_popInto_9)
 cs_skip)
 (cs_seq (p1 := 20) (cs_putop (p1 := 11) (p2 := 16) C (ce_aln C dX7_popInto_10 rfl) dX7_popInto_11 dX7_popInto_12 fX7_24 (ce_iconst C dX7_popInto_15 (by decide)) (ob_sub C dX7_popInto_16) dX7_popInto_17 pX7_24_false)
 (cs_seq (p1 := 33) (cs_call (p1 := 30) (ca_cons (p1 := 21) (ce_aln C dX7_popInto_20 rfl) (ca_cons (p1 := 30) (ce_aald (p1 := 25) (p2 := 29) C (ce_fld C (ce_aln C dX7_popInto_21 rfl) dX7_popInto_22 fX7_15) (ce_fld C (ce_aln C dX7_popInto_25 rfl) dX7_popInto_26 fX7_24) dX7_popInto_29) ca_nil)) (xCal_V (ci := 6) C dX7_popInto_30 wX6_copyFrom vX7_35 rfl rfl good_X6_copyFrom rc_X6_copyFrom (by decide) (by decide)))
 (cs_retZ (p1 := 34) C (ce_iconst C dX7_popInto_33 (by decide)) dX7_popInto_34))))
theorem good_X7_popInto : xGood yX7_popInto cX7_popInto 2 (some .boolean) 2 39 m_X7_popInto :=
  x_methI (ini := false) (bz := true) (Or.inr (Or.inl ⟨rfl, rfl⟩)) ⟨fun h => (by cases h), fun h => (by cases h)⟩ (fun h => by cases h) (by decide) (fun K C => bo_X7_popInto C)

def lc_X7_init_1 : XB := (b_cmp r_lt (e_il 4) (e_il 3))
def la_X7_init_1 : XS := (s_aast (e_fld 7 1 (e_al 0)) (e_il 4) (e_new 6 m_X6_init [(e_al 2)]))
def lu_X7_init_1 : XS := (s_inc 4 1)
def bd_X7_init : XS := (s_seq s_oinit
 (s_seq (s_iasg 3 (e_call m_max [(e_il 1), (e_lit 1)]))
 (s_seq (s_put 7 1 2 (e_al 0) (e_newr (e_il 3)))
 (s_seq (s_iasg 4 (e_lit 0))
 (s_seq (s_loop 1000 (lc_X7_init_1) (la_X7_init_1) (lu_X7_init_1))
 s_retV)))))
def m_X7_init : XF := xM 7 2 5 true bd_X7_init
theorem rc_X7_init : xRecv m_X7_init 7 2 := xM_recv
set_option maxRecDepth 100000 in
set_option maxHeartbeats 4000000 in
theorem bo_X7_init {K : XK} (C : xOK K RX7 cX7_init true false 2 33) : CS K 0 bd_X7_init 49 0 0 :=
 (cs_seq (p1 := 4) (cs_oinit C dX7_init_0 dX7_init_1 oiX7_1 xW_oi1 xW_oi2 (by decide) (by decide))
 (cs_seq (p1 := 10) (cs_iasgn (p1 := 9) C (ce_call (p1 := 6) (ca_cons (p1 := 5) (ce_iln C dX7_init_4 rfl) (ca_cons (p1 := 6) (ce_iconst C dX7_init_5 (by decide)) ca_nil)) (xCal_max C dX7_init_6 maX7_7 (by decide) (by decide)) (by decide)) dX7_init_9 rfl)
 (cs_seq (p1 := 18) (cs_put (p1 := 11) (p2 := 15) C (ce_aln C dX7_init_10 rfl) (ce_newr C (ce_iln C dX7_init_11 rfl) dX7_init_12 naX7_13) dX7_init_15 pX7_15_true)
 (cs_seq (p1 := 21) (cs_iasg (p1 := 19) C (ce_iconst C dX7_init_18 (by decide)) dX7_init_19)
 (cs_seq (p1 := 48) (cs_loop (pB := 27) (pE := 48) (pu := 42) (p2 := 45) C (cc_ltN (p1 := 23) (p2 := 24) C (ce_il C dX7_init_21) (ce_iln C dX7_init_23 rfl) dX7_init_24 (by decide) rfl)
 (cs_aast (p1 := 31) (p2 := 33) (p3 := 41) C (ce_fld C (ce_aln C dX7_init_27 rfl) dX7_init_28 fX7_15) (ce_il C dX7_init_31) (ce_new (p1 := 38) C dX7_init_33 nX7_13 dX7_init_36 (ca_cons (p1 := 38) (ce_aln C dX7_init_37 rfl) ca_nil) (xCal_I (ci := 6) C dX7_init_38 wX6_init vX7_21 good_X6_init rc_X6_init (by decide) (by decide)) (by decide)) dX7_init_41)
 (cs_inc C dX7_init_42 (by decide)) dX7_init_45 (by decide))
 (cs_retV C dX7_init_48))))))
theorem good_X7_init : xGood yX7_init cX7_init 5 none 2 33 m_X7_init :=
  x_methI (ini := true) (bz := false) (Or.inr (Or.inr rfl)) ⟨fun _ => rfl, fun _ => rfl⟩ (fun _ => rfl) (by decide) (fun K C => bo_X7_init C)

def bd_X0_join : XS := (s_seq (s_ast 0 (e_fld 0 1 (e_al 0)) (e_bin o_add (e_bin o_mul (e_il 1) (e_lit 8)) (e_il 2)) (e_lit 1))
 (s_seq (s_ast 0 (e_fld 0 1 (e_al 0)) (e_bin o_add (e_bin o_mul (e_il 2) (e_lit 8)) (e_il 1)) (e_lit 1))
 s_retV))
def m_X0_join : XF := xM 0 2 3 true bd_X0_join
theorem rc_X0_join : xRecv m_X0_join 0 2 := xM_recv
set_option maxRecDepth 100000 in
set_option maxHeartbeats 4000000 in
theorem bo_X0_join {K : XK} (C : xOK K RX0 cX0_join false false 0 0) : CS K 0 bd_X0_join 25 0 0 :=
 (cs_seq (p1 := 12) (cs_iast (p1 := 4) (p2 := 10) (p3 := 11) C (ce_fld C (ce_aln C dX0_join_0 rfl) dX0_join_1 fX0_9) (ce_bin (p1 := 8) (p2 := 9) (ce_bin (p1 := 5) (p2 := 7) (ce_iln C dX0_join_4 rfl) (ce_bipush C dX0_join_5 (by decide)) (ob_mul C dX0_join_7)) (ce_iln C dX0_join_8 rfl) (ob_add C dX0_join_9)) (ce_iconst C dX0_join_10 (by decide)) dX0_join_11)
 (cs_seq (p1 := 24) (cs_iast (p1 := 16) (p2 := 22) (p3 := 23) C (ce_fld C (ce_aln C dX0_join_12 rfl) dX0_join_13 fX0_9) (ce_bin (p1 := 20) (p2 := 21) (ce_bin (p1 := 17) (p2 := 19) (ce_iln C dX0_join_16 rfl) (ce_bipush C dX0_join_17 (by decide)) (ob_mul C dX0_join_19)) (ce_iln C dX0_join_20 rfl) (ob_add C dX0_join_21)) (ce_iconst C dX0_join_22 (by decide)) dX0_join_23)
 (cs_retV C dX0_join_24)))
theorem good_X0_join : xGood yX0_join cX0_join 3 none 0 0 m_X0_join :=
  x_methI (ini := false) (bz := false) (Or.inr (Or.inr rfl)) ⟨fun _ => rfl, fun _ => rfl⟩ (fun h => by cases h) (by decide) (fun K C => bo_X0_join C)

def bd_X0_between : XS := (s_ret (e_ald 0 (e_fld 0 1 (e_al 0)) (e_bin o_add (e_bin o_mul (e_il 1) (e_lit 8)) (e_il 2))))
def m_X0_between : XF := xM 0 2 3 false bd_X0_between
theorem rc_X0_between : xRecv m_X0_between 0 2 := xM_recv
set_option maxRecDepth 100000 in
set_option maxHeartbeats 4000000 in
theorem bo_X0_between {K : XK} (C : xOK K RX0 cX0_between false false 0 0) : CS K 0 bd_X0_between 12 0 0 :=
 (cs_ret (p1 := 11) C (ce_iald (p1 := 4) (p2 := 10) C (ce_fld C (ce_aln C dX0_between_0 rfl) dX0_between_1 fX0_9) (ce_bin (p1 := 8) (p2 := 9) (ce_bin (p1 := 5) (p2 := 7) (ce_iln C dX0_between_4 rfl) (ce_bipush C dX0_between_5 (by decide)) (ob_mul C dX0_between_7)) (ce_iln C dX0_between_8 rfl) (ob_add C dX0_between_9)) dX0_between_10) dX0_between_11)
theorem good_X0_between : xGood yX0_between cX0_between 3 (some .int) 0 0 m_X0_between :=
  x_methI (ini := false) (bz := false) (Or.inl ⟨rfl, rfl⟩) ⟨fun h => (by cases h), fun h => (by cases h)⟩ (fun h => by cases h) (by decide) (fun K C => bo_X0_between C)

def lc_X0_shortenBy_1 : XB := (b_cmp r_lt (e_il 3) (e_fld 0 0 (e_al 0)))
def la_X0_shortenBy_1 : XS := (s_seq (s_iasg 4 (e_bin o_add (e_call m_X0_between [(e_al 0), (e_il 2), (e_il 1)]) (e_call m_X0_between [(e_al 0), (e_il 1), (e_il 3)])))
 (s_ast 0 (e_fld 0 1 (e_al 0)) (e_bin o_add (e_bin o_mul (e_il 2) (e_lit 8)) (e_il 3)) (e_call m_min [(e_call m_X0_between [(e_al 0), (e_il 2), (e_il 3)]), (e_il 4)])))
def lu_X0_shortenBy_1 : XS := (s_inc 3 1)
def lc_X0_shortenBy_2 : XB := (b_cmp r_lt (e_il 2) (e_fld 0 0 (e_al 0)))
def la_X0_shortenBy_2 : XS := (s_seq (s_iasg 3 (e_lit 0))
 (s_loop 1000 (lc_X0_shortenBy_1) (la_X0_shortenBy_1) (lu_X0_shortenBy_1)))
def lu_X0_shortenBy_2 : XS := (s_inc 2 1)
def bd_X0_shortenBy : XS := (s_seq (s_iasg 2 (e_lit 0))
 (s_seq (s_loop 1000 (lc_X0_shortenBy_2) (la_X0_shortenBy_2) (lu_X0_shortenBy_2))
 s_retV))
def m_X0_shortenBy : XF := xM 0 1 5 true bd_X0_shortenBy
theorem rc_X0_shortenBy : xRecv m_X0_shortenBy 0 1 := xM_recv
set_option maxRecDepth 100000 in
set_option maxHeartbeats 4000000 in
theorem bo_X0_shortenBy {K : XK} (C : xOK K RX0 cX0_shortenBy false false 1 22) : CS K 0 bd_X0_shortenBy 70 0 0 :=
 (cs_seq (p1 := 2) (cs_iasgn (p1 := 1) C (ce_iconst C dX0_shortenBy_0 (by decide)) dX0_shortenBy_1 rfl)
 (cs_seq (p1 := 69) (cs_loop (pB := 10) (pE := 69) (pu := 63) (p2 := 66) C (cc_ltN (p1 := 3) (p2 := 7) C (ce_iln C dX0_shortenBy_2 rfl) (ce_fld C (ce_aln C dX0_shortenBy_3 rfl) dX0_shortenBy_4 fX0_27) dX0_shortenBy_7 (by decide) rfl)
 (cs_seq (p1 := 12) (cs_iasgn (p1 := 11) C (ce_iconst C dX0_shortenBy_10 (by decide)) dX0_shortenBy_11 rfl)
 (cs_loop (pB := 20) (pE := 63) (pu := 57) (p2 := 60) C (cc_ltN (p1 := 13) (p2 := 17) C (ce_iln C dX0_shortenBy_12 rfl) (ce_fld C (ce_aln C dX0_shortenBy_13 rfl) dX0_shortenBy_14 fX0_27) dX0_shortenBy_17 (by decide) rfl)
 (cs_seq (p1 := 35) (cs_iasg (p1 := 33) C (ce_bin (p1 := 26) (p2 := 32) (ce_call (p1 := 23) (ca_cons (p1 := 21) (ce_aln C dX0_shortenBy_20 rfl) (ca_cons (p1 := 22) (ce_iln C dX0_shortenBy_21 rfl) (ca_cons (p1 := 23) (ce_iln C dX0_shortenBy_22 rfl) ca_nil))) (xCal_V (ci := 0) C dX0_shortenBy_23 wX0_between vX0_49 rfl rfl good_X0_between rc_X0_between (by decide) (by decide)) (by decide)) (ce_call (p1 := 29) (ca_cons (p1 := 27) (ce_aln C dX0_shortenBy_26 rfl) (ca_cons (p1 := 28) (ce_iln C dX0_shortenBy_27 rfl) (ca_cons (p1 := 29) (ce_iln C dX0_shortenBy_28 rfl) ca_nil))) (xCal_V (ci := 0) C dX0_shortenBy_29 wX0_between vX0_49 rfl rfl good_X0_between rc_X0_between (by decide) (by decide)) (by decide)) (ob_add C dX0_shortenBy_32)) dX0_shortenBy_33)
 (cs_iast (p1 := 39) (p2 := 45) (p3 := 56) C (ce_fld C (ce_aln C dX0_shortenBy_35 rfl) dX0_shortenBy_36 fX0_9) (ce_bin (p1 := 43) (p2 := 44) (ce_bin (p1 := 40) (p2 := 42) (ce_iln C dX0_shortenBy_39 rfl) (ce_bipush C dX0_shortenBy_40 (by decide)) (ob_mul C dX0_shortenBy_42)) (ce_iln C dX0_shortenBy_43 rfl) (ob_add C dX0_shortenBy_44)) (ce_call (p1 := 53) (ca_cons (p1 := 51) (ce_call (p1 := 48) (ca_cons (p1 := 46) (ce_aln C dX0_shortenBy_45 rfl) (ca_cons (p1 := 47) (ce_iln C dX0_shortenBy_46 rfl) (ca_cons (p1 := 48) (ce_iln C dX0_shortenBy_47 rfl) ca_nil))) (xCal_V (ci := 0) C dX0_shortenBy_48 wX0_between vX0_49 rfl rfl good_X0_between rc_X0_between (by decide) (by decide)) (by decide)) (ca_cons (p1 := 53) (ce_il C dX0_shortenBy_51) ca_nil)) (xCal_min C dX0_shortenBy_53 maX0_53 (by decide) (by decide)) (by decide)) dX0_shortenBy_56))
 (cs_inc C dX0_shortenBy_57 (by decide)) dX0_shortenBy_60 (by decide)))
 (cs_inc C dX0_shortenBy_63 (by decide)) dX0_shortenBy_66 (by decide))
 (cs_retV C dX0_shortenBy_69)))
theorem good_X0_shortenBy : xGood yX0_shortenBy cX0_shortenBy 5 none 1 22 m_X0_shortenBy :=
  x_methI (ini := false) (bz := false) (Or.inr (Or.inr rfl)) ⟨fun _ => rfl, fun _ => rfl⟩ (fun h => by cases h) (by decide) (fun K C => bo_X0_shortenBy C)

def lc_X0_take_1 : XB := (b_cmp r_lt (e_il 3) (e_fld 0 0 (e_al 0)))
def la_X0_take_1 : XS := (s_ast 0 (e_fld 0 1 (e_al 0)) (e_bin o_add (e_bin o_mul (e_il 2) (e_lit 8)) (e_il 3)) (e_tern (b_cmp r_eq (e_il 2) (e_il 3)) (e_lit 0) (e_lit 20)))
def lu_X0_take_1 : XS := (s_inc 3 1)
def lc_X0_take_2 : XB := (b_cmp r_lt (e_il 2) (e_fld 0 0 (e_al 0)))
def la_X0_take_2 : XS := (s_seq (s_iasg 3 (e_lit 0))
 (s_loop 1000 (lc_X0_take_1) (la_X0_take_1) (lu_X0_take_1)))
def lu_X0_take_2 : XS := (s_inc 2 1)
def lc_X0_take_3 : XB := (b_cmp r_lt (e_il 2) (e_fld 4 2 (e_fld 6 6 (e_al 1))))
def la_X0_take_3 : XS := (s_ite (b_not (b_cmp0 r_ne0 (e_call m_X6_isBroken [(e_al 1), (e_il 2)]))) (s_call m_X0_join [(e_al 0), (e_ald 0 (e_fld 4 5 (e_fld 6 6 (e_al 1))) (e_il 2)), (e_ald 0 (e_fld 4 6 (e_fld 6 6 (e_al 1))) (e_il 2))])
 s_skip)
def lu_X0_take_3 : XS := (s_inc 2 1)
def lc_X0_take_4 : XB := (b_cmp r_lt (e_il 2) (e_fld 0 0 (e_al 0)))
def la_X0_take_4 : XS := (s_call m_X0_shortenBy [(e_al 0), (e_il 2)])
def lu_X0_take_4 : XS := (s_inc 2 1)
def bd_X0_take : XS := (s_seq (s_put 0 0 0 (e_al 0) (e_fld 4 0 (e_fld 6 6 (e_al 1))))
 (s_seq (s_iasg 2 (e_lit 0))
 (s_seq (s_loop 1000 (lc_X0_take_2) (la_X0_take_2) (lu_X0_take_2))
 (s_seq (s_iasg 2 (e_lit 0))
 (s_seq (s_loop 1000 (lc_X0_take_3) (la_X0_take_3) (lu_X0_take_3))
 (s_seq (s_iasg 2 (e_lit 0))
 (s_seq (s_loop 1000 (lc_X0_take_4) (la_X0_take_4) (lu_X0_take_4))
 s_retV)))))))
def m_X0_take : XF := xM 0 1 4 true bd_X0_take
theorem rc_X0_take : xRecv m_X0_take 0 1 := xM_recv
set_option maxRecDepth 100000 in
set_option maxHeartbeats 4000000 in
theorem bo_X0_take {K : XK} (C : xOK K RX0 cX0_take false false 2 46) : CS K 0 bd_X0_take 136 0 0 :=
 (cs_seq (p1 := 11) (cs_put (p1 := 1) (p2 := 8) C (ce_aln C dX0_take_0 rfl) (ce_fld C (ce_fld C (ce_aln C dX0_take_1 rfl) dX0_take_2 fX0_15) dX0_take_5 fX0_21) dX0_take_8 pX0_27_false)
 (cs_seq (p1 := 13) (cs_iasgn (p1 := 12) C (ce_iconst C dX0_take_11 (by decide)) dX0_take_12 rfl)
 (cs_seq (p1 := 65) (cs_loop (pB := 21) (pE := 65) (pu := 59) (p2 := 62) C (cc_ltN (p1 := 14) (p2 := 18) C (ce_iln C dX0_take_13 rfl) (ce_fld C (ce_aln C dX0_take_14 rfl) dX0_take_15 fX0_27) dX0_take_18 (by decide) rfl)
 (cs_seq (p1 := 23) (cs_iasgn (p1 := 22) C (ce_iconst C dX0_take_21 (by decide)) dX0_take_22 rfl)
 (cs_loop (pB := 31) (pE := 59) (pu := 53) (p2 := 56) C (cc_ltN (p1 := 24) (p2 := 28) C (ce_iln C dX0_take_23 rfl) (ce_fld C (ce_aln C dX0_take_24 rfl) dX0_take_25 fX0_27) dX0_take_28 (by decide) rfl)
 (cs_iast (p1 := 35) (p2 := 41) (p3 := 52) C (ce_fld C (ce_aln C dX0_take_31 rfl) dX0_take_32 fX0_9) (ce_bin (p1 := 39) (p2 := 40) (ce_bin (p1 := 36) (p2 := 38) (ce_iln C dX0_take_35 rfl) (ce_bipush C dX0_take_36 (by decide)) (ob_mul C dX0_take_38)) (ce_iln C dX0_take_39 rfl) (ob_add C dX0_take_40)) (ce_tern (pT := 46) (pF := 50) (p1 := 47) C (cc_eqN (p1 := 42) (p2 := 43) C (ce_iln C dX0_take_41 rfl) (ce_iln C dX0_take_42 rfl) dX0_take_43 (by decide) rfl) (ce_iconst C dX0_take_46 (by decide)) dX0_take_47 (by decide) (ce_bipush C dX0_take_50 (by decide))) dX0_take_52)
 (cs_inc C dX0_take_53 (by decide)) dX0_take_56 (by decide)))
 (cs_inc C dX0_take_59 (by decide)) dX0_take_62 (by decide))
 (cs_seq (p1 := 67) (cs_iasgn (p1 := 66) C (ce_iconst C dX0_take_65 (by decide)) dX0_take_66 rfl)
 (cs_seq (p1 := 114) (cs_loop (pB := 78) (pE := 114) (pu := 108) (p2 := 111) C (cc_ltN (p1 := 68) (p2 := 75) C (ce_iln C dX0_take_67 rfl) (ce_fld C (ce_fld C (ce_aln C dX0_take_68 rfl) dX0_take_69 fX0_15) dX0_take_72 fX0_28) dX0_take_75 (by decide) rfl)
 (cs_itf (pT := 86) (pF := 108) (cc_not (cc_ne0J (p1 := 83) C (ce_call (p1 := 80) (ca_cons (p1 := 79) (ce_aln C dX0_take_78 rfl) (ca_cons (p1 := 80) (ce_iln C dX0_take_79 rfl) ca_nil)) (xCal_V (ci := 6) C dX0_take_80 wX6_isBroken vX0_31 rfl rfl good_X6_isBroken rc_X6_isBroken (by decide) (by decide)) (by decide)) dX0_take_83 (by decide) rfl)) (cs_call (p1 := 105) (ca_cons (p1 := 87) (ce_aln C dX0_take_86 rfl) (ca_cons (p1 := 96) (ce_iald (p1 := 94) (p2 := 95) C (ce_fld C (ce_fld C (ce_aln C dX0_take_87 rfl) dX0_take_88 fX0_15) dX0_take_91 fX0_35) (ce_iln C dX0_take_94 rfl) dX0_take_95) (ca_cons (p1 := 105) (ce_iald (p1 := 103) (p2 := 104) C (ce_fld C (ce_fld C (ce_aln C dX0_take_96 rfl) dX0_take_97 fX0_15) dX0_take_100 fX0_38) (ce_iln C dX0_take_103 rfl) dX0_take_104) ca_nil))) (xCal_V (ci := 0) C dX0_take_105 wX0_join vX0_41 rfl rfl good_X0_join rc_X0_join (by decide) (by decide)))
 cs_skip)
 (cs_inc C dX0_take_108 (by decide)) dX0_take_111 (by decide))
 (cs_seq (p1 := 116) (cs_iasgn (p1 := 115) C (ce_iconst C dX0_take_114 (by decide)) dX0_take_115 rfl)
 (cs_seq (p1 := 135) (cs_loop (pB := 124) (pE := 135) (pu := 129) (p2 := 132) C (cc_ltN (p1 := 117) (p2 := 121) C (ce_iln C dX0_take_116 rfl) (ce_fld C (ce_aln C dX0_take_117 rfl) dX0_take_118 fX0_27) dX0_take_121 (by decide) rfl)
 (cs_call (p1 := 126) (ca_cons (p1 := 125) (ce_aln C dX0_take_124 rfl) (ca_cons (p1 := 126) (ce_iln C dX0_take_125 rfl) ca_nil)) (xCal_V (ci := 0) C dX0_take_126 wX0_shortenBy vX0_45 rfl rfl good_X0_shortenBy rc_X0_shortenBy (by decide) (by decide)))
 (cs_inc C dX0_take_129 (by decide)) dX0_take_132 (by decide))
 (cs_retV C dX0_take_135))))))))
theorem good_X0_take : xGood yX0_take cX0_take 4 none 2 46 m_X0_take :=
  x_methI (ini := false) (bz := false) (Or.inr (Or.inr rfl)) ⟨fun _ => rfl, fun _ => rfl⟩ (fun h => by cases h) (by decide) (fun K C => bo_X0_take C)

def lc_X0_sum_1 : XB := (b_cmp r_lt (e_il 3) (e_fld 0 0 (e_al 0)))
def la_X0_sum_1 : XS := (s_iasg 1 (e_bin o_add (e_il 1) (e_call m_X0_between [(e_al 0), (e_il 2), (e_il 3)])))
def lu_X0_sum_1 : XS := (s_inc 3 1)
def lc_X0_sum_2 : XB := (b_cmp r_lt (e_il 2) (e_fld 0 0 (e_al 0)))
def la_X0_sum_2 : XS := (s_seq (s_iasg 3 (e_bin o_add (e_il 2) (e_lit 1)))
 (s_loop 1000 (lc_X0_sum_1) (la_X0_sum_1) (lu_X0_sum_1)))
def lu_X0_sum_2 : XS := (s_inc 2 1)
def bd_X0_sum : XS := (s_seq (s_iasg 1 (e_lit 0))
 (s_seq (s_iasg 2 (e_lit 0))
 (s_seq (s_loop 1000 (lc_X0_sum_2) (la_X0_sum_2) (lu_X0_sum_2))
 (s_ret (e_il 1)))))
def m_X0_sum : XF := xM 0 0 4 false bd_X0_sum
theorem rc_X0_sum : xRecv m_X0_sum 0 0 := xM_recv
set_option maxRecDepth 100000 in
set_option maxHeartbeats 4000000 in
theorem bo_X0_sum {K : XK} (C : xOK K RX0 cX0_sum false false 1 22) : CS K 0 bd_X0_sum 47 0 0 :=
 (cs_seq (p1 := 2) (cs_iasgn (p1 := 1) C (ce_iconst C dX0_sum_0 (by decide)) dX0_sum_1 rfl)
 (cs_seq (p1 := 4) (cs_iasgn (p1 := 3) C (ce_iconst C dX0_sum_2 (by decide)) dX0_sum_3 rfl)
 (cs_seq (p1 := 45) (cs_loop (pB := 12) (pE := 45) (pu := 39) (p2 := 42) C (cc_ltN (p1 := 5) (p2 := 9) C (ce_iln C dX0_sum_4 rfl) (ce_fld C (ce_aln C dX0_sum_5 rfl) dX0_sum_6 fX0_27) dX0_sum_9 (by decide) rfl)
 (cs_seq (p1 := 16) (cs_iasgn (p1 := 15) C (ce_bin (p1 := 13) (p2 := 14) (ce_iln C dX0_sum_12 rfl) (ce_iconst C dX0_sum_13 (by decide)) (ob_add C dX0_sum_14)) dX0_sum_15 rfl)
 (cs_loop (pB := 24) (pE := 39) (pu := 33) (p2 := 36) C (cc_ltN (p1 := 17) (p2 := 21) C (ce_iln C dX0_sum_16 rfl) (ce_fld C (ce_aln C dX0_sum_17 rfl) dX0_sum_18 fX0_27) dX0_sum_21 (by decide) rfl)
 (cs_iasgn (p1 := 32) C (ce_bin (p1 := 25) (p2 := 31) (ce_iln C dX0_sum_24 rfl) (ce_call (p1 := 28) (ca_cons (p1 := 26) (ce_aln C dX0_sum_25 rfl) (ca_cons (p1 := 27) (ce_iln C dX0_sum_26 rfl) (ca_cons (p1 := 28) (ce_iln C dX0_sum_27 rfl) ca_nil))) (xCal_V (ci := 0) C dX0_sum_28 wX0_between vX0_49 rfl rfl good_X0_between rc_X0_between (by decide) (by decide)) (by decide)) (ob_add C dX0_sum_31)) dX0_sum_32 rfl)
 (cs_inc C dX0_sum_33 (by decide)) dX0_sum_36 (by decide)))
 (cs_inc C dX0_sum_39 (by decide)) dX0_sum_42 (by decide))
 (cs_ret (p1 := 46) C (ce_iln C dX0_sum_45 rfl) dX0_sum_46))))
theorem good_X0_sum : xGood yX0_sum cX0_sum 4 (some .int) 1 22 m_X0_sum :=
  x_methI (ini := false) (bz := false) (Or.inl ⟨rfl, rfl⟩) ⟨fun h => (by cases h), fun h => (by cases h)⟩ (fun h => by cases h) (by decide) (fun K C => bo_X0_sum C)

def lc_X0_sumWith_1 : XB := (b_cmp r_lt (e_il 5) (e_fld 0 0 (e_al 0)))
def la_X0_sumWith_1 : XS := (s_seq (s_iasg 6 (e_bin o_add (e_call m_min [(e_bin o_add (e_call m_X0_between [(e_al 0), (e_il 4), (e_il 1)]) (e_call m_X0_between [(e_al 0), (e_il 2), (e_il 5)])), (e_bin o_add (e_call m_X0_between [(e_al 0), (e_il 4), (e_il 2)]) (e_call m_X0_between [(e_al 0), (e_il 1), (e_il 5)]))]) (e_lit 1)))
 (s_iasg 3 (e_bin o_add (e_il 3) (e_call m_min [(e_call m_X0_between [(e_al 0), (e_il 4), (e_il 5)]), (e_il 6)]))))
def lu_X0_sumWith_1 : XS := (s_inc 5 1)
def lc_X0_sumWith_2 : XB := (b_cmp r_lt (e_il 4) (e_fld 0 0 (e_al 0)))
def la_X0_sumWith_2 : XS := (s_seq (s_iasg 5 (e_bin o_add (e_il 4) (e_lit 1)))
 (s_loop 1000 (lc_X0_sumWith_1) (la_X0_sumWith_1) (lu_X0_sumWith_1)))
def lu_X0_sumWith_2 : XS := (s_inc 4 1)
def bd_X0_sumWith : XS := (s_seq (s_iasg 3 (e_lit 0))
 (s_seq (s_iasg 4 (e_lit 0))
 (s_seq (s_loop 1000 (lc_X0_sumWith_2) (la_X0_sumWith_2) (lu_X0_sumWith_2))
 (s_ret (e_il 3)))))
def m_X0_sumWith : XF := xM 0 2 7 false bd_X0_sumWith
theorem rc_X0_sumWith : xRecv m_X0_sumWith 0 2 := xM_recv
set_option maxRecDepth 100000 in
set_option maxHeartbeats 4000000 in
theorem bo_X0_sumWith {K : XK} (C : xOK K RX0 cX0_sumWith false false 1 22) : CS K 0 bd_X0_sumWith 96 0 0 :=
 (cs_seq (p1 := 2) (cs_iasgn (p1 := 1) C (ce_iconst C dX0_sumWith_0 (by decide)) dX0_sumWith_1 rfl)
 (cs_seq (p1 := 5) (cs_iasg (p1 := 3) C (ce_iconst C dX0_sumWith_2 (by decide)) dX0_sumWith_3)
 (cs_seq (p1 := 94) (cs_loop (pB := 14) (pE := 94) (pu := 88) (p2 := 91) C (cc_ltN (p1 := 7) (p2 := 11) C (ce_il C dX0_sumWith_5) (ce_fld C (ce_aln C dX0_sumWith_7 rfl) dX0_sumWith_8 fX0_27) dX0_sumWith_11 (by decide) rfl)
 (cs_seq (p1 := 20) (cs_iasg (p1 := 18) C (ce_bin (p1 := 16) (p2 := 17) (ce_il C dX0_sumWith_14) (ce_iconst C dX0_sumWith_16 (by decide)) (ob_add C dX0_sumWith_17)) dX0_sumWith_18)
 (cs_loop (pB := 29) (pE := 88) (pu := 82) (p2 := 85) C (cc_ltN (p1 := 22) (p2 := 26) C (ce_il C dX0_sumWith_20) (ce_fld C (ce_aln C dX0_sumWith_22 rfl) dX0_sumWith_23 fX0_27) dX0_sumWith_26 (by decide) rfl)
 (cs_seq (p1 := 66) (cs_iasg (p1 := 64) C (ce_bin (p1 := 62) (p2 := 63) (ce_call (p1 := 59) (ca_cons (p1 := 44) (ce_bin (p1 := 36) (p2 := 43) (ce_call (p1 := 33) (ca_cons (p1 := 30) (ce_aln C dX0_sumWith_29 rfl) (ca_cons (p1 := 32) (ce_il C dX0_sumWith_30) (ca_cons (p1 := 33) (ce_iln C dX0_sumWith_32 rfl) ca_nil))) (xCal_V (ci := 0) C dX0_sumWith_33 wX0_between vX0_49 rfl rfl good_X0_between rc_X0_between (by decide) (by decide)) (by decide)) (ce_call (p1 := 40) (ca_cons (p1 := 37) (ce_aln C dX0_sumWith_36 rfl) (ca_cons (p1 := 38) (ce_iln C dX0_sumWith_37 rfl) (ca_cons (p1 := 40) (ce_il C dX0_sumWith_38) ca_nil))) (xCal_V (ci := 0) C dX0_sumWith_40 wX0_between vX0_49 rfl rfl good_X0_between rc_X0_between (by decide) (by decide)) (by decide)) (ob_add C dX0_sumWith_43)) (ca_cons (p1 := 59) (ce_bin (p1 := 51) (p2 := 58) (ce_call (p1 := 48) (ca_cons (p1 := 45) (ce_aln C dX0_sumWith_44 rfl) (ca_cons (p1 := 47) (ce_il C dX0_sumWith_45) (ca_cons (p1 := 48) (ce_iln C dX0_sumWith_47 rfl) ca_nil))) (xCal_V (ci := 0) C dX0_sumWith_48 wX0_between vX0_49 rfl rfl good_X0_between rc_X0_between (by decide) (by decide)) (by decide)) (ce_call (p1 := 55) (ca_cons (p1 := 52) (ce_aln C dX0_sumWith_51 rfl) (ca_cons (p1 := 53) (ce_iln C dX0_sumWith_52 rfl) (ca_cons (p1 := 55) (ce_il C dX0_sumWith_53) ca_nil))) (xCal_V (ci := 0) C dX0_sumWith_55 wX0_between vX0_49 rfl rfl good_X0_between rc_X0_between (by decide) (by decide)) (by decide)) (ob_add C dX0_sumWith_58)) ca_nil)) (xCal_min C dX0_sumWith_59 maX0_53 (by decide) (by decide)) (by decide)) (ce_iconst C dX0_sumWith_62 (by decide)) (ob_add C dX0_sumWith_63)) dX0_sumWith_64)
 (cs_iasgn (p1 := 81) C (ce_bin (p1 := 67) (p2 := 80) (ce_iln C dX0_sumWith_66 rfl) (ce_call (p1 := 77) (ca_cons (p1 := 75) (ce_call (p1 := 72) (ca_cons (p1 := 68) (ce_aln C dX0_sumWith_67 rfl) (ca_cons (p1 := 70) (ce_il C dX0_sumWith_68) (ca_cons (p1 := 72) (ce_il C dX0_sumWith_70) ca_nil))) (xCal_V (ci := 0) C dX0_sumWith_72 wX0_between vX0_49 rfl rfl good_X0_between rc_X0_between (by decide) (by decide)) (by decide)) (ca_cons (p1 := 77) (ce_il C dX0_sumWith_75) ca_nil)) (xCal_min C dX0_sumWith_77 maX0_53 (by decide) (by decide)) (by decide)) (ob_add C dX0_sumWith_80)) dX0_sumWith_81 rfl))
 (cs_inc C dX0_sumWith_82 (by decide)) dX0_sumWith_85 (by decide)))
 (cs_inc C dX0_sumWith_88 (by decide)) dX0_sumWith_91 (by decide))
 (cs_ret (p1 := 95) C (ce_iln C dX0_sumWith_94 rfl) dX0_sumWith_95))))
theorem good_X0_sumWith : xGood yX0_sumWith cX0_sumWith 7 (some .int) 1 22 m_X0_sumWith :=
  x_methI (ini := false) (bz := false) (Or.inl ⟨rfl, rfl⟩) ⟨fun h => (by cases h), fun h => (by cases h)⟩ (fun h => by cases h) (by decide) (fun K C => bo_X0_sumWith C)

def bd_X0_init : XS := (s_seq s_oinit
 (s_seq (s_put 0 1 2 (e_al 0) (e_newa 0 (e_lit 64)))
 s_retV))
def m_X0_init : XF := xM 0 0 1 true bd_X0_init
theorem rc_X0_init : xRecv m_X0_init 0 0 := xM_recv
set_option maxRecDepth 100000 in
set_option maxHeartbeats 4000000 in
theorem bo_X0_init {K : XK} (C : xOK K RX0 cX0_init true false 1 12) : CS K 0 bd_X0_init 13 0 0 :=
 (cs_seq (p1 := 4) (cs_oinit C dX0_init_0 dX0_init_1 oiX0_3 xW_oi1 xW_oi2 (by decide) (by decide))
 (cs_seq (p1 := 12) (cs_put (p1 := 5) (p2 := 9) C (ce_aln C dX0_init_4 rfl) (ce_newi C (ce_bipush C dX0_init_5 (by decide)) dX0_init_7 xW_arri) dX0_init_9 pX0_9_true)
 (cs_retV C dX0_init_12)))
theorem good_X0_init : xGood yX0_init cX0_init 1 none 1 12 m_X0_init :=
  x_methI (ini := true) (bz := false) (Or.inr (Or.inr rfl)) ⟨fun _ => rfl, fun _ => rfl⟩ (fun _ => rfl) (by decide) (fun K C => bo_X0_init C)

def lc_X2_takeLeaves_1 : XB := (b_cmp r_lt (e_il 3) (e_lit 8))
def la_X2_takeLeaves_1 : XS := (s_ast 0 (e_fld 2 0 (e_al 0)) (e_il 3) (e_lit 0))
def lu_X2_takeLeaves_1 : XS := (s_inc 3 1)
def lc_X2_takeLeaves_2 : XB := (b_cmp r_lt (e_il 3) (e_fld 4 2 (e_fld 6 6 (e_al 1))))
def la_X2_takeLeaves_2 : XS := (s_seq (s_iasg 4 (e_call m_X6_accountOf [(e_al 1), (e_il 2), (e_il 3)]))
 (s_seq (s_astop o_add (e_fld 2 0 (e_al 0)) (e_ald 0 (e_fld 4 6 (e_fld 6 6 (e_al 1))) (e_il 3)) (e_il 4))
 (s_astop o_sub (e_fld 2 0 (e_al 0)) (e_ald 0 (e_fld 4 5 (e_fld 6 6 (e_al 1))) (e_il 3)) (e_il 4))))
def lu_X2_takeLeaves_2 : XS := (s_inc 3 1)
def bd_X2_takeLeaves : XS := (s_seq (s_iasg 3 (e_lit 0))
 (s_seq (s_loop 1000 (lc_X2_takeLeaves_1) (la_X2_takeLeaves_1) (lu_X2_takeLeaves_1))
 (s_seq (s_iasg 3 (e_lit 0))
 (s_seq (s_loop 1000 (lc_X2_takeLeaves_2) (la_X2_takeLeaves_2) (lu_X2_takeLeaves_2))
 s_retV))))
def m_X2_takeLeaves : XF := xM 2 2 5 true bd_X2_takeLeaves
theorem rc_X2_takeLeaves : xRecv m_X2_takeLeaves 2 2 := xM_recv
set_option maxRecDepth 100000 in
set_option maxHeartbeats 4000000 in
theorem bo_X2_takeLeaves {K : XK} (C : xOK K RX2 cX2_takeLeaves false false 1 22) : CS K 0 bd_X2_takeLeaves 87 0 0 :=
 (cs_seq (p1 := 2) (cs_iasgn (p1 := 1) C (ce_iconst C dX2_takeLeaves_0 (by decide)) dX2_takeLeaves_1 rfl)
 (cs_seq (p1 := 21) (cs_loop (pB := 8) (pE := 21) (pu := 15) (p2 := 18) C (cc_ltN (p1 := 3) (p2 := 5) C (ce_iln C dX2_takeLeaves_2 rfl) (ce_bipush C dX2_takeLeaves_3 (by decide)) dX2_takeLeaves_5 (by decide) rfl)
 (cs_iast (p1 := 12) (p2 := 13) (p3 := 14) C (ce_fld C (ce_aln C dX2_takeLeaves_8 rfl) dX2_takeLeaves_9 fX2_9) (ce_iln C dX2_takeLeaves_12 rfl) (ce_iconst C dX2_takeLeaves_13 (by decide)) dX2_takeLeaves_14)
 (cs_inc C dX2_takeLeaves_15 (by decide)) dX2_takeLeaves_18 (by decide))
 (cs_seq (p1 := 23) (cs_iasgn (p1 := 22) C (ce_iconst C dX2_takeLeaves_21 (by decide)) dX2_takeLeaves_22 rfl)
 (cs_seq (p1 := 86) (cs_loop (pB := 34) (pE := 86) (pu := 80) (p2 := 83) C (cc_ltN (p1 := 24) (p2 := 31) C (ce_iln C dX2_takeLeaves_23 rfl) (ce_fld C (ce_fld C (ce_aln C dX2_takeLeaves_24 rfl) dX2_takeLeaves_25 fX2_28) dX2_takeLeaves_28 fX2_50) dX2_takeLeaves_31 (by decide) rfl)
 (cs_seq (p1 := 42) (cs_iasg (p1 := 40) C (ce_call (p1 := 37) (ca_cons (p1 := 35) (ce_aln C dX2_takeLeaves_34 rfl) (ca_cons (p1 := 36) (ce_iln C dX2_takeLeaves_35 rfl) (ca_cons (p1 := 37) (ce_iln C dX2_takeLeaves_36 rfl) ca_nil))) (xCal_V (ci := 6) C dX2_takeLeaves_37 wX6_accountOf vX2_53 rfl rfl good_X6_accountOf rc_X6_accountOf (by decide) (by decide)) (by decide)) dX2_takeLeaves_40)
 (cs_seq (p1 := 61) (cs_astop (p1 := 46) (p2 := 55) (p3 := 59) C (ce_fld C (ce_aln C dX2_takeLeaves_42 rfl) dX2_takeLeaves_43 fX2_9) (ce_iald (p1 := 53) (p2 := 54) C (ce_fld C (ce_fld C (ce_aln C dX2_takeLeaves_46 rfl) dX2_takeLeaves_47 fX2_28) dX2_takeLeaves_50 fX2_62) (ce_iln C dX2_takeLeaves_53 rfl) dX2_takeLeaves_54) dX2_takeLeaves_55 dX2_takeLeaves_56 (ce_il C dX2_takeLeaves_57) (ob_add C dX2_takeLeaves_59) dX2_takeLeaves_60)
 (cs_astop (p1 := 65) (p2 := 74) (p3 := 78) C (ce_fld C (ce_aln C dX2_takeLeaves_61 rfl) dX2_takeLeaves_62 fX2_9) (ce_iald (p1 := 72) (p2 := 73) C (ce_fld C (ce_fld C (ce_aln C dX2_takeLeaves_65 rfl) dX2_takeLeaves_66 fX2_28) dX2_takeLeaves_69 fX2_65) (ce_iln C dX2_takeLeaves_72 rfl) dX2_takeLeaves_73) dX2_takeLeaves_74 dX2_takeLeaves_75 (ce_il C dX2_takeLeaves_76) (ob_sub C dX2_takeLeaves_78) dX2_takeLeaves_79)))
 (cs_inc C dX2_takeLeaves_80 (by decide)) dX2_takeLeaves_83 (by decide))
 (cs_retV C dX2_takeLeaves_86)))))
theorem good_X2_takeLeaves : xGood yX2_takeLeaves cX2_takeLeaves 5 none 1 22 m_X2_takeLeaves :=
  x_methI (ini := false) (bz := false) (Or.inr (Or.inr rfl)) ⟨fun _ => rfl, fun _ => rfl⟩ (fun h => by cases h) (by decide) (fun K C => bo_X2_takeLeaves C)

def lc_X2_isOneWalkFrom_1 : XB := (b_cmp r_lt (e_il 4) (e_il 2))
def la_X2_isOneWalkFrom_1 : XS := (s_seq (s_ite (b_cmp r_eq (e_il 4) (e_il 1)) s_cont
 s_skip)
 (s_seq (s_ite (b_cmp0 r_gt0 (e_ald 0 (e_fld 2 0 (e_al 0)) (e_il 4))) (s_retZ (e_lit 0))
 s_skip)
 (s_iasg 3 (e_bin o_sub (e_il 3) (e_ald 0 (e_fld 2 0 (e_al 0)) (e_il 4))))))
def lu_X2_isOneWalkFrom_1 : XS := (s_inc 4 1)
def bd_X2_isOneWalkFrom : XS := (s_seq (s_iasg 3 (e_lit 0))
 (s_seq (s_iasg 4 (e_lit 0))
 (s_seq (s_loop 1000 (lc_X2_isOneWalkFrom_1) (la_X2_isOneWalkFrom_1) (lu_X2_isOneWalkFrom_1))
 (s_retZ (e_tern (b_cmp r_le (e_il 3) (e_lit 1)) (e_lit 1) (e_lit 0))))))
def m_X2_isOneWalkFrom : XF := xM 2 2 5 false bd_X2_isOneWalkFrom
theorem rc_X2_isOneWalkFrom : xRecv m_X2_isOneWalkFrom 2 2 := xM_recv
set_option maxRecDepth 100000 in
set_option maxHeartbeats 4000000 in
theorem bo_X2_isOneWalkFrom {K : XK} (C : xOK K RX2 cX2_isOneWalkFrom false true 0 0) : CS K 0 bd_X2_isOneWalkFrom 59 0 0 :=
 (cs_seq (p1 := 2) (cs_iasgn (p1 := 1) C (ce_iconst C dX2_isOneWalkFrom_0 (by decide)) dX2_isOneWalkFrom_1 rfl)
 (cs_seq (p1 := 5) (cs_iasg (p1 := 3) C (ce_iconst C dX2_isOneWalkFrom_2 (by decide)) dX2_isOneWalkFrom_3)
 (cs_seq (p1 := 48) (cs_loop (pB := 11) (pE := 48) (pu := 42) (p2 := 45) C (cc_ltN (p1 := 7) (p2 := 8) C (ce_il C dX2_isOneWalkFrom_5) (ce_iln C dX2_isOneWalkFrom_7 rfl) dX2_isOneWalkFrom_8 (by decide) rfl)
 (cs_seq (p1 := 20) (cs_itf (pT := 17) (pF := 20) (cc_eqN (p1 := 13) (p2 := 14) C (ce_il C dX2_isOneWalkFrom_11) (ce_iln C dX2_isOneWalkFrom_13 rfl) dX2_isOneWalkFrom_14 (by decide) rfl) (cs_cont C dX2_isOneWalkFrom_17 (by decide))
 cs_skip)
 (cs_seq (p1 := 32) (cs_itf (pT := 30) (pF := 32) (cc_gt0N (p1 := 27) C (ce_iald (p1 := 24) (p2 := 26) C (ce_fld C (ce_aln C dX2_isOneWalkFrom_20 rfl) dX2_isOneWalkFrom_21 fX2_9) (ce_il C dX2_isOneWalkFrom_24) dX2_isOneWalkFrom_26) dX2_isOneWalkFrom_27 (by decide) rfl) (cs_retZ (p1 := 31) C (ce_iconst C dX2_isOneWalkFrom_30 (by decide)) dX2_isOneWalkFrom_31)
 cs_skip)
 (cs_iasgn (p1 := 41) C (ce_bin (p1 := 33) (p2 := 40) (ce_iln C dX2_isOneWalkFrom_32 rfl) (ce_iald (p1 := 37) (p2 := 39) C (ce_fld C (ce_aln C dX2_isOneWalkFrom_33 rfl) dX2_isOneWalkFrom_34 fX2_9) (ce_il C dX2_isOneWalkFrom_37) dX2_isOneWalkFrom_39) (ob_sub C dX2_isOneWalkFrom_40)) dX2_isOneWalkFrom_41 rfl)))
 (cs_inc C dX2_isOneWalkFrom_42 (by decide)) dX2_isOneWalkFrom_45 (by decide))
 (cs_retZ (p1 := 58) C (ce_tern (pT := 53) (pF := 57) (p1 := 54) C (cc_leN (p1 := 49) (p2 := 50) C (ce_iln C dX2_isOneWalkFrom_48 rfl) (ce_iconst C dX2_isOneWalkFrom_49 (by decide)) dX2_isOneWalkFrom_50 (by decide) rfl) (ce_iconst C dX2_isOneWalkFrom_53 (by decide)) dX2_isOneWalkFrom_54 (by decide) (ce_iconst C dX2_isOneWalkFrom_57 (by decide))) dX2_isOneWalkFrom_58))))
theorem good_X2_isOneWalkFrom : xGood yX2_isOneWalkFrom cX2_isOneWalkFrom 5 (some .boolean) 0 0 m_X2_isOneWalkFrom :=
  x_methI (ini := false) (bz := true) (Or.inr (Or.inl ⟨rfl, rfl⟩)) ⟨fun h => (by cases h), fun h => (by cases h)⟩ (fun h => by cases h) (by decide) (fun K C => bo_X2_isOneWalkFrom C)

def lc_X2_comesToAll_1 : XB := (b_cmp r_lt (e_il 7) (e_fld 4 2 (e_al 1)))
def la_X2_comesToAll_1 : XS := (s_seq (s_iasg 8 (e_bin o_or (e_bin o_shl (e_lit 1) (e_ald 0 (e_fld 4 5 (e_al 1)) (e_il 7))) (e_bin o_shl (e_lit 1) (e_ald 0 (e_fld 4 6 (e_al 1)) (e_il 7)))))
 (s_ite (b_and (b_cmp0 r_ne0 (e_bin o_and (e_il 5) (e_bin o_shl (e_lit 1) (e_il 7)))) (b_cmp0 r_ne0 (e_bin o_and (e_il 4) (e_il 8)))) (s_seq (s_iasg 4 (e_bin o_or (e_il 4) (e_il 8)))
 (s_iasg 5 (e_bin o_and (e_il 5) (e_bin o_xor (e_bin o_shl (e_lit 1) (e_il 7)) (e_lit (-1))))))
 s_skip))
def lu_X2_comesToAll_1 : XS := (s_inc 7 1)
def lc_X2_comesToAll_2 : XB := (b_and (b_cmp r_lt (e_il 6) (e_lit 9)) (b_cmp0 r_ne0 (e_il 5)))
def la_X2_comesToAll_2 : XS := (s_seq (s_iasg 7 (e_lit 0))
 (s_loop 1000 (lc_X2_comesToAll_1) (la_X2_comesToAll_1) (lu_X2_comesToAll_1)))
def lu_X2_comesToAll_2 : XS := (s_inc 6 1)
def bd_X2_comesToAll : XS := (s_seq (s_iasg 4 (e_bin o_shl (e_lit 1) (e_il 3)))
 (s_seq (s_iasg 5 (e_il 2))
 (s_seq (s_iasg 6 (e_lit 0))
 (s_seq (s_loop 1000 (lc_X2_comesToAll_2) (la_X2_comesToAll_2) (lu_X2_comesToAll_2))
 (s_retZ (e_tern (b_cmp0 r_eq0 (e_il 5)) (e_lit 1) (e_lit 0)))))))
def m_X2_comesToAll : XF := xM 2 3 9 false bd_X2_comesToAll
theorem rc_X2_comesToAll : xRecv m_X2_comesToAll 2 3 := xM_recv
set_option maxRecDepth 100000 in
set_option maxHeartbeats 4000000 in
theorem bo_X2_comesToAll {K : XK} (C : xOK K RX2 cX2_comesToAll false true 0 0) : CS K 0 bd_X2_comesToAll 115 0 0 :=
 (cs_seq (p1 := 5) (cs_iasg (p1 := 3) C (ce_bin (p1 := 1) (p2 := 2) (ce_iconst C dX2_comesToAll_0 (by decide)) (ce_iln C dX2_comesToAll_1 rfl) (ob_shl C dX2_comesToAll_2)) dX2_comesToAll_3)
 (cs_seq (p1 := 8) (cs_iasg (p1 := 6) C (ce_iln C dX2_comesToAll_5 rfl) dX2_comesToAll_6)
 (cs_seq (p1 := 11) (cs_iasg (p1 := 9) C (ce_iconst C dX2_comesToAll_8 (by decide)) dX2_comesToAll_9)
 (cs_seq (p1 := 104) (cs_loop (pB := 23) (pE := 104) (pu := 98) (p2 := 101) C (cc_and (pM := 18) (cc_ltN (p1 := 13) (p2 := 15) C (ce_il C dX2_comesToAll_11) (ce_bipush C dX2_comesToAll_13 (by decide)) dX2_comesToAll_15 (by decide) rfl) (cc_ne0N (p1 := 20) C (ce_il C dX2_comesToAll_18) dX2_comesToAll_20 (by decide) rfl))
 (cs_seq (p1 := 26) (cs_iasg (p1 := 24) C (ce_iconst C dX2_comesToAll_23 (by decide)) dX2_comesToAll_24)
 (cs_loop (pB := 35) (pE := 98) (pu := 92) (p2 := 95) C (cc_ltN (p1 := 28) (p2 := 32) C (ce_il C dX2_comesToAll_26) (ce_fld C (ce_aln C dX2_comesToAll_28 rfl) dX2_comesToAll_29 fX2_50) dX2_comesToAll_32 (by decide) rfl)
 (cs_seq (p1 := 56) (cs_iasg (p1 := 54) C (ce_bin (p1 := 44) (p2 := 53) (ce_bin (p1 := 36) (p2 := 43) (ce_iconst C dX2_comesToAll_35 (by decide)) (ce_iald (p1 := 40) (p2 := 42) C (ce_fld C (ce_aln C dX2_comesToAll_36 rfl) dX2_comesToAll_37 fX2_65) (ce_il C dX2_comesToAll_40) dX2_comesToAll_42) (ob_shl C dX2_comesToAll_43)) (ce_bin (p1 := 45) (p2 := 52) (ce_iconst C dX2_comesToAll_44 (by decide)) (ce_iald (p1 := 49) (p2 := 51) C (ce_fld C (ce_aln C dX2_comesToAll_45 rfl) dX2_comesToAll_46 fX2_62) (ce_il C dX2_comesToAll_49) dX2_comesToAll_51) (ob_shl C dX2_comesToAll_52)) (ob_or C dX2_comesToAll_53)) dX2_comesToAll_54)
 (cs_itf (pT := 74) (pF := 92) (cc_and (pM := 66) (cc_ne0N (p1 := 63) C (ce_bin (p1 := 58) (p2 := 62) (ce_il C dX2_comesToAll_56) (ce_bin (p1 := 59) (p2 := 61) (ce_iconst C dX2_comesToAll_58 (by decide)) (ce_il C dX2_comesToAll_59) (ob_shl C dX2_comesToAll_61)) (ob_and C dX2_comesToAll_62)) dX2_comesToAll_63 (by decide) rfl) (cc_ne0N (p1 := 71) C (ce_bin (p1 := 68) (p2 := 70) (ce_il C dX2_comesToAll_66) (ce_il C dX2_comesToAll_68) (ob_and C dX2_comesToAll_70)) dX2_comesToAll_71 (by decide) rfl)) (cs_seq (p1 := 81) (cs_iasg (p1 := 79) C (ce_bin (p1 := 76) (p2 := 78) (ce_il C dX2_comesToAll_74) (ce_il C dX2_comesToAll_76) (ob_or C dX2_comesToAll_78)) dX2_comesToAll_79)
 (cs_iasg (p1 := 90) C (ce_bin (p1 := 83) (p2 := 89) (ce_il C dX2_comesToAll_81) (ce_bin (p1 := 87) (p2 := 88) (ce_bin (p1 := 84) (p2 := 86) (ce_iconst C dX2_comesToAll_83 (by decide)) (ce_il C dX2_comesToAll_84) (ob_shl C dX2_comesToAll_86)) (ce_iconst C dX2_comesToAll_87 (by decide)) (ob_xor C dX2_comesToAll_88)) (ob_and C dX2_comesToAll_89)) dX2_comesToAll_90))
 cs_skip))
 (cs_inc C dX2_comesToAll_92 (by decide)) dX2_comesToAll_95 (by decide)))
 (cs_inc C dX2_comesToAll_98 (by decide)) dX2_comesToAll_101 (by decide))
 (cs_retZ (p1 := 114) C (ce_tern (pT := 109) (pF := 113) (p1 := 110) C (cc_eq0N (p1 := 106) C (ce_il C dX2_comesToAll_104) dX2_comesToAll_106 (by decide) rfl) (ce_iconst C dX2_comesToAll_109 (by decide)) dX2_comesToAll_110 (by decide) (ce_iconst C dX2_comesToAll_113 (by decide))) dX2_comesToAll_114)))))
theorem good_X2_comesToAll : xGood yX2_comesToAll cX2_comesToAll 9 (some .boolean) 0 0 m_X2_comesToAll :=
  x_methI (ini := false) (bz := true) (Or.inr (Or.inl ⟨rfl, rfl⟩)) ⟨fun h => (by cases h), fun h => (by cases h)⟩ (fun h => by cases h) (by decide) (fun K C => bo_X2_comesToAll C)

def lc_X2_fewestOthers_1 : XB := (b_cmp r_le (e_il 6) (e_il 5))
def la_X2_fewestOthers_1 : XS := (s_seq (s_iasg 7 (e_call m_J6_bitCount_0f7a4 [(e_bin o_and (e_il 6) (e_bin o_xor (e_il 2) (e_lit (-1))))]))
 (s_ite (b_and (b_and (b_cmp r_eq (e_bin o_and (e_il 6) (e_il 2)) (e_il 2)) (b_or (b_cmp r_eq (e_il 4) (e_lit (-4))) (b_cmp r_lt (e_il 7) (e_il 4)))) (b_cmp0 r_ne0 (e_call m_X2_comesToAll [(e_al 0), (e_al 1), (e_il 6), (e_il 3)]))) (s_iasg 4 (e_il 7))
 s_skip))
def lu_X2_fewestOthers_1 : XS := (s_inc 6 1)
def bd_X2_fewestOthers : XS := (s_seq (s_iasg 4 (e_lit (-4)))
 (s_seq (s_iasg 5 (e_bin o_sub (e_bin o_shl (e_lit 1) (e_fld 4 2 (e_al 1))) (e_lit 1)))
 (s_seq (s_iasg 6 (e_lit 0))
 (s_seq (s_loop 1000 (lc_X2_fewestOthers_1) (la_X2_fewestOthers_1) (lu_X2_fewestOthers_1))
 (s_ret (e_il 4))))))
def m_X2_fewestOthers : XF := xM 2 3 8 false bd_X2_fewestOthers
theorem rc_X2_fewestOthers : xRecv m_X2_fewestOthers 2 3 := xM_recv
set_option maxRecDepth 100000 in
set_option maxHeartbeats 4000000 in
theorem bo_X2_fewestOthers {K : XK} (C : xOK K RX2 cX2_fewestOthers false false 1 28) : CS K 0 bd_X2_fewestOthers 81 0 0 :=
 (cs_seq (p1 := 4) (cs_iasg (p1 := 2) C (ce_bipush C dX2_fewestOthers_0 (by decide)) dX2_fewestOthers_2)
 (cs_seq (p1 := 14) (cs_iasg (p1 := 12) C (ce_bin (p1 := 10) (p2 := 11) (ce_bin (p1 := 5) (p2 := 9) (ce_iconst C dX2_fewestOthers_4 (by decide)) (ce_fld C (ce_aln C dX2_fewestOthers_5 rfl) dX2_fewestOthers_6 fX2_50) (ob_shl C dX2_fewestOthers_9)) (ce_iconst C dX2_fewestOthers_10 (by decide)) (ob_sub C dX2_fewestOthers_11)) dX2_fewestOthers_12)
 (cs_seq (p1 := 17) (cs_iasg (p1 := 15) C (ce_iconst C dX2_fewestOthers_14 (by decide)) dX2_fewestOthers_15)
 (cs_seq (p1 := 78) (cs_loop (pB := 24) (pE := 78) (pu := 72) (p2 := 75) C (cc_leN (p1 := 19) (p2 := 21) C (ce_il C dX2_fewestOthers_17) (ce_il C dX2_fewestOthers_19) dX2_fewestOthers_21 (by decide) rfl)
 (cs_seq (p1 := 35) (cs_iasg (p1 := 33) C (ce_call (p1 := 30) (ca_cons (p1 := 30) (ce_bin (p1 := 26) (p2 := 29) (ce_il C dX2_fewestOthers_24) (ce_bin (p1 := 27) (p2 := 28) (ce_iln C dX2_fewestOthers_26 rfl) (ce_iconst C dX2_fewestOthers_27 (by decide)) (ob_xor C dX2_fewestOthers_28)) (ob_and C dX2_fewestOthers_29)) ca_nil) (xCal_S C dX2_fewestOthers_30 wJ6_bitCount_0f7a4 vX2_68 good_J6_bitCount_0f7a4 rc_J6_bitCount_0f7a4 (by decide) (by decide)) (by decide)) dX2_fewestOthers_33)
 (cs_itf (pT := 68) (pF := 72) (cc_and (pM := 57) (cc_and (pM := 43) (cc_eqN (p1 := 39) (p2 := 40) C (ce_bin (p1 := 37) (p2 := 38) (ce_il C dX2_fewestOthers_35) (ce_iln C dX2_fewestOthers_37 rfl) (ob_and C dX2_fewestOthers_38)) (ce_iln C dX2_fewestOthers_39 rfl) dX2_fewestOthers_40 (by decide) rfl) (cc_or (pM := 50) (cc_eqJ (p1 := 45) (p2 := 47) C (ce_il C dX2_fewestOthers_43) (ce_bipush C dX2_fewestOthers_45 (by decide)) dX2_fewestOthers_47 (by decide) rfl) (cc_ltN (p1 := 52) (p2 := 54) C (ce_il C dX2_fewestOthers_50) (ce_il C dX2_fewestOthers_52) dX2_fewestOthers_54 (by decide) rfl))) (cc_ne0N (p1 := 65) C (ce_call (p1 := 62) (ca_cons (p1 := 58) (ce_aln C dX2_fewestOthers_57 rfl) (ca_cons (p1 := 59) (ce_aln C dX2_fewestOthers_58 rfl) (ca_cons (p1 := 61) (ce_il C dX2_fewestOthers_59) (ca_cons (p1 := 62) (ce_iln C dX2_fewestOthers_61 rfl) ca_nil)))) (xCal_V (ci := 2) C dX2_fewestOthers_62 wX2_comesToAll vX2_73 rfl rfl good_X2_comesToAll rc_X2_comesToAll (by decide) (by decide)) (by decide)) dX2_fewestOthers_65 (by decide) rfl)) (cs_iasg (p1 := 70) C (ce_il C dX2_fewestOthers_68) dX2_fewestOthers_70)
 cs_skip))
 (cs_inc C dX2_fewestOthers_72 (by decide)) dX2_fewestOthers_75 (by decide))
 (cs_ret (p1 := 80) C (ce_il C dX2_fewestOthers_78) dX2_fewestOthers_80)))))
theorem good_X2_fewestOthers : xGood yX2_fewestOthers cX2_fewestOthers 8 (some .int) 1 28 m_X2_fewestOthers :=
  x_methI (ini := false) (bz := false) (Or.inl ⟨rfl, rfl⟩) ⟨fun h => (by cases h), fun h => (by cases h)⟩ (fun h => by cases h) (by decide) (fun K C => bo_X2_fewestOthers C)

def lc_X2_treadsOwed_1 : XB := (b_cmp r_lt (e_il 4) (e_fld 4 2 (e_fld 6 6 (e_al 1))))
def la_X2_treadsOwed_1 : XS := (s_iasg 3 (e_bin o_add (e_il 3) (e_call m_abs [(e_call m_X6_accountOf [(e_al 1), (e_il 2), (e_il 4)])])))
def lu_X2_treadsOwed_1 : XS := (s_inc 4 1)
def bd_X2_treadsOwed : XS := (s_seq (s_iasg 3 (e_lit 0))
 (s_seq (s_iasg 4 (e_lit 0))
 (s_seq (s_loop 1000 (lc_X2_treadsOwed_1) (la_X2_treadsOwed_1) (lu_X2_treadsOwed_1))
 (s_ret (e_il 3)))))
def m_X2_treadsOwed : XF := xM 2 2 5 false bd_X2_treadsOwed
theorem rc_X2_treadsOwed : xRecv m_X2_treadsOwed 2 2 := xM_recv
set_option maxRecDepth 100000 in
set_option maxHeartbeats 4000000 in
theorem bo_X2_treadsOwed {K : XK} (C : xOK K RX2 cX2_treadsOwed false false 1 22) : CS K 0 bd_X2_treadsOwed 38 0 0 :=
 (cs_seq (p1 := 2) (cs_iasgn (p1 := 1) C (ce_iconst C dX2_treadsOwed_0 (by decide)) dX2_treadsOwed_1 rfl)
 (cs_seq (p1 := 5) (cs_iasg (p1 := 3) C (ce_iconst C dX2_treadsOwed_2 (by decide)) dX2_treadsOwed_3)
 (cs_seq (p1 := 36) (cs_loop (pB := 17) (pE := 36) (pu := 30) (p2 := 33) C (cc_ltN (p1 := 7) (p2 := 14) C (ce_il C dX2_treadsOwed_5) (ce_fld C (ce_fld C (ce_aln C dX2_treadsOwed_7 rfl) dX2_treadsOwed_8 fX2_28) dX2_treadsOwed_11 fX2_50) dX2_treadsOwed_14 (by decide) rfl)
 (cs_iasgn (p1 := 29) C (ce_bin (p1 := 18) (p2 := 28) (ce_iln C dX2_treadsOwed_17 rfl) (ce_call (p1 := 25) (ca_cons (p1 := 25) (ce_call (p1 := 22) (ca_cons (p1 := 19) (ce_aln C dX2_treadsOwed_18 rfl) (ca_cons (p1 := 20) (ce_iln C dX2_treadsOwed_19 rfl) (ca_cons (p1 := 22) (ce_il C dX2_treadsOwed_20) ca_nil))) (xCal_V (ci := 6) C dX2_treadsOwed_22 wX6_accountOf vX2_53 rfl rfl good_X6_accountOf rc_X6_accountOf (by decide) (by decide)) (by decide)) ca_nil) (xCal_abs C dX2_treadsOwed_25 maX2_57 (by decide) (by decide)) (by decide)) (ob_add C dX2_treadsOwed_28)) dX2_treadsOwed_29 rfl)
 (cs_inc C dX2_treadsOwed_30 (by decide)) dX2_treadsOwed_33 (by decide))
 (cs_ret (p1 := 37) C (ce_iln C dX2_treadsOwed_36 rfl) dX2_treadsOwed_37))))
theorem good_X2_treadsOwed : xGood yX2_treadsOwed cX2_treadsOwed 5 (some .int) 1 22 m_X2_treadsOwed :=
  x_methI (ini := false) (bz := false) (Or.inl ⟨rfl, rfl⟩) ⟨fun h => (by cases h), fun h => (by cases h)⟩ (fun h => by cases h) (by decide) (fun K C => bo_X2_treadsOwed C)

def bd_X2_fewestTreads : XS := (s_seq (s_iasg 3 (e_call m_X6_unevenStiles [(e_al 1), (e_il 2)]))
 (s_seq (s_ite (b_cmp0 r_eq0 (e_il 3)) (s_ret (e_lit 0))
 s_skip)
 (s_seq (s_call m_X2_takeLeaves [(e_al 0), (e_al 1), (e_il 2)])
 (s_seq (s_ite (b_not (b_cmp0 r_ne0 (e_call m_X2_isOneWalkFrom [(e_al 0), (e_ald 0 (e_fld 6 2 (e_al 1)) (e_il 2)), (e_fld 4 0 (e_fld 6 6 (e_al 1)))]))) (s_ret (e_lit (-4)))
 s_skip)
 (s_seq (s_iasg 4 (e_call m_X2_fewestOthers [(e_al 0), (e_fld 6 6 (e_al 1)), (e_il 3), (e_ald 0 (e_fld 6 2 (e_al 1)) (e_il 2))]))
 (s_ret (e_tern (b_cmp r_eq (e_il 4) (e_lit (-4))) (e_lit (-4)) (e_bin o_add (e_call m_X2_treadsOwed [(e_al 0), (e_al 1), (e_il 2)]) (e_bin o_mul (e_lit 2) (e_il 4))))))))))
def m_X2_fewestTreads : XF := xM 2 2 5 false bd_X2_fewestTreads
theorem rc_X2_fewestTreads : xRecv m_X2_fewestTreads 2 2 := xM_recv
set_option maxRecDepth 100000 in
set_option maxHeartbeats 4000000 in
theorem bo_X2_fewestTreads {K : XK} (C : xOK K RX2 cX2_fewestTreads false false 2 55) : CS K 0 bd_X2_fewestTreads 82 0 0 :=
 (cs_seq (p1 := 6) (cs_iasgn (p1 := 5) C (ce_call (p1 := 2) (ca_cons (p1 := 1) (ce_aln C dX2_fewestTreads_0 rfl) (ca_cons (p1 := 2) (ce_iln C dX2_fewestTreads_1 rfl) ca_nil)) (xCal_V (ci := 6) C dX2_fewestTreads_2 wX6_unevenStiles vX2_15 rfl rfl good_X6_unevenStiles rc_X6_unevenStiles (by decide) (by decide)) (by decide)) dX2_fewestTreads_5 rfl)
 (cs_seq (p1 := 12) (cs_itf (pT := 10) (pF := 12) (cc_eq0N (p1 := 7) C (ce_iln C dX2_fewestTreads_6 rfl) dX2_fewestTreads_7 (by decide) rfl) (cs_ret (p1 := 11) C (ce_iconst C dX2_fewestTreads_10 (by decide)) dX2_fewestTreads_11)
 cs_skip)
 (cs_seq (p1 := 18) (cs_call (p1 := 15) (ca_cons (p1 := 13) (ce_aln C dX2_fewestTreads_12 rfl) (ca_cons (p1 := 14) (ce_aln C dX2_fewestTreads_13 rfl) (ca_cons (p1 := 15) (ce_iln C dX2_fewestTreads_14 rfl) ca_nil))) (xCal_V (ci := 2) C dX2_fewestTreads_15 wX2_takeLeaves vX2_21 rfl rfl good_X2_takeLeaves rc_X2_takeLeaves (by decide) (by decide)))
 (cs_seq (p1 := 41) (cs_itf (pT := 38) (pF := 41) (cc_not (cc_ne0J (p1 := 35) C (ce_call (p1 := 32) (ca_cons (p1 := 19) (ce_aln C dX2_fewestTreads_18 rfl) (ca_cons (p1 := 25) (ce_iald (p1 := 23) (p2 := 24) C (ce_fld C (ce_aln C dX2_fewestTreads_19 rfl) dX2_fewestTreads_20 fX2_25) (ce_iln C dX2_fewestTreads_23 rfl) dX2_fewestTreads_24) (ca_cons (p1 := 32) (ce_fld C (ce_fld C (ce_aln C dX2_fewestTreads_25 rfl) dX2_fewestTreads_26 fX2_28) dX2_fewestTreads_29 fX2_32) ca_nil))) (xCal_V (ci := 2) C dX2_fewestTreads_32 wX2_isOneWalkFrom vX2_38 rfl rfl good_X2_isOneWalkFrom rc_X2_isOneWalkFrom (by decide) (by decide)) (by decide)) dX2_fewestTreads_35 (by decide) rfl)) (cs_ret (p1 := 40) C (ce_bipush C dX2_fewestTreads_38 (by decide)) dX2_fewestTreads_40)
 cs_skip)
 (cs_seq (p1 := 58) (cs_iasg (p1 := 56) C (ce_call (p1 := 53) (ca_cons (p1 := 42) (ce_aln C dX2_fewestTreads_41 rfl) (ca_cons (p1 := 46) (ce_fld C (ce_aln C dX2_fewestTreads_42 rfl) dX2_fewestTreads_43 fX2_28) (ca_cons (p1 := 47) (ce_iln C dX2_fewestTreads_46 rfl) (ca_cons (p1 := 53) (ce_iald (p1 := 51) (p2 := 52) C (ce_fld C (ce_aln C dX2_fewestTreads_47 rfl) dX2_fewestTreads_48 fX2_25) (ce_iln C dX2_fewestTreads_51 rfl) dX2_fewestTreads_52) ca_nil)))) (xCal_V (ci := 2) C dX2_fewestTreads_53 wX2_fewestOthers vX2_42 rfl rfl good_X2_fewestOthers rc_X2_fewestOthers (by decide) (by decide)) (by decide)) dX2_fewestTreads_56)
 (cs_ret (p1 := 81) C (ce_tern (pT := 65) (pF := 70) (p1 := 67) C (cc_eqN (p1 := 60) (p2 := 62) C (ce_il C dX2_fewestTreads_58) (ce_bipush C dX2_fewestTreads_60 (by decide)) dX2_fewestTreads_62 (by decide) rfl) (ce_bipush C dX2_fewestTreads_65 (by decide)) dX2_fewestTreads_67 (by decide) (ce_bin (p1 := 76) (p2 := 80) (ce_call (p1 := 73) (ca_cons (p1 := 71) (ce_aln C dX2_fewestTreads_70 rfl) (ca_cons (p1 := 72) (ce_aln C dX2_fewestTreads_71 rfl) (ca_cons (p1 := 73) (ce_iln C dX2_fewestTreads_72 rfl) ca_nil))) (xCal_V (ci := 2) C dX2_fewestTreads_73 wX2_treadsOwed vX2_46 rfl rfl good_X2_treadsOwed rc_X2_treadsOwed (by decide) (by decide)) (by decide)) (ce_bin (p1 := 77) (p2 := 79) (ce_iconst C dX2_fewestTreads_76 (by decide)) (ce_il C dX2_fewestTreads_77) (ob_mul C dX2_fewestTreads_79)) (ob_add C dX2_fewestTreads_80))) dX2_fewestTreads_81))))))
theorem good_X2_fewestTreads : xGood yX2_fewestTreads cX2_fewestTreads 5 (some .int) 2 55 m_X2_fewestTreads :=
  x_methI (ini := false) (bz := false) (Or.inl ⟨rfl, rfl⟩) ⟨fun h => (by cases h), fun h => (by cases h)⟩ (fun h => by cases h) (by decide) (fun K C => bo_X2_fewestTreads C)

def bd_X2_init : XS := (s_seq s_oinit
 (s_seq (s_put 2 0 2 (e_al 0) (e_newa 0 (e_lit 8)))
 s_retV))
def m_X2_init : XF := xM 2 0 1 true bd_X2_init
theorem rc_X2_init : xRecv m_X2_init 2 0 := xM_recv
set_option maxRecDepth 100000 in
set_option maxHeartbeats 4000000 in
theorem bo_X2_init {K : XK} (C : xOK K RX2 cX2_init true false 1 12) : CS K 0 bd_X2_init 13 0 0 :=
 (cs_seq (p1 := 4) (cs_oinit C dX2_init_0 dX2_init_1 oiX2_3 xW_oi1 xW_oi2 (by decide) (by decide))
 (cs_seq (p1 := 12) (cs_put (p1 := 5) (p2 := 9) C (ce_aln C dX2_init_4 rfl) (ce_newi C (ce_bipush C dX2_init_5 (by decide)) dX2_init_7 xW_arri) dX2_init_9 pX2_9_true)
 (cs_retV C dX2_init_12)))
theorem good_X2_init : xGood yX2_init cX2_init 1 none 1 12 m_X2_init :=
  x_methI (ini := true) (bz := false) (Or.inr (Or.inr rfl)) ⟨fun _ => rfl, fun _ => rfl⟩ (fun _ => rfl) (by decide) (fun K C => bo_X2_init C)

def lc_X3_tellsAll_1 : XB := (b_cmp r_lt (e_il 3) (e_il 2))
def la_X3_tellsAll_1 : XS := (s_ite (b_and (b_cmp0 r_ne0 (e_ald 0 (e_fld 3 0 (e_al 0)) (e_il 3))) (b_cmp0 r_eq0 (e_bin o_and (e_ald 0 (e_fld 3 0 (e_al 0)) (e_il 3)) (e_il 1)))) (s_retZ (e_lit 0))
 s_skip)
def lu_X3_tellsAll_1 : XS := (s_inc 3 1)
def bd_X3_tellsAll : XS := (s_seq (s_iasg 3 (e_lit 0))
 (s_seq (s_loop 1000 (lc_X3_tellsAll_1) (la_X3_tellsAll_1) (lu_X3_tellsAll_1))
 (s_retZ (e_lit 1))))
def m_X3_tellsAll : XF := xM 3 2 4 false bd_X3_tellsAll
theorem rc_X3_tellsAll : xRecv m_X3_tellsAll 3 2 := xM_recv
set_option maxRecDepth 100000 in
set_option maxHeartbeats 4000000 in
theorem bo_X3_tellsAll {K : XK} (C : xOK K RX3 cX3_tellsAll false true 0 0) : CS K 0 bd_X3_tellsAll 37 0 0 :=
 (cs_seq (p1 := 2) (cs_iasgn (p1 := 1) C (ce_iconst C dX3_tellsAll_0 (by decide)) dX3_tellsAll_1 rfl)
 (cs_seq (p1 := 35) (cs_loop (pB := 7) (pE := 35) (pu := 29) (p2 := 32) C (cc_ltN (p1 := 3) (p2 := 4) C (ce_iln C dX3_tellsAll_2 rfl) (ce_iln C dX3_tellsAll_3 rfl) dX3_tellsAll_4 (by decide) rfl)
 (cs_itf (pT := 27) (pF := 29) (cc_and (pM := 16) (cc_ne0N (p1 := 13) C (ce_iald (p1 := 11) (p2 := 12) C (ce_fld C (ce_aln C dX3_tellsAll_7 rfl) dX3_tellsAll_8 fX3_9) (ce_iln C dX3_tellsAll_11 rfl) dX3_tellsAll_12) dX3_tellsAll_13 (by decide) rfl) (cc_eq0N (p1 := 24) C (ce_bin (p1 := 22) (p2 := 23) (ce_iald (p1 := 20) (p2 := 21) C (ce_fld C (ce_aln C dX3_tellsAll_16 rfl) dX3_tellsAll_17 fX3_9) (ce_iln C dX3_tellsAll_20 rfl) dX3_tellsAll_21) (ce_iln C dX3_tellsAll_22 rfl) (ob_and C dX3_tellsAll_23)) dX3_tellsAll_24 (by decide) rfl)) (cs_retZ (p1 := 28) C (ce_iconst C dX3_tellsAll_27 (by decide)) dX3_tellsAll_28)
 cs_skip)
 (cs_inc C dX3_tellsAll_29 (by decide)) dX3_tellsAll_32 (by decide))
 (cs_retZ (p1 := 36) C (ce_iconst C dX3_tellsAll_35 (by decide)) dX3_tellsAll_36)))
theorem good_X3_tellsAll : xGood yX3_tellsAll cX3_tellsAll 4 (some .boolean) 0 0 m_X3_tellsAll :=
  x_methI (ini := false) (bz := true) (Or.inr (Or.inl ⟨rfl, rfl⟩)) ⟨fun h => (by cases h), fun h => (by cases h)⟩ (fun h => by cases h) (by decide) (fun K C => bo_X3_tellsAll C)

def lc_X3_fewestStiles_1 : XB := (b_cmp r_lt (e_il 3) (e_il 2))
def la_X3_fewestStiles_1 : XS := (s_ast 0 (e_fld 3 0 (e_al 0)) (e_il 3) (e_call m_X6_unevenStiles [(e_al 1), (e_il 3)]))
def lu_X3_fewestStiles_1 : XS := (s_inc 3 1)
def lc_X3_fewestStiles_2 : XB := (b_cmp r_le (e_il 5) (e_il 3))
def la_X3_fewestStiles_2 : XS := (s_ite (b_and (b_cmp r_lt (e_call m_J6_bitCount_0f7a4 [(e_il 5)]) (e_call m_J6_bitCount_0f7a4 [(e_il 4)])) (b_cmp0 r_ne0 (e_call m_X3_tellsAll [(e_al 0), (e_il 5), (e_il 2)]))) (s_iasg 4 (e_il 5))
 s_skip)
def lu_X3_fewestStiles_2 : XS := (s_inc 5 1)
def bd_X3_fewestStiles : XS := (s_seq (s_iasg 2 (e_fld 4 3 (e_fld 6 6 (e_al 1))))
 (s_seq (s_iasg 3 (e_lit 0))
 (s_seq (s_loop 1000 (lc_X3_fewestStiles_1) (la_X3_fewestStiles_1) (lu_X3_fewestStiles_1))
 (s_seq (s_iasg 3 (e_bin o_sub (e_bin o_shl (e_lit 1) (e_fld 4 2 (e_fld 6 6 (e_al 1)))) (e_lit 1)))
 (s_seq (s_iasg 4 (e_il 3))
 (s_seq (s_iasg 5 (e_lit 0))
 (s_seq (s_loop 1000 (lc_X3_fewestStiles_2) (la_X3_fewestStiles_2) (lu_X3_fewestStiles_2))
 (s_ret (e_il 4)))))))))
def m_X3_fewestStiles : XF := xM 3 1 6 false bd_X3_fewestStiles
theorem rc_X3_fewestStiles : xRecv m_X3_fewestStiles 3 1 := xM_recv
set_option maxRecDepth 100000 in
set_option maxHeartbeats 4000000 in
theorem bo_X3_fewestStiles {K : XK} (C : xOK K RX3 cX3_fewestStiles false false 2 45) : CS K 0 bd_X3_fewestStiles 92 0 0 :=
 (cs_seq (p1 := 8) (cs_iasgn (p1 := 7) C (ce_fld C (ce_fld C (ce_aln C dX3_fewestStiles_0 rfl) dX3_fewestStiles_1 fX3_15) dX3_fewestStiles_4 fX3_21) dX3_fewestStiles_7 rfl)
 (cs_seq (p1 := 10) (cs_iasgn (p1 := 9) C (ce_iconst C dX3_fewestStiles_8 (by decide)) dX3_fewestStiles_9 rfl)
 (cs_seq (p1 := 32) (cs_loop (pB := 15) (pE := 32) (pu := 26) (p2 := 29) C (cc_ltN (p1 := 11) (p2 := 12) C (ce_iln C dX3_fewestStiles_10 rfl) (ce_iln C dX3_fewestStiles_11 rfl) dX3_fewestStiles_12 (by decide) rfl)
 (cs_iast (p1 := 19) (p2 := 20) (p3 := 25) C (ce_fld C (ce_aln C dX3_fewestStiles_15 rfl) dX3_fewestStiles_16 fX3_9) (ce_iln C dX3_fewestStiles_19 rfl) (ce_call (p1 := 22) (ca_cons (p1 := 21) (ce_aln C dX3_fewestStiles_20 rfl) (ca_cons (p1 := 22) (ce_iln C dX3_fewestStiles_21 rfl) ca_nil)) (xCal_V (ci := 6) C dX3_fewestStiles_22 wX6_unevenStiles vX3_27 rfl rfl good_X6_unevenStiles rc_X6_unevenStiles (by decide) (by decide)) (by decide)) dX3_fewestStiles_25)
 (cs_inc C dX3_fewestStiles_26 (by decide)) dX3_fewestStiles_29 (by decide))
 (cs_seq (p1 := 44) (cs_iasgn (p1 := 43) C (ce_bin (p1 := 41) (p2 := 42) (ce_bin (p1 := 33) (p2 := 40) (ce_iconst C dX3_fewestStiles_32 (by decide)) (ce_fld C (ce_fld C (ce_aln C dX3_fewestStiles_33 rfl) dX3_fewestStiles_34 fX3_15) dX3_fewestStiles_37 fX3_31) (ob_shl C dX3_fewestStiles_40)) (ce_iconst C dX3_fewestStiles_41 (by decide)) (ob_sub C dX3_fewestStiles_42)) dX3_fewestStiles_43 rfl)
 (cs_seq (p1 := 47) (cs_iasg (p1 := 45) C (ce_iln C dX3_fewestStiles_44 rfl) dX3_fewestStiles_45)
 (cs_seq (p1 := 50) (cs_iasg (p1 := 48) C (ce_iconst C dX3_fewestStiles_47 (by decide)) dX3_fewestStiles_48)
 (cs_seq (p1 := 89) (cs_loop (pB := 56) (pE := 89) (pu := 83) (p2 := 86) C (cc_leN (p1 := 52) (p2 := 53) C (ce_il C dX3_fewestStiles_50) (ce_iln C dX3_fewestStiles_52 rfl) dX3_fewestStiles_53 (by decide) rfl)
 (cs_itf (pT := 79) (pF := 83) (cc_and (pM := 69) (cc_ltN (p1 := 61) (p2 := 66) C (ce_call (p1 := 58) (ca_cons (p1 := 58) (ce_il C dX3_fewestStiles_56) ca_nil) (xCal_S C dX3_fewestStiles_58 wJ6_bitCount_0f7a4 vX3_34 good_J6_bitCount_0f7a4 rc_J6_bitCount_0f7a4 (by decide) (by decide)) (by decide)) (ce_call (p1 := 63) (ca_cons (p1 := 63) (ce_il C dX3_fewestStiles_61) ca_nil) (xCal_S C dX3_fewestStiles_63 wJ6_bitCount_0f7a4 vX3_34 good_J6_bitCount_0f7a4 rc_J6_bitCount_0f7a4 (by decide) (by decide)) (by decide)) dX3_fewestStiles_66 (by decide) rfl) (cc_ne0N (p1 := 76) C (ce_call (p1 := 73) (ca_cons (p1 := 70) (ce_aln C dX3_fewestStiles_69 rfl) (ca_cons (p1 := 72) (ce_il C dX3_fewestStiles_70) (ca_cons (p1 := 73) (ce_iln C dX3_fewestStiles_72 rfl) ca_nil))) (xCal_V (ci := 3) C dX3_fewestStiles_73 wX3_tellsAll vX3_39 rfl rfl good_X3_tellsAll rc_X3_tellsAll (by decide) (by decide)) (by decide)) dX3_fewestStiles_76 (by decide) rfl)) (cs_iasg (p1 := 81) C (ce_il C dX3_fewestStiles_79) dX3_fewestStiles_81)
 cs_skip)
 (cs_inc C dX3_fewestStiles_83 (by decide)) dX3_fewestStiles_86 (by decide))
 (cs_ret (p1 := 91) C (ce_il C dX3_fewestStiles_89) dX3_fewestStiles_91))))))))
theorem good_X3_fewestStiles : xGood yX3_fewestStiles cX3_fewestStiles 6 (some .int) 2 45 m_X3_fewestStiles :=
  x_methI (ini := false) (bz := false) (Or.inl ⟨rfl, rfl⟩) ⟨fun h => (by cases h), fun h => (by cases h)⟩ (fun h => by cases h) (by decide) (fun K C => bo_X3_fewestStiles C)

def bd_X3_init : XS := (s_seq s_oinit
 (s_seq (s_put 3 0 2 (e_al 0) (e_newa 0 (e_lit 4)))
 s_retV))
def m_X3_init : XF := xM 3 0 1 true bd_X3_init
theorem rc_X3_init : xRecv m_X3_init 3 0 := xM_recv
set_option maxRecDepth 100000 in
set_option maxHeartbeats 4000000 in
theorem bo_X3_init {K : XK} (C : xOK K RX3 cX3_init true false 1 12) : CS K 0 bd_X3_init 12 0 0 :=
 (cs_seq (p1 := 4) (cs_oinit C dX3_init_0 dX3_init_1 oiX3_3 xW_oi1 xW_oi2 (by decide) (by decide))
 (cs_seq (p1 := 11) (cs_put (p1 := 5) (p2 := 8) C (ce_aln C dX3_init_4 rfl) (ce_newi C (ce_iconst C dX3_init_5 (by decide)) dX3_init_6 xW_arri) dX3_init_8 pX3_9_true)
 (cs_retV C dX3_init_11)))
theorem good_X3_init : xGood yX3_init cX3_init 1 none 1 12 m_X3_init :=
  x_methI (ini := true) (bz := false) (Or.inr (Or.inr rfl)) ⟨fun _ => rfl, fun _ => rfl⟩ (fun _ => rfl) (by decide) (fun K C => bo_X3_init C)

def bd_X1_goOnFrom : XS := (s_seq (s_iasg 4 (e_call m_X6_openStilesAt [(e_al 1), (e_il 2)]))
 (s_seq (s_ite (b_cmp0 r_eq0 (e_il 4)) (s_seq (s_astop o_add (e_fld 1 2 (e_al 0)) (e_il 2) (e_bin o_mul (e_lit 10) (e_ald 0 (e_fld 1 3 (e_al 0)) (e_il 2))))
 s_retV)
 s_skip)
 (s_seq (s_iasg 5 (e_call m_X6_openStileAt [(e_al 1), (e_il 2), (e_lit 0)]))
 (s_seq (s_iasg 6 (e_call m_X6_openStileAt [(e_al 1), (e_il 2), (e_bin o_sub (e_il 4) (e_lit 1))]))
 (s_seq (s_astop o_add (e_fld 1 2 (e_al 0)) (e_call m_X4_across [(e_fld 6 6 (e_al 1)), (e_il 5), (e_il 2)]) (e_bin o_mul (e_il 3) (e_ald 0 (e_fld 1 3 (e_al 0)) (e_il 2))))
 (s_seq (s_astop o_add (e_fld 1 2 (e_al 0)) (e_call m_X4_across [(e_fld 6 6 (e_al 1)), (e_il 6), (e_il 2)]) (e_bin o_mul (e_bin o_sub (e_lit 10) (e_il 3)) (e_ald 0 (e_fld 1 3 (e_al 0)) (e_il 2))))
 s_retV))))))
def m_X1_goOnFrom : XF := xM 1 3 7 true bd_X1_goOnFrom
theorem rc_X1_goOnFrom : xRecv m_X1_goOnFrom 1 3 := xM_recv
set_option maxRecDepth 100000 in
set_option maxHeartbeats 4000000 in
theorem bo_X1_goOnFrom {K : XK} (C : xOK K RX1 cX1_goOnFrom false false 3 69) : CS K 0 bd_X1_goOnFrom 106 0 0 :=
 (cs_seq (p1 := 7) (cs_iasg (p1 := 5) C (ce_call (p1 := 2) (ca_cons (p1 := 1) (ce_aln C dX1_goOnFrom_0 rfl) (ca_cons (p1 := 2) (ce_iln C dX1_goOnFrom_1 rfl) ca_nil)) (xCal_V (ci := 6) C dX1_goOnFrom_2 wX6_openStilesAt vX1_40 rfl rfl good_X6_openStilesAt rc_X6_openStilesAt (by decide) (by decide)) (by decide)) dX1_goOnFrom_5)
 (cs_seq (p1 := 31) (cs_itf (pT := 12) (pF := 31) (cc_eq0N (p1 := 9) C (ce_il C dX1_goOnFrom_7) dX1_goOnFrom_9 (by decide) rfl) (cs_seq (p1 := 30) (cs_astop (p1 := 16) (p2 := 17) (p3 := 28) C (ce_fld C (ce_aln C dX1_goOnFrom_12 rfl) dX1_goOnFrom_13 fX1_9) (ce_iln C dX1_goOnFrom_16 rfl) dX1_goOnFrom_17 dX1_goOnFrom_18 (ce_bin (p1 := 21) (p2 := 27) (ce_bipush C dX1_goOnFrom_19 (by decide)) (ce_iald (p1 := 25) (p2 := 26) C (ce_fld C (ce_aln C dX1_goOnFrom_21 rfl) dX1_goOnFrom_22 fX1_15) (ce_iln C dX1_goOnFrom_25 rfl) dX1_goOnFrom_26) (ob_mul C dX1_goOnFrom_27)) (ob_add C dX1_goOnFrom_28) dX1_goOnFrom_29)
 (cs_retV C dX1_goOnFrom_30))
 cs_skip)
 (cs_seq (p1 := 39) (cs_iasg (p1 := 37) C (ce_call (p1 := 34) (ca_cons (p1 := 32) (ce_aln C dX1_goOnFrom_31 rfl) (ca_cons (p1 := 33) (ce_iln C dX1_goOnFrom_32 rfl) (ca_cons (p1 := 34) (ce_iconst C dX1_goOnFrom_33 (by decide)) ca_nil))) (xCal_V (ci := 6) C dX1_goOnFrom_34 wX6_openStileAt vX1_44 rfl rfl good_X6_openStileAt rc_X6_openStileAt (by decide) (by decide)) (by decide)) dX1_goOnFrom_37)
 (cs_seq (p1 := 50) (cs_iasg (p1 := 48) C (ce_call (p1 := 45) (ca_cons (p1 := 40) (ce_aln C dX1_goOnFrom_39 rfl) (ca_cons (p1 := 41) (ce_iln C dX1_goOnFrom_40 rfl) (ca_cons (p1 := 45) (ce_bin (p1 := 43) (p2 := 44) (ce_il C dX1_goOnFrom_41) (ce_iconst C dX1_goOnFrom_43 (by decide)) (ob_sub C dX1_goOnFrom_44)) ca_nil))) (xCal_V (ci := 6) C dX1_goOnFrom_45 wX6_openStileAt vX1_44 rfl rfl good_X6_openStileAt rc_X6_openStileAt (by decide) (by decide)) (by decide)) dX1_goOnFrom_48)
 (cs_seq (p1 := 76) (cs_astop (p1 := 54) (p2 := 64) (p3 := 74) C (ce_fld C (ce_aln C dX1_goOnFrom_50 rfl) dX1_goOnFrom_51 fX1_9) (ce_call (p1 := 61) (ca_cons (p1 := 58) (ce_fld C (ce_aln C dX1_goOnFrom_54 rfl) dX1_goOnFrom_55 fX1_24) (ca_cons (p1 := 60) (ce_il C dX1_goOnFrom_58) (ca_cons (p1 := 61) (ce_iln C dX1_goOnFrom_60 rfl) ca_nil))) (xCal_V (ci := 4) C dX1_goOnFrom_61 wX4_across vX1_48 rfl rfl good_X4_across rc_X4_across (by decide) (by decide)) (by decide)) dX1_goOnFrom_64 dX1_goOnFrom_65 (ce_bin (p1 := 67) (p2 := 73) (ce_iln C dX1_goOnFrom_66 rfl) (ce_iald (p1 := 71) (p2 := 72) C (ce_fld C (ce_aln C dX1_goOnFrom_67 rfl) dX1_goOnFrom_68 fX1_15) (ce_iln C dX1_goOnFrom_71 rfl) dX1_goOnFrom_72) (ob_mul C dX1_goOnFrom_73)) (ob_add C dX1_goOnFrom_74) dX1_goOnFrom_75)
 (cs_seq (p1 := 105) (cs_astop (p1 := 80) (p2 := 90) (p3 := 103) C (ce_fld C (ce_aln C dX1_goOnFrom_76 rfl) dX1_goOnFrom_77 fX1_9) (ce_call (p1 := 87) (ca_cons (p1 := 84) (ce_fld C (ce_aln C dX1_goOnFrom_80 rfl) dX1_goOnFrom_81 fX1_24) (ca_cons (p1 := 86) (ce_il C dX1_goOnFrom_84) (ca_cons (p1 := 87) (ce_iln C dX1_goOnFrom_86 rfl) ca_nil))) (xCal_V (ci := 4) C dX1_goOnFrom_87 wX4_across vX1_48 rfl rfl good_X4_across rc_X4_across (by decide) (by decide)) (by decide)) dX1_goOnFrom_90 dX1_goOnFrom_91 (ce_bin (p1 := 96) (p2 := 102) (ce_bin (p1 := 94) (p2 := 95) (ce_bipush C dX1_goOnFrom_92 (by decide)) (ce_iln C dX1_goOnFrom_94 rfl) (ob_sub C dX1_goOnFrom_95)) (ce_iald (p1 := 100) (p2 := 101) C (ce_fld C (ce_aln C dX1_goOnFrom_96 rfl) dX1_goOnFrom_97 fX1_15) (ce_iln C dX1_goOnFrom_100 rfl) dX1_goOnFrom_101) (ob_mul C dX1_goOnFrom_102)) (ob_add C dX1_goOnFrom_103) dX1_goOnFrom_104)
 (cs_retV C dX1_goOnFrom_105)))))))
theorem good_X1_goOnFrom : xGood yX1_goOnFrom cX1_goOnFrom 7 none 3 69 m_X1_goOnFrom :=
  x_methI (ini := false) (bz := false) (Or.inr (Or.inr rfl)) ⟨fun _ => rfl, fun _ => rfl⟩ (fun h => by cases h) (by decide) (fun K C => bo_X1_goOnFrom C)

def lc_X1_stagger_1 : XB := (b_cmp r_lt (e_il 5) (e_lit 8))
def la_X1_stagger_1 : XS := (s_ast 0 (e_fld 1 2 (e_al 0)) (e_il 5) (e_tern (b_cmp r_eq (e_il 5) (e_il 2)) (e_lit 1) (e_lit 0)))
def lu_X1_stagger_1 : XS := (s_inc 5 1)
def lc_X1_stagger_2 : XB := (b_cmp r_lt (e_il 6) (e_lit 8))
def la_X1_stagger_2 : XS := (s_ast 0 (e_fld 1 2 (e_al 0)) (e_il 6) (e_lit 0))
def lu_X1_stagger_2 : XS := (s_inc 6 1)
def lc_X1_stagger_3 : XB := (b_cmp r_lt (e_il 6) (e_fld 4 0 (e_fld 6 6 (e_al 1))))
def la_X1_stagger_3 : XS := (s_call m_X1_goOnFrom [(e_al 0), (e_al 1), (e_il 6), (e_il 4)])
def lu_X1_stagger_3 : XS := (s_inc 6 1)
def lc_X1_stagger_4 : XB := (b_cmp r_lt (e_il 5) (e_il 3))
def la_X1_stagger_4 : XS := (s_seq (s_copy (e_fld 1 2 (e_al 0)) (e_fld 1 3 (e_al 0)) (e_lit 8))
 (s_seq (s_iasg 6 (e_lit 0))
 (s_seq (s_loop 1000 (lc_X1_stagger_2) (la_X1_stagger_2) (lu_X1_stagger_2))
 (s_seq (s_iasg 6 (e_lit 0))
 (s_loop 1000 (lc_X1_stagger_3) (la_X1_stagger_3) (lu_X1_stagger_3))))))
def lu_X1_stagger_4 : XS := (s_inc 5 1)
def bd_X1_stagger : XS := (s_seq (s_iasg 5 (e_lit 0))
 (s_seq (s_loop 1000 (lc_X1_stagger_1) (la_X1_stagger_1) (lu_X1_stagger_1))
 (s_seq (s_iasg 5 (e_lit 0))
 (s_seq (s_loop 1000 (lc_X1_stagger_4) (la_X1_stagger_4) (lu_X1_stagger_4))
 s_retV))))
def m_X1_stagger : XF := xM 1 4 7 true bd_X1_stagger
theorem rc_X1_stagger : xRecv m_X1_stagger 1 4 := xM_recv
set_option maxRecDepth 100000 in
set_option maxHeartbeats 4000000 in
theorem bo_X1_stagger {K : XK} (C : xOK K RX1 cX1_stagger false false 4 95) : CS K 0 bd_X1_stagger 119 0 0 :=
 (cs_seq (p1 := 3) (cs_iasg (p1 := 1) C (ce_iconst C dX1_stagger_0 (by decide)) dX1_stagger_1)
 (cs_seq (p1 := 34) (cs_loop (pB := 10) (pE := 34) (pu := 28) (p2 := 31) C (cc_ltN (p1 := 5) (p2 := 7) C (ce_il C dX1_stagger_3) (ce_bipush C dX1_stagger_5 (by decide)) dX1_stagger_7 (by decide) rfl)
 (cs_iast (p1 := 14) (p2 := 16) (p3 := 27) C (ce_fld C (ce_aln C dX1_stagger_10 rfl) dX1_stagger_11 fX1_9) (ce_il C dX1_stagger_14) (ce_tern (pT := 22) (pF := 26) (p1 := 23) C (cc_eqN (p1 := 18) (p2 := 19) C (ce_il C dX1_stagger_16) (ce_iln C dX1_stagger_18 rfl) dX1_stagger_19 (by decide) rfl) (ce_iconst C dX1_stagger_22 (by decide)) dX1_stagger_23 (by decide) (ce_iconst C dX1_stagger_26 (by decide))) dX1_stagger_27)
 (cs_inc C dX1_stagger_28 (by decide)) dX1_stagger_31 (by decide))
 (cs_seq (p1 := 37) (cs_iasg (p1 := 35) C (ce_iconst C dX1_stagger_34 (by decide)) dX1_stagger_35)
 (cs_seq (p1 := 118) (cs_loop (pB := 43) (pE := 118) (pu := 112) (p2 := 115) C (cc_ltN (p1 := 39) (p2 := 40) C (ce_il C dX1_stagger_37) (ce_iln C dX1_stagger_39 rfl) dX1_stagger_40 (by decide) rfl)
 (cs_seq (p1 := 58) (cs_copy (p1 := 55) C (ca_cons (p1 := 47) (ce_fld C (ce_aln C dX1_stagger_43 rfl) dX1_stagger_44 fX1_9) (ca_cons (p1 := 48) (ce_iconst C dX1_stagger_47 (by decide)) (ca_cons (p1 := 52) (ce_fld C (ce_aln C dX1_stagger_48 rfl) dX1_stagger_49 fX1_15) (ca_cons (p1 := 53) (ce_iconst C dX1_stagger_52 (by decide)) (ca_cons (p1 := 55) (ce_bipush C dX1_stagger_53 (by decide)) ca_nil))))) dX1_stagger_55 cpX1_18 (by decide) (by decide))
 (cs_seq (p1 := 61) (cs_iasg (p1 := 59) C (ce_iconst C dX1_stagger_58 (by decide)) dX1_stagger_59)
 (cs_seq (p1 := 82) (cs_loop (pB := 68) (pE := 82) (pu := 76) (p2 := 79) C (cc_ltN (p1 := 63) (p2 := 65) C (ce_il C dX1_stagger_61) (ce_bipush C dX1_stagger_63 (by decide)) dX1_stagger_65 (by decide) rfl)
 (cs_iast (p1 := 72) (p2 := 74) (p3 := 75) C (ce_fld C (ce_aln C dX1_stagger_68 rfl) dX1_stagger_69 fX1_9) (ce_il C dX1_stagger_72) (ce_iconst C dX1_stagger_74 (by decide)) dX1_stagger_75)
 (cs_inc C dX1_stagger_76 (by decide)) dX1_stagger_79 (by decide))
 (cs_seq (p1 := 85) (cs_iasg (p1 := 83) C (ce_iconst C dX1_stagger_82 (by decide)) dX1_stagger_83)
 (cs_loop (pB := 97) (pE := 112) (pu := 106) (p2 := 109) C (cc_ltN (p1 := 87) (p2 := 94) C (ce_il C dX1_stagger_85) (ce_fld C (ce_fld C (ce_aln C dX1_stagger_87 rfl) dX1_stagger_88 fX1_24) dX1_stagger_91 fX1_30) dX1_stagger_94 (by decide) rfl)
 (cs_call (p1 := 103) (ca_cons (p1 := 98) (ce_aln C dX1_stagger_97 rfl) (ca_cons (p1 := 99) (ce_aln C dX1_stagger_98 rfl) (ca_cons (p1 := 101) (ce_il C dX1_stagger_99) (ca_cons (p1 := 103) (ce_il C dX1_stagger_101) ca_nil)))) (xCal_V (ci := 1) C dX1_stagger_103 wX1_goOnFrom vX1_36 rfl rfl good_X1_goOnFrom rc_X1_goOnFrom (by decide) (by decide)))
 (cs_inc C dX1_stagger_106 (by decide)) dX1_stagger_109 (by decide))))))
 (cs_inc C dX1_stagger_112 (by decide)) dX1_stagger_115 (by decide))
 (cs_retV C dX1_stagger_118)))))
theorem good_X1_stagger : xGood yX1_stagger cX1_stagger 7 none 4 95 m_X1_stagger :=
  x_methI (ini := false) (bz := false) (Or.inr (Or.inr rfl)) ⟨fun _ => rfl, fun _ => rfl⟩ (fun h => by cases h) (by decide) (fun K C => bo_X1_stagger C)

def bd_X1_reduceBy2 : XS := (s_seq (s_ite (b_and (b_cmp0 r_eq0 (e_bin o_rem (e_fld 1 0 (e_al 0)) (e_lit 2))) (b_cmp0 r_eq0 (e_bin o_rem (e_fld 1 1 (e_al 0)) (e_lit 2)))) (s_seq (s_putop 1 0 o_div (e_al 0) (e_lit 2))
 (s_putop 1 1 o_div (e_al 0) (e_lit 2)))
 s_skip)
 s_retV)
def m_X1_reduceBy2 : XF := xM 1 0 1 true bd_X1_reduceBy2
theorem rc_X1_reduceBy2 : xRecv m_X1_reduceBy2 1 0 := xM_recv
set_option maxRecDepth 100000 in
set_option maxHeartbeats 4000000 in
theorem bo_X1_reduceBy2 {K : XK} (C : xOK K RX1 cX1_reduceBy2 false false 0 0) : CS K 0 bd_X1_reduceBy2 39 0 0 :=
 (cs_seq (p1 := 38) (cs_itf (pT := 18) (pF := 38) (cc_and (pM := 9) (cc_eq0N (p1 := 6) C (ce_bin (p1 := 4) (p2 := 5) (ce_fld C (ce_aln C dX1_reduceBy2_0 rfl) dX1_reduceBy2_1 fX1_51) (ce_iconst C dX1_reduceBy2_4 (by decide)) (ob_rem C dX1_reduceBy2_5)) dX1_reduceBy2_6 (by decide) rfl) (cc_eq0N (p1 := 15) C (ce_bin (p1 := 13) (p2 := 14) (ce_fld C (ce_aln C dX1_reduceBy2_9 rfl) dX1_reduceBy2_10 fX1_54) (ce_iconst C dX1_reduceBy2_13 (by decide)) (ob_rem C dX1_reduceBy2_14)) dX1_reduceBy2_15 (by decide) rfl)) (cs_seq (p1 := 28) (cs_putop (p1 := 19) (p2 := 24) C (ce_aln C dX1_reduceBy2_18 rfl) dX1_reduceBy2_19 dX1_reduceBy2_20 fX1_51 (ce_iconst C dX1_reduceBy2_23 (by decide)) (ob_div C dX1_reduceBy2_24) dX1_reduceBy2_25 pX1_51_false)
 (cs_putop (p1 := 29) (p2 := 34) C (ce_aln C dX1_reduceBy2_28 rfl) dX1_reduceBy2_29 dX1_reduceBy2_30 fX1_54 (ce_iconst C dX1_reduceBy2_33 (by decide)) (ob_div C dX1_reduceBy2_34) dX1_reduceBy2_35 pX1_54_false))
 cs_skip)
 (cs_retV C dX1_reduceBy2_38))
theorem good_X1_reduceBy2 : xGood yX1_reduceBy2 cX1_reduceBy2 1 none 0 0 m_X1_reduceBy2 :=
  x_methI (ini := false) (bz := false) (Or.inr (Or.inr rfl)) ⟨fun _ => rfl, fun _ => rfl⟩ (fun h => by cases h) (by decide) (fun K C => bo_X1_reduceBy2 C)

def bd_X1_reduceBy5 : XS := (s_seq (s_ite (b_and (b_cmp0 r_eq0 (e_bin o_rem (e_fld 1 0 (e_al 0)) (e_lit 5))) (b_cmp0 r_eq0 (e_bin o_rem (e_fld 1 1 (e_al 0)) (e_lit 5)))) (s_seq (s_putop 1 0 o_div (e_al 0) (e_lit 5))
 (s_putop 1 1 o_div (e_al 0) (e_lit 5)))
 s_skip)
 s_retV)
def m_X1_reduceBy5 : XF := xM 1 0 1 true bd_X1_reduceBy5
theorem rc_X1_reduceBy5 : xRecv m_X1_reduceBy5 1 0 := xM_recv
set_option maxRecDepth 100000 in
set_option maxHeartbeats 4000000 in
theorem bo_X1_reduceBy5 {K : XK} (C : xOK K RX1 cX1_reduceBy5 false false 0 0) : CS K 0 bd_X1_reduceBy5 39 0 0 :=
 (cs_seq (p1 := 38) (cs_itf (pT := 18) (pF := 38) (cc_and (pM := 9) (cc_eq0N (p1 := 6) C (ce_bin (p1 := 4) (p2 := 5) (ce_fld C (ce_aln C dX1_reduceBy5_0 rfl) dX1_reduceBy5_1 fX1_51) (ce_iconst C dX1_reduceBy5_4 (by decide)) (ob_rem C dX1_reduceBy5_5)) dX1_reduceBy5_6 (by decide) rfl) (cc_eq0N (p1 := 15) C (ce_bin (p1 := 13) (p2 := 14) (ce_fld C (ce_aln C dX1_reduceBy5_9 rfl) dX1_reduceBy5_10 fX1_54) (ce_iconst C dX1_reduceBy5_13 (by decide)) (ob_rem C dX1_reduceBy5_14)) dX1_reduceBy5_15 (by decide) rfl)) (cs_seq (p1 := 28) (cs_putop (p1 := 19) (p2 := 24) C (ce_aln C dX1_reduceBy5_18 rfl) dX1_reduceBy5_19 dX1_reduceBy5_20 fX1_51 (ce_iconst C dX1_reduceBy5_23 (by decide)) (ob_div C dX1_reduceBy5_24) dX1_reduceBy5_25 pX1_51_false)
 (cs_putop (p1 := 29) (p2 := 34) C (ce_aln C dX1_reduceBy5_28 rfl) dX1_reduceBy5_29 dX1_reduceBy5_30 fX1_54 (ce_iconst C dX1_reduceBy5_33 (by decide)) (ob_div C dX1_reduceBy5_34) dX1_reduceBy5_35 pX1_54_false))
 cs_skip)
 (cs_retV C dX1_reduceBy5_38))
theorem good_X1_reduceBy5 : xGood yX1_reduceBy5 cX1_reduceBy5 1 none 0 0 m_X1_reduceBy5 :=
  x_methI (ini := false) (bz := false) (Or.inr (Or.inr rfl)) ⟨fun _ => rfl, fun _ => rfl⟩ (fun h => by cases h) (by decide) (fun K C => bo_X1_reduceBy5 C)

def lc_X1_reduceChanceOf_1 : XB := (b_cmp r_lt (e_il 3) (e_il 2))
def la_X1_reduceChanceOf_1 : XS := (s_putop 1 1 o_mul (e_al 0) (e_lit 10))
def lu_X1_reduceChanceOf_1 : XS := (s_inc 3 1)
def lc_X1_reduceChanceOf_2 : XB := (b_cmp r_lt (e_il 3) (e_il 2))
def la_X1_reduceChanceOf_2 : XS := (s_seq (s_call m_X1_reduceBy2 [(e_al 0)])
 (s_call m_X1_reduceBy5 [(e_al 0)]))
def lu_X1_reduceChanceOf_2 : XS := (s_inc 3 1)
def bd_X1_reduceChanceOf : XS := (s_seq (s_put 1 0 0 (e_al 0) (e_ald 0 (e_fld 1 2 (e_al 0)) (e_il 1)))
 (s_seq (s_put 1 1 0 (e_al 0) (e_lit 1))
 (s_seq (s_iasg 3 (e_lit 0))
 (s_seq (s_loop 1000 (lc_X1_reduceChanceOf_1) (la_X1_reduceChanceOf_1) (lu_X1_reduceChanceOf_1))
 (s_seq (s_iasg 3 (e_lit 0))
 (s_seq (s_loop 1000 (lc_X1_reduceChanceOf_2) (la_X1_reduceChanceOf_2) (lu_X1_reduceChanceOf_2))
 s_retV))))))
def m_X1_reduceChanceOf : XF := xM 1 2 4 true bd_X1_reduceChanceOf
theorem rc_X1_reduceChanceOf : xRecv m_X1_reduceChanceOf 1 2 := xM_recv
set_option maxRecDepth 100000 in
set_option maxHeartbeats 4000000 in
theorem bo_X1_reduceChanceOf {K : XK} (C : xOK K RX1 cX1_reduceChanceOf false false 1 20) : CS K 0 bd_X1_reduceChanceOf 61 0 0 :=
 (cs_seq (p1 := 10) (cs_put (p1 := 1) (p2 := 7) C (ce_aln C dX1_reduceChanceOf_0 rfl) (ce_iald (p1 := 5) (p2 := 6) C (ce_fld C (ce_aln C dX1_reduceChanceOf_1 rfl) dX1_reduceChanceOf_2 fX1_9) (ce_iln C dX1_reduceChanceOf_5 rfl) dX1_reduceChanceOf_6) dX1_reduceChanceOf_7 pX1_51_false)
 (cs_seq (p1 := 15) (cs_put (p1 := 11) (p2 := 12) C (ce_aln C dX1_reduceChanceOf_10 rfl) (ce_iconst C dX1_reduceChanceOf_11 (by decide)) dX1_reduceChanceOf_12 pX1_54_false)
 (cs_seq (p1 := 17) (cs_iasgn (p1 := 16) C (ce_iconst C dX1_reduceChanceOf_15 (by decide)) dX1_reduceChanceOf_16 rfl)
 (cs_seq (p1 := 39) (cs_loop (pB := 22) (pE := 39) (pu := 33) (p2 := 36) C (cc_ltN (p1 := 18) (p2 := 19) C (ce_iln C dX1_reduceChanceOf_17 rfl) (ce_iln C dX1_reduceChanceOf_18 rfl) dX1_reduceChanceOf_19 (by decide) rfl)
 (cs_putop (p1 := 23) (p2 := 29) C (ce_aln C dX1_reduceChanceOf_22 rfl) dX1_reduceChanceOf_23 dX1_reduceChanceOf_24 fX1_54 (ce_bipush C dX1_reduceChanceOf_27 (by decide)) (ob_mul C dX1_reduceChanceOf_29) dX1_reduceChanceOf_30 pX1_54_false)
 (cs_inc C dX1_reduceChanceOf_33 (by decide)) dX1_reduceChanceOf_36 (by decide))
 (cs_seq (p1 := 41) (cs_iasgn (p1 := 40) C (ce_iconst C dX1_reduceChanceOf_39 (by decide)) dX1_reduceChanceOf_40 rfl)
 (cs_seq (p1 := 60) (cs_loop (pB := 46) (pE := 60) (pu := 54) (p2 := 57) C (cc_ltN (p1 := 42) (p2 := 43) C (ce_iln C dX1_reduceChanceOf_41 rfl) (ce_iln C dX1_reduceChanceOf_42 rfl) dX1_reduceChanceOf_43 (by decide) rfl)
 (cs_seq (p1 := 50) (cs_call (p1 := 47) (ca_cons (p1 := 47) (ce_aln C dX1_reduceChanceOf_46 rfl) ca_nil) (xCal_V (ci := 1) C dX1_reduceChanceOf_47 wX1_reduceBy2 vX1_57 rfl rfl good_X1_reduceBy2 rc_X1_reduceBy2 (by decide) (by decide)))
 (cs_call (p1 := 51) (ca_cons (p1 := 51) (ce_aln C dX1_reduceChanceOf_50 rfl) ca_nil) (xCal_V (ci := 1) C dX1_reduceChanceOf_51 wX1_reduceBy5 vX1_60 rfl rfl good_X1_reduceBy5 rc_X1_reduceBy5 (by decide) (by decide))))
 (cs_inc C dX1_reduceChanceOf_54 (by decide)) dX1_reduceChanceOf_57 (by decide))
 (cs_retV C dX1_reduceChanceOf_60)))))))
theorem good_X1_reduceChanceOf : xGood yX1_reduceChanceOf cX1_reduceChanceOf 4 none 1 20 m_X1_reduceChanceOf :=
  x_methI (ini := false) (bz := false) (Or.inr (Or.inr rfl)) ⟨fun _ => rfl, fun _ => rfl⟩ (fun h => by cases h) (by decide) (fun K C => bo_X1_reduceChanceOf C)

def bd_X1_init : XS := (s_seq s_oinit
 (s_seq (s_put 1 2 2 (e_al 0) (e_newa 0 (e_lit 8)))
 (s_seq (s_put 1 3 2 (e_al 0) (e_newa 0 (e_lit 8)))
 s_retV)))
def m_X1_init : XF := xM 1 0 1 true bd_X1_init
theorem rc_X1_init : xRecv m_X1_init 1 0 := xM_recv
set_option maxRecDepth 100000 in
set_option maxHeartbeats 4000000 in
theorem bo_X1_init {K : XK} (C : xOK K RX1 cX1_init true false 1 12) : CS K 0 bd_X1_init 21 0 0 :=
 (cs_seq (p1 := 4) (cs_oinit C dX1_init_0 dX1_init_1 oiX1_3 xW_oi1 xW_oi2 (by decide) (by decide))
 (cs_seq (p1 := 12) (cs_put (p1 := 5) (p2 := 9) C (ce_aln C dX1_init_4 rfl) (ce_newi C (ce_bipush C dX1_init_5 (by decide)) dX1_init_7 xW_arri) dX1_init_9 pX1_9_true)
 (cs_seq (p1 := 20) (cs_put (p1 := 13) (p2 := 17) C (ce_aln C dX1_init_12 rfl) (ce_newi C (ce_bipush C dX1_init_13 (by decide)) dX1_init_15 xW_arri) dX1_init_17 pX1_15_true)
 (cs_retV C dX1_init_20))))
theorem good_X1_init : xGood yX1_init cX1_init 1 none 1 12 m_X1_init :=
  x_methI (ini := true) (bz := false) (Or.inr (Or.inr rfl)) ⟨fun _ => rfl, fun _ => rfl⟩ (fun _ => rfl) (by decide) (fun K C => bo_X1_init C)
