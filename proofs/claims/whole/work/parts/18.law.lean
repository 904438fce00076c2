/-! THE CLAIM OUT OF ONE WALK OF THE LAW'S BODY. Your part is whole_start (and what it stands on); all else here is the same for every law, but numbers. -/
def R_law : String := "StileAccountsLaw"
def lw_P (b : Addr) (xs : List Int32) (args : Array Value) (s : State) : Prop := args = #[.ref b] ∧ s.IntsAt b xs ∧ xs.length ≤ 384 ∧ (Jvm.Cond.and given_1 narrow_1).before args s = true
def lw_Q (_ : Array Value) (s : State) (o : Outcome) (t : State) : Prop := o = .returned (some (.int 1)) ∧ Framed s o t [] 600000 7302250
def lw_Z (below : List Frame) (a : Array Value) (s : State) : State → Prop := fun t => ∃ o, t.status = .running ∧ Ended t below o ∧ lw_Q a s o t
/-- the law's own end, with 1 on the stack, nothing written that was there before, its room as the claim has it -/
theorem lw_ret {p : Program} {l : Launch} {e : Env} {s : State} {m : MethodId} {below : List Frame} {meth : Method} {c : Code} {b : Nat} (hx : p.tables.exec = Jvm.exec) (hb : c.code = code) (hr : meth.sig.returnType = ret) (hlocks : meth.locks = false) {pc : Nat} {H : Heap} {ls : Array Slot} (hdg : decode code pc = .ok (.ireturn, 1)) : W p l e room_1 s m #[Value.ref b] below meth c H [] 600000 7302250 (lw_Z below #[Value.ref b] s) (F0 m pc ls [.int 1]) := by
  intro T hT X
  obtain ⟨fs, hret, hrun, hended, hW, hframe⟩ := X.leave (v := some (.int 1)) (hlocks := hlocks) (fun h => by rw [hr] at h; cases h)
  have hmeth' : T.vm.method? m = some meth := X.method'
  refine ⟨T.setFrames fs, ?_, .returned (some (.int 1)), hrun, hended, rfl, ⟨_, rfl⟩, hW, hframe⟩
  jvm_step X.here [X.here.top, hx, hb, hdg, hmeth', hr, ret, narrow_b1]
  (try refine ⟨rfl, ?_⟩); (try refine ⟨rfl, ?_⟩)
  first | (intro acts; rw [hret _ acts rfl rfl rfl]) | rw [hret _ _ rfl rfl rfl]
  exact Steps.refl _
/-- what holds at the law's entry: the machine, the code, the tables' words (any of lw_tbl by 'hts w (by decide +kernel)'), the script of L ints xs at the cell b, what the Statement gives of the start (any of its parts by flat_of_before) -/
def lw_At (p : Program) (s : State) (m : MethodId) (meth : Method) (c : Code) (b L : Nat) (xs : Nat → Int32) : Prop :=
  p.tables.exec = Jvm.exec ∧ c.code = code ∧ meth.sig.returnType = ret ∧ c.maxLocals = 4 ∧ s.vm.findClass R_law = some m.cls ∧ (∀ w ∈ lw_tbl, w.before #[Value.ref b] s = true) ∧ va_X b L xs s s.heap ∧ b < s.heap.size ∧ meth.locks = false ∧ (Jvm.Cond.and given_1 narrow_1).before #[Value.ref b] s = true
/-! THE LAW: its body, by program; the script's row -/
def XScr (K : XK) (bs L : Nat) (xs : Nat → Int32) : Prop := match K with
  | (fl, p, l, e, R, s, m, args, below, meth, c, b, D, cI, n0, s0, rv0, hF, Q) => fl = true → va_X bs L xs s s.heap ∧ bs < b ∧ bs < s.heap.size
def e_sclen (bs L : Nat) : XX := fun env h => match env[(0 : Nat)]? with
  | some (some (.retAddr a)) => if a = bs then some (.int (Int32.ofNat L), h) else none
  | _ => none
def e_scr (bs L : Nat) (xs : Nat → Int32) (i : XX) : XX := fun env h => match env[(0 : Nat)]? with
  | some (some (.retAddr a)) => if a = bs then (i env h).bind fun r => (x_int r.1).bind fun x => (x_ix x L).map fun j => (.int (xs j), r.2) else none
  | _ => none
theorem cs_brk0 {K : XK} {pe bk ct : Nat} : CS K bk s_brk pe bk ct := by
  intro env h o env' h' he k
  cases he
  exact k
section XLAW
variable {K : XK} {own : String} {cc : ByteArray} {ini bz : Bool} {fr lo d pc p2 bs L : Nat} {xs : Nat → Int32} {env : XE} {st : List Value} {h : XH}
theorem g_sld {i : Int32} (C : xOK K own cc ini bz fr lo) (S : XScr K bs L xs) (hd : decode cc pc = .ok (.iaload, 1)) (hi : vp_in i L) (k : xG K (pc + 1) env (.int (xs i.toNatClampNeg) :: st) h) : xG K pc env (.int i :: .retAddr bs :: st) h := by
  obtain ⟨fl, p, l, e, R, s, m, args, below, meth, c, b, D, cI, n0, s0, rv0, hF, Q⟩ := K
  refine And.intro k.1 (fun hf H locs ls h1 h2 h3 h4 h5 => ?_)
  obtain ⟨hx, hb, hown, hts, hK, hini, hbs, hrc, hrs, hfr, hlo, hex⟩ := C.1 hf
  obtain ⟨hX, hb1, hb2⟩ := S hf
  have hS : va_S (fun q => b ≤ q) s.heap H locs := ⟨by rw [h2.1, hbs]; have := h5.1; omega, fun q _ hq => h3 q (Nat.not_le.mp hq), h4⟩
  exact va_sld hx hb hX hb2 (fun z => absurd hb1 (Nat.not_lt.mpr z)) hS hi hd (k.2 hf H locs ls h1 h2 h3 h4 h5)
theorem g_slen (C : xOK K own cc ini bz fr lo) (S : XScr K bs L xs) (hd : decode cc pc = .ok (.arraylength, 1)) (k : xG K (pc + 1) env (.int (Int32.ofNat L) :: st) h) : xG K pc env (.retAddr bs :: st) h := by
  obtain ⟨fl, p, l, e, R, s, m, args, below, meth, c, b, D, cI, n0, s0, rv0, hF, Q⟩ := K
  refine And.intro k.1 (fun hf H locs ls h1 h2 h3 h4 h5 => ?_)
  obtain ⟨hx, hb, hown, hts, hK, hini, hbs, hrc, hrs, hfr, hlo, hex⟩ := C.1 hf
  obtain ⟨hX, hb1, hb2⟩ := S hf
  have hS : va_S (fun q => b ≤ q) s.heap H locs := ⟨by rw [h2.1, hbs]; have := h5.1; omega, fun q _ hq => h3 q (Nat.not_le.mp hq), h4⟩
  exact va_slen hx hb hX hb2 (fun z => absurd hb1 (Nat.not_lt.mpr z)) hS hd (k.2 hf H locs ls h1 h2 h3 h4 h5)
theorem ce_sclen (C : xOK K own cc ini bz fr lo) (S : XScr K bs L xs) (hd0 : decode cc pc = .ok (.aload_n 0, 1)) (hd : decode cc (pc + 1) = .ok (.arraylength, 1)) : CE K d pc (e_sclen bs L) (pc + 2) := by
  intro env h v h' he st hst k
  unfold e_sclen at he
  split at he
  · rename_i a ha
    split at he
    · rename_i hq
      subst hq
      cases he
      exact g_aload_nR C hd0 rfl ha (g_slen C S hd k)
    · cases he
  · cases he
theorem ce_scr {i : XX} (C : xOK K own cc ini bz fr lo) (S : XScr K bs L xs) (hd0 : decode cc pc = .ok (.aload_n 0, 1)) (hi : CE K (d + 2) (pc + 1) i p2) (hd : decode cc p2 = .ok (.iaload, 1)) : CE K d pc (e_scr bs L xs i) (p2 + 1) := by
  intro env h v h' he st hst k
  unfold e_scr at he
  split at he
  · rename_i a ha
    split at he
    · rename_i hq
      subst hq
      obtain ⟨⟨v1, hh⟩, e1, he2⟩ := Option.bind_eq_some_iff.mp he
      obtain ⟨x, e2, he3⟩ := Option.bind_eq_some_iff.mp he2
      obtain ⟨j, e3, he4⟩ := Option.map_eq_some_iff.mp he3
      cases he4
      have q1 := x_int_spec e2
      obtain ⟨q2, q3⟩ := x_ix_spec e3
      dsimp only at q1
      subst q1
      subst q3
      exact g_aload_nR C hd0 rfl ha (hi _ _ _ _ e1 _ (cat_cons _ hst) (g_sld C S hd q2 k))
    · cases he
  · cases he
end XLAW
theorem nL_7 : xNew RL 7 9 := ⟨_, rfl, (x_mem 82 (by decide +kernel) (by decide +kernel)), (x_mem 83 (by decide +kernel) (by decide +kernel)), (x_mem 64 (by decide +kernel) (by decide +kernel))⟩
theorem wX9_init : xCallW yX9_init cX9_init 1 none 0 := ⟨(x_mem 86 (by decide +kernel) (by decide +kernel)), (x_mem 64 (by decide +kernel) (by decide +kernel)), ⟨by decide +kernel, by decide +kernel⟩, by decide +kernel⟩
theorem vL_9 : xCallI RL 9 yX9_init := ⟨rfl, (x_mem 85 (by decide +kernel) (by decide +kernel)), Or.inl (x_mem 84 (by decide +kernel) (by decide +kernel))⟩
theorem nL_10 : xNew RL 10 10 := ⟨_, rfl, (x_mem 810 (by decide +kernel) (by decide +kernel)), (x_mem 811 (by decide +kernel) (by decide +kernel)), (x_mem 80 (by decide +kernel) (by decide +kernel))⟩
theorem wX10_init : xCallW yX10_init cX10_init 1 none 0 := ⟨(x_mem 814 (by decide +kernel) (by decide +kernel)), (x_mem 80 (by decide +kernel) (by decide +kernel)), ⟨by decide +kernel, by decide +kernel⟩, by decide +kernel⟩
theorem vL_12 : xCallI RL 12 yX10_init := ⟨rfl, (x_mem 813 (by decide +kernel) (by decide +kernel)), Or.inl (x_mem 812 (by decide +kernel) (by decide +kernel))⟩
theorem wX9_write : xCallW yX9_write cX9_write 2 (some .int) 1 := ⟨(x_mem 464 (by decide +kernel) (by decide +kernel)), (x_mem 64 (by decide +kernel) (by decide +kernel)), ⟨by decide +kernel, by decide +kernel⟩, by decide +kernel⟩
theorem vL_13 : xCallV RL 13 yX9_write := ⟨(x_mem 461 (by decide +kernel) (by decide +kernel)), (x_mem 462 (by decide +kernel) (by decide +kernel)), (x_mem 463 (by decide +kernel) (by decide +kernel))⟩
theorem wX10_write : xCallW yX10_write cX10_write 2 (some .int) 1 := ⟨(x_mem 916 (by decide +kernel) (by decide +kernel)), (x_mem 80 (by decide +kernel) (by decide +kernel)), ⟨by decide +kernel, by decide +kernel⟩, by decide +kernel⟩
theorem vL_17 : xCallV RL 17 yX10_write := ⟨(x_mem 913 (by decide +kernel) (by decide +kernel)), (x_mem 914 (by decide +kernel) (by decide +kernel)), (x_mem 915 (by decide +kernel) (by decide +kernel))⟩
theorem wX9_wipe : xCallW yX9_wipe cX9_wipe 2 (some .int) 0 := ⟨(x_mem 468 (by decide +kernel) (by decide +kernel)), (x_mem 64 (by decide +kernel) (by decide +kernel)), ⟨by decide +kernel, by decide +kernel⟩, by decide +kernel⟩
theorem vL_18 : xCallV RL 18 yX9_wipe := ⟨(x_mem 465 (by decide +kernel) (by decide +kernel)), (x_mem 466 (by decide +kernel) (by decide +kernel)), (x_mem 467 (by decide +kernel) (by decide +kernel))⟩
theorem wX10_wipe : xCallW yX10_wipe cX10_wipe 2 (some .int) 0 := ⟨(x_mem 925 (by decide +kernel) (by decide +kernel)), (x_mem 80 (by decide +kernel) (by decide +kernel)), ⟨by decide +kernel, by decide +kernel⟩, by decide +kernel⟩
theorem vL_22 : xCallV RL 22 yX10_wipe := ⟨(x_mem 922 (by decide +kernel) (by decide +kernel)), (x_mem 923 (by decide +kernel) (by decide +kernel)), (x_mem 924 (by decide +kernel) (by decide +kernel))⟩
theorem wX9_fault : xCallW yX9_fault cX9_fault 1 (some .int) 0 := ⟨(x_mem 472 (by decide +kernel) (by decide +kernel)), (x_mem 64 (by decide +kernel) (by decide +kernel)), ⟨by decide +kernel, by decide +kernel⟩, by decide +kernel⟩
theorem vL_23 : xCallV RL 23 yX9_fault := ⟨(x_mem 469 (by decide +kernel) (by decide +kernel)), (x_mem 470 (by decide +kernel) (by decide +kernel)), (x_mem 471 (by decide +kernel) (by decide +kernel))⟩
theorem wX10_fault : xCallW yX10_fault cX10_fault 1 (some .int) 0 := ⟨(x_mem 929 (by decide +kernel) (by decide +kernel)), (x_mem 80 (by decide +kernel) (by decide +kernel)), ⟨by decide +kernel, by decide +kernel⟩, by decide +kernel⟩
theorem vL_26 : xCallV RL 26 yX10_fault := ⟨(x_mem 926 (by decide +kernel) (by decide +kernel)), (x_mem 927 (by decide +kernel) (by decide +kernel)), (x_mem 928 (by decide +kernel) (by decide +kernel))⟩
theorem wX9_lay : xCallW yX9_lay cX9_lay 1 (some .int) 0 := ⟨(x_mem 476 (by decide +kernel) (by decide +kernel)), (x_mem 64 (by decide +kernel) (by decide +kernel)), ⟨by decide +kernel, by decide +kernel⟩, by decide +kernel⟩
theorem vL_27 : xCallV RL 27 yX9_lay := ⟨(x_mem 473 (by decide +kernel) (by decide +kernel)), (x_mem 474 (by decide +kernel) (by decide +kernel)), (x_mem 475 (by decide +kernel) (by decide +kernel))⟩
theorem wX10_lay : xCallW yX10_lay cX10_lay 1 (some .int) 0 := ⟨(x_mem 967 (by decide +kernel) (by decide +kernel)), (x_mem 80 (by decide +kernel) (by decide +kernel)), ⟨by decide +kernel, by decide +kernel⟩, by decide +kernel⟩
theorem vL_30 : xCallV RL 30 yX10_lay := ⟨(x_mem 964 (by decide +kernel) (by decide +kernel)), (x_mem 965 (by decide +kernel) (by decide +kernel)), (x_mem 966 (by decide +kernel) (by decide +kernel))⟩
theorem wX9_stile : xCallW yX9_stile cX9_stile 3 (some .int) 2 := ⟨(x_mem 480 (by decide +kernel) (by decide +kernel)), (x_mem 64 (by decide +kernel) (by decide +kernel)), ⟨by decide +kernel, by decide +kernel⟩, by decide +kernel⟩
theorem vL_31 : xCallV RL 31 yX9_stile := ⟨(x_mem 477 (by decide +kernel) (by decide +kernel)), (x_mem 478 (by decide +kernel) (by decide +kernel)), (x_mem 479 (by decide +kernel) (by decide +kernel))⟩
theorem wX10_stile : xCallW yX10_stile cX10_stile 3 (some .int) 2 := ⟨(x_mem 971 (by decide +kernel) (by decide +kernel)), (x_mem 80 (by decide +kernel) (by decide +kernel)), ⟨by decide +kernel, by decide +kernel⟩, by decide +kernel⟩
theorem vL_35 : xCallV RL 35 yX10_stile := ⟨(x_mem 968 (by decide +kernel) (by decide +kernel)), (x_mem 969 (by decide +kernel) (by decide +kernel)), (x_mem 970 (by decide +kernel) (by decide +kernel))⟩
theorem wX9_walker : xCallW yX9_walker cX9_walker 3 (some .int) 2 := ⟨(x_mem 492 (by decide +kernel) (by decide +kernel)), (x_mem 64 (by decide +kernel) (by decide +kernel)), ⟨by decide +kernel, by decide +kernel⟩, by decide +kernel⟩
theorem vL_36 : xCallV RL 36 yX9_walker := ⟨(x_mem 489 (by decide +kernel) (by decide +kernel)), (x_mem 490 (by decide +kernel) (by decide +kernel)), (x_mem 491 (by decide +kernel) (by decide +kernel))⟩
theorem wX10_walker : xCallW yX10_walker cX10_walker 3 (some .int) 2 := ⟨(x_mem 983 (by decide +kernel) (by decide +kernel)), (x_mem 80 (by decide +kernel) (by decide +kernel)), ⟨by decide +kernel, by decide +kernel⟩, by decide +kernel⟩
theorem vL_39 : xCallV RL 39 yX10_walker := ⟨(x_mem 980 (by decide +kernel) (by decide +kernel)), (x_mem 981 (by decide +kernel) (by decide +kernel)), (x_mem 982 (by decide +kernel) (by decide +kernel))⟩
theorem wX9_account : xCallW yX9_account cX9_account 3 (some .int) 2 := ⟨(x_mem 512 (by decide +kernel) (by decide +kernel)), (x_mem 64 (by decide +kernel) (by decide +kernel)), ⟨by decide +kernel, by decide +kernel⟩, by decide +kernel⟩
theorem vL_40 : xCallV RL 40 yX9_account := ⟨(x_mem 509 (by decide +kernel) (by decide +kernel)), (x_mem 510 (by decide +kernel) (by decide +kernel)), (x_mem 511 (by decide +kernel) (by decide +kernel))⟩
theorem wX10_account : xCallW yX10_account cX10_account 3 (some .int) 2 := ⟨(x_mem 995 (by decide +kernel) (by decide +kernel)), (x_mem 80 (by decide +kernel) (by decide +kernel)), ⟨by decide +kernel, by decide +kernel⟩, by decide +kernel⟩
theorem vL_43 : xCallV RL 43 yX10_account := ⟨(x_mem 992 (by decide +kernel) (by decide +kernel)), (x_mem 993 (by decide +kernel) (by decide +kernel)), (x_mem 994 (by decide +kernel) (by decide +kernel))⟩
theorem wX9_tread : xCallW yX9_tread cX9_tread 3 (some .int) 2 := ⟨(x_mem 517 (by decide +kernel) (by decide +kernel)), (x_mem 64 (by decide +kernel) (by decide +kernel)), ⟨by decide +kernel, by decide +kernel⟩, by decide +kernel⟩
theorem vL_44 : xCallV RL 44 yX9_tread := ⟨(x_mem 514 (by decide +kernel) (by decide +kernel)), (x_mem 515 (by decide +kernel) (by decide +kernel)), (x_mem 516 (by decide +kernel) (by decide +kernel))⟩
theorem wX10_tread : xCallW yX10_tread cX10_tread 3 (some .int) 2 := ⟨(x_mem 999 (by decide +kernel) (by decide +kernel)), (x_mem 80 (by decide +kernel) (by decide +kernel)), ⟨by decide +kernel, by decide +kernel⟩, by decide +kernel⟩
theorem vL_47 : xCallV RL 47 yX10_tread := ⟨(x_mem 996 (by decide +kernel) (by decide +kernel)), (x_mem 997 (by decide +kernel) (by decide +kernel)), (x_mem 998 (by decide +kernel) (by decide +kernel))⟩
theorem wX9_replace : xCallW yX9_replace cX9_replace 3 (some .int) 1 := ⟨(x_mem 570 (by decide +kernel) (by decide +kernel)), (x_mem 64 (by decide +kernel) (by decide +kernel)), ⟨by decide +kernel, by decide +kernel⟩, by decide +kernel⟩
theorem vL_48 : xCallV RL 48 yX9_replace := ⟨(x_mem 567 (by decide +kernel) (by decide +kernel)), (x_mem 568 (by decide +kernel) (by decide +kernel)), (x_mem 569 (by decide +kernel) (by decide +kernel))⟩
theorem wX10_replace : xCallW yX10_replace cX10_replace 3 (some .int) 1 := ⟨(x_mem 1035 (by decide +kernel) (by decide +kernel)), (x_mem 80 (by decide +kernel) (by decide +kernel)), ⟨by decide +kernel, by decide +kernel⟩, by decide +kernel⟩
theorem vL_51 : xCallV RL 51 yX10_replace := ⟨(x_mem 1032 (by decide +kernel) (by decide +kernel)), (x_mem 1033 (by decide +kernel) (by decide +kernel)), (x_mem 1034 (by decide +kernel) (by decide +kernel))⟩
theorem wX9_sand : xCallW yX9_sand cX9_sand 2 (some .int) 1 := ⟨(x_mem 575 (by decide +kernel) (by decide +kernel)), (x_mem 64 (by decide +kernel) (by decide +kernel)), ⟨by decide +kernel, by decide +kernel⟩, by decide +kernel⟩
theorem vL_52 : xCallV RL 52 yX9_sand := ⟨(x_mem 572 (by decide +kernel) (by decide +kernel)), (x_mem 573 (by decide +kernel) (by decide +kernel)), (x_mem 574 (by decide +kernel) (by decide +kernel))⟩
theorem wX10_sand : xCallW yX10_sand cX10_sand 2 (some .int) 1 := ⟨(x_mem 1043 (by decide +kernel) (by decide +kernel)), (x_mem 80 (by decide +kernel) (by decide +kernel)), ⟨by decide +kernel, by decide +kernel⟩, by decide +kernel⟩
theorem vL_55 : xCallV RL 55 yX10_sand := ⟨(x_mem 1040 (by decide +kernel) (by decide +kernel)), (x_mem 1041 (by decide +kernel) (by decide +kernel)), (x_mem 1042 (by decide +kernel) (by decide +kernel))⟩
theorem wX9_undo : xCallW yX9_undo cX9_undo 1 (some .int) 0 := ⟨(x_mem 580 (by decide +kernel) (by decide +kernel)), (x_mem 64 (by decide +kernel) (by decide +kernel)), ⟨by decide +kernel, by decide +kernel⟩, by decide +kernel⟩
theorem vL_56 : xCallV RL 56 yX9_undo := ⟨(x_mem 577 (by decide +kernel) (by decide +kernel)), (x_mem 578 (by decide +kernel) (by decide +kernel)), (x_mem 579 (by decide +kernel) (by decide +kernel))⟩
theorem wX10_undo : xCallW yX10_undo cX10_undo 1 (some .int) 0 := ⟨(x_mem 1047 (by decide +kernel) (by decide +kernel)), (x_mem 80 (by decide +kernel) (by decide +kernel)), ⟨by decide +kernel, by decide +kernel⟩, by decide +kernel⟩
theorem vL_59 : xCallV RL 59 yX10_undo := ⟨(x_mem 1044 (by decide +kernel) (by decide +kernel)), (x_mem 1045 (by decide +kernel) (by decide +kernel)), (x_mem 1046 (by decide +kernel) (by decide +kernel))⟩
theorem wX9_way : xCallW yX9_way cX9_way 6 (some .int) 3 := ⟨(x_mem 588 (by decide +kernel) (by decide +kernel)), (x_mem 64 (by decide +kernel) (by decide +kernel)), ⟨by decide +kernel, by decide +kernel⟩, by decide +kernel⟩
theorem vL_60 : xCallV RL 60 yX9_way := ⟨(x_mem 585 (by decide +kernel) (by decide +kernel)), (x_mem 586 (by decide +kernel) (by decide +kernel)), (x_mem 587 (by decide +kernel) (by decide +kernel))⟩
theorem wX10_way : xCallW yX10_way cX10_way 7 (some .int) 3 := ⟨(x_mem 1051 (by decide +kernel) (by decide +kernel)), (x_mem 80 (by decide +kernel) (by decide +kernel)), ⟨by decide +kernel, by decide +kernel⟩, by decide +kernel⟩
theorem vL_64 : xCallV RL 64 yX10_way := ⟨(x_mem 1048 (by decide +kernel) (by decide +kernel)), (x_mem 1049 (by decide +kernel) (by decide +kernel)), (x_mem 1050 (by decide +kernel) (by decide +kernel))⟩
theorem wX9_even : xCallW yX9_even cX9_even 2 (some .int) 1 := ⟨(x_mem 617 (by decide +kernel) (by decide +kernel)), (x_mem 64 (by decide +kernel) (by decide +kernel)), ⟨by decide +kernel, by decide +kernel⟩, by decide +kernel⟩
theorem vL_65 : xCallV RL 65 yX9_even := ⟨(x_mem 614 (by decide +kernel) (by decide +kernel)), (x_mem 615 (by decide +kernel) (by decide +kernel)), (x_mem 616 (by decide +kernel) (by decide +kernel))⟩
theorem wX10_even : xCallW yX10_even cX10_even 5 (some .int) 1 := ⟨(x_mem 1067 (by decide +kernel) (by decide +kernel)), (x_mem 80 (by decide +kernel) (by decide +kernel)), ⟨by decide +kernel, by decide +kernel⟩, by decide +kernel⟩
theorem vL_68 : xCallV RL 68 yX10_even := ⟨(x_mem 1064 (by decide +kernel) (by decide +kernel)), (x_mem 1065 (by decide +kernel) (by decide +kernel)), (x_mem 1066 (by decide +kernel) (by decide +kernel))⟩
theorem wX9_measure : xCallW yX9_measure cX9_measure 3 (some .int) 1 := ⟨(x_mem 656 (by decide +kernel) (by decide +kernel)), (x_mem 64 (by decide +kernel) (by decide +kernel)), ⟨by decide +kernel, by decide +kernel⟩, by decide +kernel⟩
theorem vL_69 : xCallV RL 69 yX9_measure := ⟨(x_mem 653 (by decide +kernel) (by decide +kernel)), (x_mem 654 (by decide +kernel) (by decide +kernel)), (x_mem 655 (by decide +kernel) (by decide +kernel))⟩
theorem wX10_measure : xCallW yX10_measure cX10_measure 6 (some .int) 1 := ⟨(x_mem 1094 (by decide +kernel) (by decide +kernel)), (x_mem 80 (by decide +kernel) (by decide +kernel)), ⟨by decide +kernel, by decide +kernel⟩, by decide +kernel⟩
theorem vL_72 : xCallV RL 72 yX10_measure := ⟨(x_mem 1091 (by decide +kernel) (by decide +kernel)), (x_mem 1092 (by decide +kernel) (by decide +kernel)), (x_mem 1093 (by decide +kernel) (by decide +kernel))⟩
theorem wX9_fresh : xCallW yX9_fresh cX9_fresh 3 (some .int) 1 := ⟨(x_mem 671 (by decide +kernel) (by decide +kernel)), (x_mem 64 (by decide +kernel) (by decide +kernel)), ⟨by decide +kernel, by decide +kernel⟩, by decide +kernel⟩
theorem vL_73 : xCallV RL 73 yX9_fresh := ⟨(x_mem 668 (by decide +kernel) (by decide +kernel)), (x_mem 669 (by decide +kernel) (by decide +kernel)), (x_mem 670 (by decide +kernel) (by decide +kernel))⟩
theorem wX10_fresh : xCallW yX10_fresh cX10_fresh 8 (some .int) 1 := ⟨(x_mem 1102 (by decide +kernel) (by decide +kernel)), (x_mem 80 (by decide +kernel) (by decide +kernel)), ⟨by decide +kernel, by decide +kernel⟩, by decide +kernel⟩
theorem vL_76 : xCallV RL 76 yX10_fresh := ⟨(x_mem 1099 (by decide +kernel) (by decide +kernel)), (x_mem 1100 (by decide +kernel) (by decide +kernel)), (x_mem 1101 (by decide +kernel) (by decide +kernel))⟩
theorem wX9_lasts : xCallW yX9_lasts cX9_lasts 4 (some .int) 2 := ⟨(x_mem 692 (by decide +kernel) (by decide +kernel)), (x_mem 64 (by decide +kernel) (by decide +kernel)), ⟨by decide +kernel, by decide +kernel⟩, by decide +kernel⟩
theorem vL_77 : xCallV RL 77 yX9_lasts := ⟨(x_mem 689 (by decide +kernel) (by decide +kernel)), (x_mem 690 (by decide +kernel) (by decide +kernel)), (x_mem 691 (by decide +kernel) (by decide +kernel))⟩
theorem wX10_lasts : xCallW yX10_lasts cX10_lasts 5 (some .int) 2 := ⟨(x_mem 1114 (by decide +kernel) (by decide +kernel)), (x_mem 80 (by decide +kernel) (by decide +kernel)), ⟨by decide +kernel, by decide +kernel⟩, by decide +kernel⟩
theorem vL_80 : xCallV RL 80 yX10_lasts := ⟨(x_mem 1111 (by decide +kernel) (by decide +kernel)), (x_mem 1112 (by decide +kernel) (by decide +kernel)), (x_mem 1113 (by decide +kernel) (by decide +kernel))⟩
theorem wX9_richest : xCallW yX9_richest cX9_richest 3 (some .int) 0 := ⟨(x_mem 697 (by decide +kernel) (by decide +kernel)), (x_mem 64 (by decide +kernel) (by decide +kernel)), ⟨by decide +kernel, by decide +kernel⟩, by decide +kernel⟩
theorem vL_81 : xCallV RL 81 yX9_richest := ⟨(x_mem 694 (by decide +kernel) (by decide +kernel)), (x_mem 695 (by decide +kernel) (by decide +kernel)), (x_mem 696 (by decide +kernel) (by decide +kernel))⟩
theorem wX10_richest : xCallW yX10_richest cX10_richest 3 (some .int) 0 := ⟨(x_mem 1118 (by decide +kernel) (by decide +kernel)), (x_mem 80 (by decide +kernel) (by decide +kernel)), ⟨by decide +kernel, by decide +kernel⟩, by decide +kernel⟩
theorem vL_84 : xCallV RL 84 yX10_richest := ⟨(x_mem 1115 (by decide +kernel) (by decide +kernel)), (x_mem 1116 (by decide +kernel) (by decide +kernel)), (x_mem 1117 (by decide +kernel) (by decide +kernel))⟩
theorem wX9_see : xCallW yX9_see cX9_see 3 (some .int) 2 := ⟨(x_mem 701 (by decide +kernel) (by decide +kernel)), (x_mem 64 (by decide +kernel) (by decide +kernel)), ⟨by decide +kernel, by decide +kernel⟩, by decide +kernel⟩
theorem vL_85 : xCallV RL 85 yX9_see := ⟨(x_mem 698 (by decide +kernel) (by decide +kernel)), (x_mem 699 (by decide +kernel) (by decide +kernel)), (x_mem 700 (by decide +kernel) (by decide +kernel))⟩
theorem wX10_see : xCallW yX10_see cX10_see 3 (some .int) 2 := ⟨(x_mem 1122 (by decide +kernel) (by decide +kernel)), (x_mem 80 (by decide +kernel) (by decide +kernel)), ⟨by decide +kernel, by decide +kernel⟩, by decide +kernel⟩
theorem vL_88 : xCallV RL 88 yX10_see := ⟨(x_mem 1119 (by decide +kernel) (by decide +kernel)), (x_mem 1120 (by decide +kernel) (by decide +kernel)), (x_mem 1121 (by decide +kernel) (by decide +kernel))⟩
theorem wX9_forget : xCallW yX9_forget cX9_forget 2 (some .int) 0 := ⟨(x_mem 709 (by decide +kernel) (by decide +kernel)), (x_mem 64 (by decide +kernel) (by decide +kernel)), ⟨by decide +kernel, by decide +kernel⟩, by decide +kernel⟩
theorem vL_89 : xCallV RL 89 yX9_forget := ⟨(x_mem 706 (by decide +kernel) (by decide +kernel)), (x_mem 707 (by decide +kernel) (by decide +kernel)), (x_mem 708 (by decide +kernel) (by decide +kernel))⟩
theorem wX10_forget : xCallW yX10_forget cX10_forget 2 (some .int) 0 := ⟨(x_mem 1127 (by decide +kernel) (by decide +kernel)), (x_mem 80 (by decide +kernel) (by decide +kernel)), ⟨by decide +kernel, by decide +kernel⟩, by decide +kernel⟩
theorem vL_92 : xCallV RL 92 yX10_forget := ⟨(x_mem 1124 (by decide +kernel) (by decide +kernel)), (x_mem 1125 (by decide +kernel) (by decide +kernel)), (x_mem 1126 (by decide +kernel) (by decide +kernel))⟩
theorem wX9_whose : xCallW yX9_whose cX9_whose 4 (some .int) 1 := ⟨(x_mem 713 (by decide +kernel) (by decide +kernel)), (x_mem 64 (by decide +kernel) (by decide +kernel)), ⟨by decide +kernel, by decide +kernel⟩, by decide +kernel⟩
theorem vL_93 : xCallV RL 93 yX9_whose := ⟨(x_mem 710 (by decide +kernel) (by decide +kernel)), (x_mem 711 (by decide +kernel) (by decide +kernel)), (x_mem 712 (by decide +kernel) (by decide +kernel))⟩
theorem wX10_whose : xCallW yX10_whose cX10_whose 6 (some .int) 1 := ⟨(x_mem 1131 (by decide +kernel) (by decide +kernel)), (x_mem 80 (by decide +kernel) (by decide +kernel)), ⟨by decide +kernel, by decide +kernel⟩, by decide +kernel⟩
theorem vL_96 : xCallV RL 96 yX10_whose := ⟨(x_mem 1128 (by decide +kernel) (by decide +kernel)), (x_mem 1129 (by decide +kernel) (by decide +kernel)), (x_mem 1130 (by decide +kernel) (by decide +kernel))⟩
theorem wX9_often : xCallW yX9_often cX9_often 4 (some .int) 3 := ⟨(x_mem 726 (by decide +kernel) (by decide +kernel)), (x_mem 64 (by decide +kernel) (by decide +kernel)), ⟨by decide +kernel, by decide +kernel⟩, by decide +kernel⟩
theorem vL_97 : xCallV RL 97 yX9_often := ⟨(x_mem 723 (by decide +kernel) (by decide +kernel)), (x_mem 724 (by decide +kernel) (by decide +kernel)), (x_mem 725 (by decide +kernel) (by decide +kernel))⟩
theorem wX10_often : xCallW yX10_often cX10_often 4 (some .int) 3 := ⟨(x_mem 1139 (by decide +kernel) (by decide +kernel)), (x_mem 80 (by decide +kernel) (by decide +kernel)), ⟨by decide +kernel, by decide +kernel⟩, by decide +kernel⟩
theorem vL_100 : xCallV RL 100 yX10_often := ⟨(x_mem 1136 (by decide +kernel) (by decide +kernel)), (x_mem 1137 (by decide +kernel) (by decide +kernel)), (x_mem 1138 (by decide +kernel) (by decide +kernel))⟩
theorem wX9_drunk : xCallW yX9_drunk cX9_drunk 6 (some .int) 5 := ⟨(x_mem 731 (by decide +kernel) (by decide +kernel)), (x_mem 64 (by decide +kernel) (by decide +kernel)), ⟨by decide +kernel, by decide +kernel⟩, by decide +kernel⟩
theorem vL_101 : xCallV RL 101 yX9_drunk := ⟨(x_mem 728 (by decide +kernel) (by decide +kernel)), (x_mem 729 (by decide +kernel) (by decide +kernel)), (x_mem 730 (by decide +kernel) (by decide +kernel))⟩
theorem wX10_drunk : xCallW yX10_drunk cX10_drunk 13 (some .int) 5 := ⟨(x_mem 1143 (by decide +kernel) (by decide +kernel)), (x_mem 80 (by decide +kernel) (by decide +kernel)), ⟨by decide +kernel, by decide +kernel⟩, by decide +kernel⟩
theorem vL_105 : xCallV RL 105 yX10_drunk := ⟨(x_mem 1140 (by decide +kernel) (by decide +kernel)), (x_mem 1141 (by decide +kernel) (by decide +kernel)), (x_mem 1142 (by decide +kernel) (by decide +kernel))⟩
theorem wX9_year : xCallW yX9_year cX9_year 5 (some .int) 3 := ⟨(x_mem 766 (by decide +kernel) (by decide +kernel)), (x_mem 64 (by decide +kernel) (by decide +kernel)), ⟨by decide +kernel, by decide +kernel⟩, by decide +kernel⟩
theorem vL_106 : xCallV RL 106 yX9_year := ⟨(x_mem 763 (by decide +kernel) (by decide +kernel)), (x_mem 764 (by decide +kernel) (by decide +kernel)), (x_mem 765 (by decide +kernel) (by decide +kernel))⟩
theorem wX10_year : xCallW yX10_year cX10_year 11 (some .int) 3 := ⟨(x_mem 1157 (by decide +kernel) (by decide +kernel)), (x_mem 80 (by decide +kernel) (by decide +kernel)), ⟨by decide +kernel, by decide +kernel⟩, by decide +kernel⟩
theorem vL_109 : xCallV RL 109 yX10_year := ⟨(x_mem 1154 (by decide +kernel) (by decide +kernel)), (x_mem 1155 (by decide +kernel) (by decide +kernel)), (x_mem 1156 (by decide +kernel) (by decide +kernel))⟩
theorem wX9_keep : xCallW yX9_keep cX9_keep 1 (some .int) 0 := ⟨(x_mem 796 (by decide +kernel) (by decide +kernel)), (x_mem 64 (by decide +kernel) (by decide +kernel)), ⟨by decide +kernel, by decide +kernel⟩, by decide +kernel⟩
theorem vL_110 : xCallV RL 110 yX9_keep := ⟨(x_mem 793 (by decide +kernel) (by decide +kernel)), (x_mem 794 (by decide +kernel) (by decide +kernel)), (x_mem 795 (by decide +kernel) (by decide +kernel))⟩
theorem wX10_keep : xCallW yX10_keep cX10_keep 1 (some .int) 0 := ⟨(x_mem 1178 (by decide +kernel) (by decide +kernel)), (x_mem 80 (by decide +kernel) (by decide +kernel)), ⟨by decide +kernel, by decide +kernel⟩, by decide +kernel⟩
theorem vL_113 : xCallV RL 113 yX10_keep := ⟨(x_mem 1175 (by decide +kernel) (by decide +kernel)), (x_mem 1176 (by decide +kernel) (by decide +kernel)), (x_mem 1177 (by decide +kernel) (by decide +kernel))⟩
theorem wX9_back : xCallW yX9_back cX9_back 1 (some .int) 0 := ⟨(x_mem 801 (by decide +kernel) (by decide +kernel)), (x_mem 64 (by decide +kernel) (by decide +kernel)), ⟨by decide +kernel, by decide +kernel⟩, by decide +kernel⟩
theorem vL_114 : xCallV RL 114 yX9_back := ⟨(x_mem 798 (by decide +kernel) (by decide +kernel)), (x_mem 799 (by decide +kernel) (by decide +kernel)), (x_mem 800 (by decide +kernel) (by decide +kernel))⟩
theorem wX10_back : xCallW yX10_back cX10_back 1 (some .int) 0 := ⟨(x_mem 1182 (by decide +kernel) (by decide +kernel)), (x_mem 80 (by decide +kernel) (by decide +kernel)), ⟨by decide +kernel, by decide +kernel⟩, by decide +kernel⟩
theorem vL_117 : xCallV RL 117 yX10_back := ⟨(x_mem 1179 (by decide +kernel) (by decide +kernel)), (x_mem 1180 (by decide +kernel) (by decide +kernel)), (x_mem 1181 (by decide +kernel) (by decide +kernel))⟩
theorem wX9_count : xCallW yX9_count cX9_count 2 (some .int) 1 := ⟨(x_mem 805 (by decide +kernel) (by decide +kernel)), (x_mem 64 (by decide +kernel) (by decide +kernel)), ⟨by decide +kernel, by decide +kernel⟩, by decide +kernel⟩
theorem vL_118 : xCallV RL 118 yX9_count := ⟨(x_mem 802 (by decide +kernel) (by decide +kernel)), (x_mem 803 (by decide +kernel) (by decide +kernel)), (x_mem 804 (by decide +kernel) (by decide +kernel))⟩
theorem wX10_count : xCallW yX10_count cX10_count 2 (some .int) 1 := ⟨(x_mem 1186 (by decide +kernel) (by decide +kernel)), (x_mem 80 (by decide +kernel) (by decide +kernel)), ⟨by decide +kernel, by decide +kernel⟩, by decide +kernel⟩
theorem vL_121 : xCallV RL 121 yX10_count := ⟨(x_mem 1183 (by decide +kernel) (by decide +kernel)), (x_mem 1184 (by decide +kernel) (by decide +kernel)), (x_mem 1185 (by decide +kernel) (by decide +kernel))⟩
def lc_L_law_1 (bs L : Nat) (xs : Nat → Int32) : XB := (b_cmp r_le (e_il 3) (e_bin o_sub (e_sclen bs L) (e_lit 6)))
def la_L_law_1 (bs L : Nat) (xs : Nat → Int32) : XS := (s_sw (e_bin o_and (e_scr bs L xs (e_il 3)) (e_lit 31)) [(0, (s_ite (b_cmp r_ne (e_call m_X9_write [(e_al 1), (e_scr bs L xs (e_bin o_add (e_il 3) (e_lit 1)))]) (e_call m_X10_write [(e_al 2), (e_scr bs L xs (e_bin o_add (e_il 3) (e_lit 1)))])) (s_retZ (e_lit 0))
 s_brk)),
 (1, (s_ite (b_cmp r_ne (e_call m_X9_wipe [(e_al 1)]) (e_call m_X10_wipe [(e_al 2)])) (s_retZ (e_lit 0))
 s_brk)),
 (2, (s_ite (b_cmp r_ne (e_call m_X9_fault [(e_al 1)]) (e_call m_X10_fault [(e_al 2)])) (s_retZ (e_lit 0))
 s_brk)),
 (3, (s_ite (b_cmp r_ne (e_call m_X9_lay [(e_al 1)]) (e_call m_X10_lay [(e_al 2)])) (s_retZ (e_lit 0))
 s_brk)),
 (4, (s_ite (b_cmp r_ne (e_call m_X9_stile [(e_al 1), (e_scr bs L xs (e_bin o_add (e_il 3) (e_lit 1))), (e_scr bs L xs (e_bin o_add (e_il 3) (e_lit 2)))]) (e_call m_X10_stile [(e_al 2), (e_scr bs L xs (e_bin o_add (e_il 3) (e_lit 1))), (e_scr bs L xs (e_bin o_add (e_il 3) (e_lit 2)))])) (s_retZ (e_lit 0))
 s_brk)),
 (5, (s_ite (b_cmp r_ne (e_call m_X9_walker [(e_al 1), (e_scr bs L xs (e_bin o_add (e_il 3) (e_lit 1))), (e_scr bs L xs (e_bin o_add (e_il 3) (e_lit 2)))]) (e_call m_X10_walker [(e_al 2), (e_scr bs L xs (e_bin o_add (e_il 3) (e_lit 1))), (e_scr bs L xs (e_bin o_add (e_il 3) (e_lit 2)))])) (s_retZ (e_lit 0))
 s_brk)),
 (6, (s_ite (b_cmp r_ne (e_call m_X9_account [(e_al 1), (e_scr bs L xs (e_bin o_add (e_il 3) (e_lit 1))), (e_scr bs L xs (e_bin o_add (e_il 3) (e_lit 2)))]) (e_call m_X10_account [(e_al 2), (e_scr bs L xs (e_bin o_add (e_il 3) (e_lit 1))), (e_scr bs L xs (e_bin o_add (e_il 3) (e_lit 2)))])) (s_retZ (e_lit 0))
 s_brk)),
 (7, (s_ite (b_cmp r_ne (e_call m_X9_tread [(e_al 1), (e_scr bs L xs (e_bin o_add (e_il 3) (e_lit 1))), (e_scr bs L xs (e_bin o_add (e_il 3) (e_lit 2)))]) (e_call m_X10_tread [(e_al 2), (e_scr bs L xs (e_bin o_add (e_il 3) (e_lit 1))), (e_scr bs L xs (e_bin o_add (e_il 3) (e_lit 2)))])) (s_retZ (e_lit 0))
 s_brk)),
 (8, (s_ite (b_cmp r_ne (e_call m_X9_replace [(e_al 1), (e_scr bs L xs (e_bin o_add (e_il 3) (e_lit 1)))]) (e_call m_X10_replace [(e_al 2), (e_scr bs L xs (e_bin o_add (e_il 3) (e_lit 1)))])) (s_retZ (e_lit 0))
 s_brk)),
 (9, (s_ite (b_cmp r_ne (e_call m_X9_sand [(e_al 1), (e_scr bs L xs (e_bin o_add (e_il 3) (e_lit 1)))]) (e_call m_X10_sand [(e_al 2), (e_scr bs L xs (e_bin o_add (e_il 3) (e_lit 1)))])) (s_retZ (e_lit 0))
 s_brk)),
 (10, (s_ite (b_cmp r_ne (e_call m_X9_undo [(e_al 1)]) (e_call m_X10_undo [(e_al 2)])) (s_retZ (e_lit 0))
 s_brk)),
 (11, (s_ite (b_cmp r_ne (e_call m_X9_way [(e_al 1), (e_scr bs L xs (e_bin o_add (e_il 3) (e_lit 1))), (e_scr bs L xs (e_bin o_add (e_il 3) (e_lit 2))), (e_scr bs L xs (e_bin o_add (e_il 3) (e_lit 3)))]) (e_call m_X10_way [(e_al 2), (e_scr bs L xs (e_bin o_add (e_il 3) (e_lit 1))), (e_scr bs L xs (e_bin o_add (e_il 3) (e_lit 2))), (e_scr bs L xs (e_bin o_add (e_il 3) (e_lit 3)))])) (s_retZ (e_lit 0))
 s_brk)),
 (12, (s_ite (b_cmp r_ne (e_call m_X9_even [(e_al 1), (e_scr bs L xs (e_bin o_add (e_il 3) (e_lit 1)))]) (e_call m_X10_even [(e_al 2), (e_scr bs L xs (e_bin o_add (e_il 3) (e_lit 1)))])) (s_retZ (e_lit 0))
 s_brk)),
 (13, (s_ite (b_cmp r_ne (e_call m_X9_measure [(e_al 1), (e_scr bs L xs (e_bin o_add (e_il 3) (e_lit 1)))]) (e_call m_X10_measure [(e_al 2), (e_scr bs L xs (e_bin o_add (e_il 3) (e_lit 1)))])) (s_retZ (e_lit 0))
 s_brk)),
 (14, (s_ite (b_cmp r_ne (e_call m_X9_fresh [(e_al 1), (e_scr bs L xs (e_bin o_add (e_il 3) (e_lit 1)))]) (e_call m_X10_fresh [(e_al 2), (e_scr bs L xs (e_bin o_add (e_il 3) (e_lit 1)))])) (s_retZ (e_lit 0))
 s_brk)),
 (15, (s_ite (b_cmp r_ne (e_call m_X9_lasts [(e_al 1), (e_scr bs L xs (e_bin o_add (e_il 3) (e_lit 1))), (e_scr bs L xs (e_bin o_add (e_il 3) (e_lit 2)))]) (e_call m_X10_lasts [(e_al 2), (e_scr bs L xs (e_bin o_add (e_il 3) (e_lit 1))), (e_scr bs L xs (e_bin o_add (e_il 3) (e_lit 2)))])) (s_retZ (e_lit 0))
 s_brk)),
 (16, (s_ite (b_cmp r_ne (e_call m_X9_richest [(e_al 1)]) (e_call m_X10_richest [(e_al 2)])) (s_retZ (e_lit 0))
 s_brk)),
 (17, (s_ite (b_cmp r_ne (e_call m_X9_see [(e_al 1), (e_scr bs L xs (e_bin o_add (e_il 3) (e_lit 1))), (e_scr bs L xs (e_bin o_add (e_il 3) (e_lit 2)))]) (e_call m_X10_see [(e_al 2), (e_scr bs L xs (e_bin o_add (e_il 3) (e_lit 1))), (e_scr bs L xs (e_bin o_add (e_il 3) (e_lit 2)))])) (s_retZ (e_lit 0))
 s_brk)),
 (18, (s_ite (b_cmp r_ne (e_call m_X9_forget [(e_al 1)]) (e_call m_X10_forget [(e_al 2)])) (s_retZ (e_lit 0))
 s_brk)),
 (19, (s_ite (b_cmp r_ne (e_call m_X9_whose [(e_al 1), (e_scr bs L xs (e_bin o_add (e_il 3) (e_lit 1)))]) (e_call m_X10_whose [(e_al 2), (e_scr bs L xs (e_bin o_add (e_il 3) (e_lit 1)))])) (s_retZ (e_lit 0))
 s_brk)),
 (20, (s_ite (b_cmp r_ne (e_call m_X9_often [(e_al 1), (e_scr bs L xs (e_bin o_add (e_il 3) (e_lit 1))), (e_scr bs L xs (e_bin o_add (e_il 3) (e_lit 2))), (e_scr bs L xs (e_bin o_add (e_il 3) (e_lit 3)))]) (e_call m_X10_often [(e_al 2), (e_scr bs L xs (e_bin o_add (e_il 3) (e_lit 1))), (e_scr bs L xs (e_bin o_add (e_il 3) (e_lit 2))), (e_scr bs L xs (e_bin o_add (e_il 3) (e_lit 3)))])) (s_retZ (e_lit 0))
 s_brk)),
 (21, (s_ite (b_cmp r_ne (e_call m_X9_drunk [(e_al 1), (e_scr bs L xs (e_bin o_add (e_il 3) (e_lit 1))), (e_scr bs L xs (e_bin o_add (e_il 3) (e_lit 2))), (e_scr bs L xs (e_bin o_add (e_il 3) (e_lit 3))), (e_scr bs L xs (e_bin o_add (e_il 3) (e_lit 4))), (e_scr bs L xs (e_bin o_add (e_il 3) (e_lit 5)))]) (e_call m_X10_drunk [(e_al 2), (e_scr bs L xs (e_bin o_add (e_il 3) (e_lit 1))), (e_scr bs L xs (e_bin o_add (e_il 3) (e_lit 2))), (e_scr bs L xs (e_bin o_add (e_il 3) (e_lit 3))), (e_scr bs L xs (e_bin o_add (e_il 3) (e_lit 4))), (e_scr bs L xs (e_bin o_add (e_il 3) (e_lit 5)))])) (s_retZ (e_lit 0))
 s_brk)),
 (22, (s_ite (b_cmp r_ne (e_call m_X9_year [(e_al 1), (e_scr bs L xs (e_bin o_add (e_il 3) (e_lit 1))), (e_scr bs L xs (e_bin o_add (e_il 3) (e_lit 2))), (e_scr bs L xs (e_bin o_add (e_il 3) (e_lit 3)))]) (e_call m_X10_year [(e_al 2), (e_scr bs L xs (e_bin o_add (e_il 3) (e_lit 1))), (e_scr bs L xs (e_bin o_add (e_il 3) (e_lit 2))), (e_scr bs L xs (e_bin o_add (e_il 3) (e_lit 3)))])) (s_retZ (e_lit 0))
 s_brk)),
 (23, (s_ite (b_cmp r_ne (e_call m_X9_keep [(e_al 1)]) (e_call m_X10_keep [(e_al 2)])) (s_retZ (e_lit 0))
 s_brk)),
 (24, (s_ite (b_cmp r_ne (e_call m_X9_back [(e_al 1)]) (e_call m_X10_back [(e_al 2)])) (s_retZ (e_lit 0))
 s_brk)),
 (25, (s_ite (b_cmp r_ne (e_call m_X9_count [(e_al 1), (e_scr bs L xs (e_bin o_add (e_il 3) (e_lit 1)))]) (e_call m_X10_count [(e_al 2), (e_scr bs L xs (e_bin o_add (e_il 3) (e_lit 1)))])) (s_retZ (e_lit 0))
 s_brk))]
 s_skip)
def lu_L_law_1 (bs L : Nat) (xs : Nat → Int32) : XS := (s_inc 3 6)
def bd_L_law (bs L : Nat) (xs : Nat → Int32) : XS := (s_seq (s_aasg 1 (e_new 9 m_X9_init []))
 (s_seq (s_aasg 2 (e_new 10 m_X10_init []))
 (s_seq (s_iasg 3 (e_lit 0))
 (s_seq (s_loop 1000 (lc_L_law_1 bs L xs) (la_L_law_1 bs L xs) (lu_L_law_1 bs L xs))
 (s_retZ (e_lit 1))))))
set_option maxRecDepth 100000 in
set_option maxHeartbeats 4000000 in
theorem bo_L_law {K : XK} {bs L : Nat} {xs : Nat → Int32} (C : xOK K RL cL_law false true 6 146) (S : XScr K bs L xs) : CS K 0 (bd_L_law bs L xs) 838 0 0 :=
 (cs_seq (p1 := 8) (cs_aasgn (p1 := 7) C (ce_new (p1 := 4) C dL_law_0 nL_7 dL_law_3 ca_nil (xCal_I (ci := 9) C dL_law_4 wX9_init vL_9 good_X9_init rc_X9_init (by decide) (by decide)) (by decide)) dL_law_7 rfl)
 (cs_seq (p1 := 16) (cs_aasgn (p1 := 15) C (ce_new (p1 := 12) C dL_law_8 nL_10 dL_law_11 ca_nil (xCal_I (ci := 10) C dL_law_12 wX10_init vL_12 good_X10_init rc_X10_init (by decide) (by decide)) (by decide)) dL_law_15 rfl)
 (cs_seq (p1 := 18) (cs_iasgn (p1 := 17) C (ce_iconst C dL_law_16 (by decide)) dL_law_17 rfl)
 (cs_seq (p1 := 836) (cs_loop (pB := 27) (pE := 836) (pu := 830) (p2 := 833) C (cc_leN (p1 := 19) (p2 := 24) C (ce_iln C dL_law_18 rfl) (ce_bin (p1 := 21) (p2 := 23) (ce_sclen C S dL_law_19 dL_law_20) (ce_bipush C dL_law_21 (by decide)) (ob_sub C dL_law_23)) dL_law_24 (by decide) rfl)
 (cs_table (p1 := 33) (ts := [152, 175, 188, 201, 214, 247, 280, 313, 346, 369, 392, 405, 448, 471, 494, 517, 550, 563, 596, 609, 632, 675, 738, 781, 794, 807]) (td := 830) C (ce_bin (p1 := 30) (p2 := 32) (ce_scr (p2 := 29) C S dL_law_27 (ce_iln C dL_law_28 rfl) dL_law_29) (ce_bipush C dL_law_30 (by decide)) (ob_and C dL_law_32)) dL_law_33 rfl (by decide) (by decide) (by decide) ⟨(cs_itf (pT := 173) (pF := 830) (cc_neN (p1 := 161) (p2 := 170) C (ce_call (p1 := 158) (ca_cons (p1 := 153) (ce_aln C dL_law_152 rfl) (ca_cons (p1 := 158) (ce_scr (p2 := 157) C S dL_law_153 (ce_bin (p1 := 155) (p2 := 156) (ce_iln C dL_law_154 rfl) (ce_iconst C dL_law_155 (by decide)) (ob_add C dL_law_156)) dL_law_157) ca_nil)) (xCal_V (ci := 9) C dL_law_158 wX9_write vL_13 rfl rfl good_X9_write rc_X9_write (by decide) (by decide)) (by decide)) (ce_call (p1 := 167) (ca_cons (p1 := 162) (ce_aln C dL_law_161 rfl) (ca_cons (p1 := 167) (ce_scr (p2 := 166) C S dL_law_162 (ce_bin (p1 := 164) (p2 := 165) (ce_iln C dL_law_163 rfl) (ce_iconst C dL_law_164 (by decide)) (ob_add C dL_law_165)) dL_law_166) ca_nil)) (xCal_V (ci := 10) C dL_law_167 wX10_write vL_17 rfl rfl good_X10_write rc_X10_write (by decide) (by decide)) (by decide)) dL_law_170 (by decide) rfl) (cs_retZ (p1 := 174) C (ce_iconst C dL_law_173 (by decide)) dL_law_174)
 cs_brk0),
 (cs_itf (pT := 186) (pF := 830) (cc_neN (p1 := 179) (p2 := 183) C (ce_call (p1 := 176) (ca_cons (p1 := 176) (ce_aln C dL_law_175 rfl) ca_nil) (xCal_V (ci := 9) C dL_law_176 wX9_wipe vL_18 rfl rfl good_X9_wipe rc_X9_wipe (by decide) (by decide)) (by decide)) (ce_call (p1 := 180) (ca_cons (p1 := 180) (ce_aln C dL_law_179 rfl) ca_nil) (xCal_V (ci := 10) C dL_law_180 wX10_wipe vL_22 rfl rfl good_X10_wipe rc_X10_wipe (by decide) (by decide)) (by decide)) dL_law_183 (by decide) rfl) (cs_retZ (p1 := 187) C (ce_iconst C dL_law_186 (by decide)) dL_law_187)
 cs_brk0),
 (cs_itf (pT := 199) (pF := 830) (cc_neN (p1 := 192) (p2 := 196) C (ce_call (p1 := 189) (ca_cons (p1 := 189) (ce_aln C dL_law_188 rfl) ca_nil) (xCal_V (ci := 9) C dL_law_189 wX9_fault vL_23 rfl rfl good_X9_fault rc_X9_fault (by decide) (by decide)) (by decide)) (ce_call (p1 := 193) (ca_cons (p1 := 193) (ce_aln C dL_law_192 rfl) ca_nil) (xCal_V (ci := 10) C dL_law_193 wX10_fault vL_26 rfl rfl good_X10_fault rc_X10_fault (by decide) (by decide)) (by decide)) dL_law_196 (by decide) rfl) (cs_retZ (p1 := 200) C (ce_iconst C dL_law_199 (by decide)) dL_law_200)
 cs_brk0),
 (cs_itf (pT := 212) (pF := 830) (cc_neN (p1 := 205) (p2 := 209) C (ce_call (p1 := 202) (ca_cons (p1 := 202) (ce_aln C dL_law_201 rfl) ca_nil) (xCal_V (ci := 9) C dL_law_202 wX9_lay vL_27 rfl rfl good_X9_lay rc_X9_lay (by decide) (by decide)) (by decide)) (ce_call (p1 := 206) (ca_cons (p1 := 206) (ce_aln C dL_law_205 rfl) ca_nil) (xCal_V (ci := 10) C dL_law_206 wX10_lay vL_30 rfl rfl good_X10_lay rc_X10_lay (by decide) (by decide)) (by decide)) dL_law_209 (by decide) rfl) (cs_retZ (p1 := 213) C (ce_iconst C dL_law_212 (by decide)) dL_law_213)
 cs_brk0),
 (cs_itf (pT := 245) (pF := 830) (cc_neN (p1 := 228) (p2 := 242) C (ce_call (p1 := 225) (ca_cons (p1 := 215) (ce_aln C dL_law_214 rfl) (ca_cons (p1 := 220) (ce_scr (p2 := 219) C S dL_law_215 (ce_bin (p1 := 217) (p2 := 218) (ce_iln C dL_law_216 rfl) (ce_iconst C dL_law_217 (by decide)) (ob_add C dL_law_218)) dL_law_219) (ca_cons (p1 := 225) (ce_scr (p2 := 224) C S dL_law_220 (ce_bin (p1 := 222) (p2 := 223) (ce_iln C dL_law_221 rfl) (ce_iconst C dL_law_222 (by decide)) (ob_add C dL_law_223)) dL_law_224) ca_nil))) (xCal_V (ci := 9) C dL_law_225 wX9_stile vL_31 rfl rfl good_X9_stile rc_X9_stile (by decide) (by decide)) (by decide)) (ce_call (p1 := 239) (ca_cons (p1 := 229) (ce_aln C dL_law_228 rfl) (ca_cons (p1 := 234) (ce_scr (p2 := 233) C S dL_law_229 (ce_bin (p1 := 231) (p2 := 232) (ce_iln C dL_law_230 rfl) (ce_iconst C dL_law_231 (by decide)) (ob_add C dL_law_232)) dL_law_233) (ca_cons (p1 := 239) (ce_scr (p2 := 238) C S dL_law_234 (ce_bin (p1 := 236) (p2 := 237) (ce_iln C dL_law_235 rfl) (ce_iconst C dL_law_236 (by decide)) (ob_add C dL_law_237)) dL_law_238) ca_nil))) (xCal_V (ci := 10) C dL_law_239 wX10_stile vL_35 rfl rfl good_X10_stile rc_X10_stile (by decide) (by decide)) (by decide)) dL_law_242 (by decide) rfl) (cs_retZ (p1 := 246) C (ce_iconst C dL_law_245 (by decide)) dL_law_246)
 cs_brk0),
 (cs_itf (pT := 278) (pF := 830) (cc_neN (p1 := 261) (p2 := 275) C (ce_call (p1 := 258) (ca_cons (p1 := 248) (ce_aln C dL_law_247 rfl) (ca_cons (p1 := 253) (ce_scr (p2 := 252) C S dL_law_248 (ce_bin (p1 := 250) (p2 := 251) (ce_iln C dL_law_249 rfl) (ce_iconst C dL_law_250 (by decide)) (ob_add C dL_law_251)) dL_law_252) (ca_cons (p1 := 258) (ce_scr (p2 := 257) C S dL_law_253 (ce_bin (p1 := 255) (p2 := 256) (ce_iln C dL_law_254 rfl) (ce_iconst C dL_law_255 (by decide)) (ob_add C dL_law_256)) dL_law_257) ca_nil))) (xCal_V (ci := 9) C dL_law_258 wX9_walker vL_36 rfl rfl good_X9_walker rc_X9_walker (by decide) (by decide)) (by decide)) (ce_call (p1 := 272) (ca_cons (p1 := 262) (ce_aln C dL_law_261 rfl) (ca_cons (p1 := 267) (ce_scr (p2 := 266) C S dL_law_262 (ce_bin (p1 := 264) (p2 := 265) (ce_iln C dL_law_263 rfl) (ce_iconst C dL_law_264 (by decide)) (ob_add C dL_law_265)) dL_law_266) (ca_cons (p1 := 272) (ce_scr (p2 := 271) C S dL_law_267 (ce_bin (p1 := 269) (p2 := 270) (ce_iln C dL_law_268 rfl) (ce_iconst C dL_law_269 (by decide)) (ob_add C dL_law_270)) dL_law_271) ca_nil))) (xCal_V (ci := 10) C dL_law_272 wX10_walker vL_39 rfl rfl good_X10_walker rc_X10_walker (by decide) (by decide)) (by decide)) dL_law_275 (by decide) rfl) (cs_retZ (p1 := 279) C (ce_iconst C dL_law_278 (by decide)) dL_law_279)
 cs_brk0),
 (cs_itf (pT := 311) (pF := 830) (cc_neN (p1 := 294) (p2 := 308) C (ce_call (p1 := 291) (ca_cons (p1 := 281) (ce_aln C dL_law_280 rfl) (ca_cons (p1 := 286) (ce_scr (p2 := 285) C S dL_law_281 (ce_bin (p1 := 283) (p2 := 284) (ce_iln C dL_law_282 rfl) (ce_iconst C dL_law_283 (by decide)) (ob_add C dL_law_284)) dL_law_285) (ca_cons (p1 := 291) (ce_scr (p2 := 290) C S dL_law_286 (ce_bin (p1 := 288) (p2 := 289) (ce_iln C dL_law_287 rfl) (ce_iconst C dL_law_288 (by decide)) (ob_add C dL_law_289)) dL_law_290) ca_nil))) (xCal_V (ci := 9) C dL_law_291 wX9_account vL_40 rfl rfl good_X9_account rc_X9_account (by decide) (by decide)) (by decide)) (ce_call (p1 := 305) (ca_cons (p1 := 295) (ce_aln C dL_law_294 rfl) (ca_cons (p1 := 300) (ce_scr (p2 := 299) C S dL_law_295 (ce_bin (p1 := 297) (p2 := 298) (ce_iln C dL_law_296 rfl) (ce_iconst C dL_law_297 (by decide)) (ob_add C dL_law_298)) dL_law_299) (ca_cons (p1 := 305) (ce_scr (p2 := 304) C S dL_law_300 (ce_bin (p1 := 302) (p2 := 303) (ce_iln C dL_law_301 rfl) (ce_iconst C dL_law_302 (by decide)) (ob_add C dL_law_303)) dL_law_304) ca_nil))) (xCal_V (ci := 10) C dL_law_305 wX10_account vL_43 rfl rfl good_X10_account rc_X10_account (by decide) (by decide)) (by decide)) dL_law_308 (by decide) rfl) (cs_retZ (p1 := 312) C (ce_iconst C dL_law_311 (by decide)) dL_law_312)
 cs_brk0),
 (cs_itf (pT := 344) (pF := 830) (cc_neN (p1 := 327) (p2 := 341) C (ce_call (p1 := 324) (ca_cons (p1 := 314) (ce_aln C dL_law_313 rfl) (ca_cons (p1 := 319) (ce_scr (p2 := 318) C S dL_law_314 (ce_bin (p1 := 316) (p2 := 317) (ce_iln C dL_law_315 rfl) (ce_iconst C dL_law_316 (by decide)) (ob_add C dL_law_317)) dL_law_318) (ca_cons (p1 := 324) (ce_scr (p2 := 323) C S dL_law_319 (ce_bin (p1 := 321) (p2 := 322) (ce_iln C dL_law_320 rfl) (ce_iconst C dL_law_321 (by decide)) (ob_add C dL_law_322)) dL_law_323) ca_nil))) (xCal_V (ci := 9) C dL_law_324 wX9_tread vL_44 rfl rfl good_X9_tread rc_X9_tread (by decide) (by decide)) (by decide)) (ce_call (p1 := 338) (ca_cons (p1 := 328) (ce_aln C dL_law_327 rfl) (ca_cons (p1 := 333) (ce_scr (p2 := 332) C S dL_law_328 (ce_bin (p1 := 330) (p2 := 331) (ce_iln C dL_law_329 rfl) (ce_iconst C dL_law_330 (by decide)) (ob_add C dL_law_331)) dL_law_332) (ca_cons (p1 := 338) (ce_scr (p2 := 337) C S dL_law_333 (ce_bin (p1 := 335) (p2 := 336) (ce_iln C dL_law_334 rfl) (ce_iconst C dL_law_335 (by decide)) (ob_add C dL_law_336)) dL_law_337) ca_nil))) (xCal_V (ci := 10) C dL_law_338 wX10_tread vL_47 rfl rfl good_X10_tread rc_X10_tread (by decide) (by decide)) (by decide)) dL_law_341 (by decide) rfl) (cs_retZ (p1 := 345) C (ce_iconst C dL_law_344 (by decide)) dL_law_345)
 cs_brk0),
 (cs_itf (pT := 367) (pF := 830) (cc_neN (p1 := 355) (p2 := 364) C (ce_call (p1 := 352) (ca_cons (p1 := 347) (ce_aln C dL_law_346 rfl) (ca_cons (p1 := 352) (ce_scr (p2 := 351) C S dL_law_347 (ce_bin (p1 := 349) (p2 := 350) (ce_iln C dL_law_348 rfl) (ce_iconst C dL_law_349 (by decide)) (ob_add C dL_law_350)) dL_law_351) ca_nil)) (xCal_V (ci := 9) C dL_law_352 wX9_replace vL_48 rfl rfl good_X9_replace rc_X9_replace (by decide) (by decide)) (by decide)) (ce_call (p1 := 361) (ca_cons (p1 := 356) (ce_aln C dL_law_355 rfl) (ca_cons (p1 := 361) (ce_scr (p2 := 360) C S dL_law_356 (ce_bin (p1 := 358) (p2 := 359) (ce_iln C dL_law_357 rfl) (ce_iconst C dL_law_358 (by decide)) (ob_add C dL_law_359)) dL_law_360) ca_nil)) (xCal_V (ci := 10) C dL_law_361 wX10_replace vL_51 rfl rfl good_X10_replace rc_X10_replace (by decide) (by decide)) (by decide)) dL_law_364 (by decide) rfl) (cs_retZ (p1 := 368) C (ce_iconst C dL_law_367 (by decide)) dL_law_368)
 cs_brk0),
 (cs_itf (pT := 390) (pF := 830) (cc_neN (p1 := 378) (p2 := 387) C (ce_call (p1 := 375) (ca_cons (p1 := 370) (ce_aln C dL_law_369 rfl) (ca_cons (p1 := 375) (ce_scr (p2 := 374) C S dL_law_370 (ce_bin (p1 := 372) (p2 := 373) (ce_iln C dL_law_371 rfl) (ce_iconst C dL_law_372 (by decide)) (ob_add C dL_law_373)) dL_law_374) ca_nil)) (xCal_V (ci := 9) C dL_law_375 wX9_sand vL_52 rfl rfl good_X9_sand rc_X9_sand (by decide) (by decide)) (by decide)) (ce_call (p1 := 384) (ca_cons (p1 := 379) (ce_aln C dL_law_378 rfl) (ca_cons (p1 := 384) (ce_scr (p2 := 383) C S dL_law_379 (ce_bin (p1 := 381) (p2 := 382) (ce_iln C dL_law_380 rfl) (ce_iconst C dL_law_381 (by decide)) (ob_add C dL_law_382)) dL_law_383) ca_nil)) (xCal_V (ci := 10) C dL_law_384 wX10_sand vL_55 rfl rfl good_X10_sand rc_X10_sand (by decide) (by decide)) (by decide)) dL_law_387 (by decide) rfl) (cs_retZ (p1 := 391) C (ce_iconst C dL_law_390 (by decide)) dL_law_391)
 cs_brk0),
 (cs_itf (pT := 403) (pF := 830) (cc_neN (p1 := 396) (p2 := 400) C (ce_call (p1 := 393) (ca_cons (p1 := 393) (ce_aln C dL_law_392 rfl) ca_nil) (xCal_V (ci := 9) C dL_law_393 wX9_undo vL_56 rfl rfl good_X9_undo rc_X9_undo (by decide) (by decide)) (by decide)) (ce_call (p1 := 397) (ca_cons (p1 := 397) (ce_aln C dL_law_396 rfl) ca_nil) (xCal_V (ci := 10) C dL_law_397 wX10_undo vL_59 rfl rfl good_X10_undo rc_X10_undo (by decide) (by decide)) (by decide)) dL_law_400 (by decide) rfl) (cs_retZ (p1 := 404) C (ce_iconst C dL_law_403 (by decide)) dL_law_404)
 cs_brk0),
 (cs_itf (pT := 446) (pF := 830) (cc_neN (p1 := 424) (p2 := 443) C (ce_call (p1 := 421) (ca_cons (p1 := 406) (ce_aln C dL_law_405 rfl) (ca_cons (p1 := 411) (ce_scr (p2 := 410) C S dL_law_406 (ce_bin (p1 := 408) (p2 := 409) (ce_iln C dL_law_407 rfl) (ce_iconst C dL_law_408 (by decide)) (ob_add C dL_law_409)) dL_law_410) (ca_cons (p1 := 416) (ce_scr (p2 := 415) C S dL_law_411 (ce_bin (p1 := 413) (p2 := 414) (ce_iln C dL_law_412 rfl) (ce_iconst C dL_law_413 (by decide)) (ob_add C dL_law_414)) dL_law_415) (ca_cons (p1 := 421) (ce_scr (p2 := 420) C S dL_law_416 (ce_bin (p1 := 418) (p2 := 419) (ce_iln C dL_law_417 rfl) (ce_iconst C dL_law_418 (by decide)) (ob_add C dL_law_419)) dL_law_420) ca_nil)))) (xCal_V (ci := 9) C dL_law_421 wX9_way vL_60 rfl rfl good_X9_way rc_X9_way (by decide) (by decide)) (by decide)) (ce_call (p1 := 440) (ca_cons (p1 := 425) (ce_aln C dL_law_424 rfl) (ca_cons (p1 := 430) (ce_scr (p2 := 429) C S dL_law_425 (ce_bin (p1 := 427) (p2 := 428) (ce_iln C dL_law_426 rfl) (ce_iconst C dL_law_427 (by decide)) (ob_add C dL_law_428)) dL_law_429) (ca_cons (p1 := 435) (ce_scr (p2 := 434) C S dL_law_430 (ce_bin (p1 := 432) (p2 := 433) (ce_iln C dL_law_431 rfl) (ce_iconst C dL_law_432 (by decide)) (ob_add C dL_law_433)) dL_law_434) (ca_cons (p1 := 440) (ce_scr (p2 := 439) C S dL_law_435 (ce_bin (p1 := 437) (p2 := 438) (ce_iln C dL_law_436 rfl) (ce_iconst C dL_law_437 (by decide)) (ob_add C dL_law_438)) dL_law_439) ca_nil)))) (xCal_V (ci := 10) C dL_law_440 wX10_way vL_64 rfl rfl good_X10_way rc_X10_way (by decide) (by decide)) (by decide)) dL_law_443 (by decide) rfl) (cs_retZ (p1 := 447) C (ce_iconst C dL_law_446 (by decide)) dL_law_447)
 cs_brk0),
 (cs_itf (pT := 469) (pF := 830) (cc_neN (p1 := 457) (p2 := 466) C (ce_call (p1 := 454) (ca_cons (p1 := 449) (ce_aln C dL_law_448 rfl) (ca_cons (p1 := 454) (ce_scr (p2 := 453) C S dL_law_449 (ce_bin (p1 := 451) (p2 := 452) (ce_iln C dL_law_450 rfl) (ce_iconst C dL_law_451 (by decide)) (ob_add C dL_law_452)) dL_law_453) ca_nil)) (xCal_V (ci := 9) C dL_law_454 wX9_even vL_65 rfl rfl good_X9_even rc_X9_even (by decide) (by decide)) (by decide)) (ce_call (p1 := 463) (ca_cons (p1 := 458) (ce_aln C dL_law_457 rfl) (ca_cons (p1 := 463) (ce_scr (p2 := 462) C S dL_law_458 (ce_bin (p1 := 460) (p2 := 461) (ce_iln C dL_law_459 rfl) (ce_iconst C dL_law_460 (by decide)) (ob_add C dL_law_461)) dL_law_462) ca_nil)) (xCal_V (ci := 10) C dL_law_463 wX10_even vL_68 rfl rfl good_X10_even rc_X10_even (by decide) (by decide)) (by decide)) dL_law_466 (by decide) rfl) (cs_retZ (p1 := 470) C (ce_iconst C dL_law_469 (by decide)) dL_law_470)
 cs_brk0),
 (cs_itf (pT := 492) (pF := 830) (cc_neN (p1 := 480) (p2 := 489) C (ce_call (p1 := 477) (ca_cons (p1 := 472) (ce_aln C dL_law_471 rfl) (ca_cons (p1 := 477) (ce_scr (p2 := 476) C S dL_law_472 (ce_bin (p1 := 474) (p2 := 475) (ce_iln C dL_law_473 rfl) (ce_iconst C dL_law_474 (by decide)) (ob_add C dL_law_475)) dL_law_476) ca_nil)) (xCal_V (ci := 9) C dL_law_477 wX9_measure vL_69 rfl rfl good_X9_measure rc_X9_measure (by decide) (by decide)) (by decide)) (ce_call (p1 := 486) (ca_cons (p1 := 481) (ce_aln C dL_law_480 rfl) (ca_cons (p1 := 486) (ce_scr (p2 := 485) C S dL_law_481 (ce_bin (p1 := 483) (p2 := 484) (ce_iln C dL_law_482 rfl) (ce_iconst C dL_law_483 (by decide)) (ob_add C dL_law_484)) dL_law_485) ca_nil)) (xCal_V (ci := 10) C dL_law_486 wX10_measure vL_72 rfl rfl good_X10_measure rc_X10_measure (by decide) (by decide)) (by decide)) dL_law_489 (by decide) rfl) (cs_retZ (p1 := 493) C (ce_iconst C dL_law_492 (by decide)) dL_law_493)
 cs_brk0),
 (cs_itf (pT := 515) (pF := 830) (cc_neN (p1 := 503) (p2 := 512) C (ce_call (p1 := 500) (ca_cons (p1 := 495) (ce_aln C dL_law_494 rfl) (ca_cons (p1 := 500) (ce_scr (p2 := 499) C S dL_law_495 (ce_bin (p1 := 497) (p2 := 498) (ce_iln C dL_law_496 rfl) (ce_iconst C dL_law_497 (by decide)) (ob_add C dL_law_498)) dL_law_499) ca_nil)) (xCal_V (ci := 9) C dL_law_500 wX9_fresh vL_73 rfl rfl good_X9_fresh rc_X9_fresh (by decide) (by decide)) (by decide)) (ce_call (p1 := 509) (ca_cons (p1 := 504) (ce_aln C dL_law_503 rfl) (ca_cons (p1 := 509) (ce_scr (p2 := 508) C S dL_law_504 (ce_bin (p1 := 506) (p2 := 507) (ce_iln C dL_law_505 rfl) (ce_iconst C dL_law_506 (by decide)) (ob_add C dL_law_507)) dL_law_508) ca_nil)) (xCal_V (ci := 10) C dL_law_509 wX10_fresh vL_76 rfl rfl good_X10_fresh rc_X10_fresh (by decide) (by decide)) (by decide)) dL_law_512 (by decide) rfl) (cs_retZ (p1 := 516) C (ce_iconst C dL_law_515 (by decide)) dL_law_516)
 cs_brk0),
 (cs_itf (pT := 548) (pF := 830) (cc_neN (p1 := 531) (p2 := 545) C (ce_call (p1 := 528) (ca_cons (p1 := 518) (ce_aln C dL_law_517 rfl) (ca_cons (p1 := 523) (ce_scr (p2 := 522) C S dL_law_518 (ce_bin (p1 := 520) (p2 := 521) (ce_iln C dL_law_519 rfl) (ce_iconst C dL_law_520 (by decide)) (ob_add C dL_law_521)) dL_law_522) (ca_cons (p1 := 528) (ce_scr (p2 := 527) C S dL_law_523 (ce_bin (p1 := 525) (p2 := 526) (ce_iln C dL_law_524 rfl) (ce_iconst C dL_law_525 (by decide)) (ob_add C dL_law_526)) dL_law_527) ca_nil))) (xCal_V (ci := 9) C dL_law_528 wX9_lasts vL_77 rfl rfl good_X9_lasts rc_X9_lasts (by decide) (by decide)) (by decide)) (ce_call (p1 := 542) (ca_cons (p1 := 532) (ce_aln C dL_law_531 rfl) (ca_cons (p1 := 537) (ce_scr (p2 := 536) C S dL_law_532 (ce_bin (p1 := 534) (p2 := 535) (ce_iln C dL_law_533 rfl) (ce_iconst C dL_law_534 (by decide)) (ob_add C dL_law_535)) dL_law_536) (ca_cons (p1 := 542) (ce_scr (p2 := 541) C S dL_law_537 (ce_bin (p1 := 539) (p2 := 540) (ce_iln C dL_law_538 rfl) (ce_iconst C dL_law_539 (by decide)) (ob_add C dL_law_540)) dL_law_541) ca_nil))) (xCal_V (ci := 10) C dL_law_542 wX10_lasts vL_80 rfl rfl good_X10_lasts rc_X10_lasts (by decide) (by decide)) (by decide)) dL_law_545 (by decide) rfl) (cs_retZ (p1 := 549) C (ce_iconst C dL_law_548 (by decide)) dL_law_549)
 cs_brk0),
 (cs_itf (pT := 561) (pF := 830) (cc_neN (p1 := 554) (p2 := 558) C (ce_call (p1 := 551) (ca_cons (p1 := 551) (ce_aln C dL_law_550 rfl) ca_nil) (xCal_V (ci := 9) C dL_law_551 wX9_richest vL_81 rfl rfl good_X9_richest rc_X9_richest (by decide) (by decide)) (by decide)) (ce_call (p1 := 555) (ca_cons (p1 := 555) (ce_aln C dL_law_554 rfl) ca_nil) (xCal_V (ci := 10) C dL_law_555 wX10_richest vL_84 rfl rfl good_X10_richest rc_X10_richest (by decide) (by decide)) (by decide)) dL_law_558 (by decide) rfl) (cs_retZ (p1 := 562) C (ce_iconst C dL_law_561 (by decide)) dL_law_562)
 cs_brk0),
 (cs_itf (pT := 594) (pF := 830) (cc_neN (p1 := 577) (p2 := 591) C (ce_call (p1 := 574) (ca_cons (p1 := 564) (ce_aln C dL_law_563 rfl) (ca_cons (p1 := 569) (ce_scr (p2 := 568) C S dL_law_564 (ce_bin (p1 := 566) (p2 := 567) (ce_iln C dL_law_565 rfl) (ce_iconst C dL_law_566 (by decide)) (ob_add C dL_law_567)) dL_law_568) (ca_cons (p1 := 574) (ce_scr (p2 := 573) C S dL_law_569 (ce_bin (p1 := 571) (p2 := 572) (ce_iln C dL_law_570 rfl) (ce_iconst C dL_law_571 (by decide)) (ob_add C dL_law_572)) dL_law_573) ca_nil))) (xCal_V (ci := 9) C dL_law_574 wX9_see vL_85 rfl rfl good_X9_see rc_X9_see (by decide) (by decide)) (by decide)) (ce_call (p1 := 588) (ca_cons (p1 := 578) (ce_aln C dL_law_577 rfl) (ca_cons (p1 := 583) (ce_scr (p2 := 582) C S dL_law_578 (ce_bin (p1 := 580) (p2 := 581) (ce_iln C dL_law_579 rfl) (ce_iconst C dL_law_580 (by decide)) (ob_add C dL_law_581)) dL_law_582) (ca_cons (p1 := 588) (ce_scr (p2 := 587) C S dL_law_583 (ce_bin (p1 := 585) (p2 := 586) (ce_iln C dL_law_584 rfl) (ce_iconst C dL_law_585 (by decide)) (ob_add C dL_law_586)) dL_law_587) ca_nil))) (xCal_V (ci := 10) C dL_law_588 wX10_see vL_88 rfl rfl good_X10_see rc_X10_see (by decide) (by decide)) (by decide)) dL_law_591 (by decide) rfl) (cs_retZ (p1 := 595) C (ce_iconst C dL_law_594 (by decide)) dL_law_595)
 cs_brk0),
 (cs_itf (pT := 607) (pF := 830) (cc_neN (p1 := 600) (p2 := 604) C (ce_call (p1 := 597) (ca_cons (p1 := 597) (ce_aln C dL_law_596 rfl) ca_nil) (xCal_V (ci := 9) C dL_law_597 wX9_forget vL_89 rfl rfl good_X9_forget rc_X9_forget (by decide) (by decide)) (by decide)) (ce_call (p1 := 601) (ca_cons (p1 := 601) (ce_aln C dL_law_600 rfl) ca_nil) (xCal_V (ci := 10) C dL_law_601 wX10_forget vL_92 rfl rfl good_X10_forget rc_X10_forget (by decide) (by decide)) (by decide)) dL_law_604 (by decide) rfl) (cs_retZ (p1 := 608) C (ce_iconst C dL_law_607 (by decide)) dL_law_608)
 cs_brk0),
 (cs_itf (pT := 630) (pF := 830) (cc_neN (p1 := 618) (p2 := 627) C (ce_call (p1 := 615) (ca_cons (p1 := 610) (ce_aln C dL_law_609 rfl) (ca_cons (p1 := 615) (ce_scr (p2 := 614) C S dL_law_610 (ce_bin (p1 := 612) (p2 := 613) (ce_iln C dL_law_611 rfl) (ce_iconst C dL_law_612 (by decide)) (ob_add C dL_law_613)) dL_law_614) ca_nil)) (xCal_V (ci := 9) C dL_law_615 wX9_whose vL_93 rfl rfl good_X9_whose rc_X9_whose (by decide) (by decide)) (by decide)) (ce_call (p1 := 624) (ca_cons (p1 := 619) (ce_aln C dL_law_618 rfl) (ca_cons (p1 := 624) (ce_scr (p2 := 623) C S dL_law_619 (ce_bin (p1 := 621) (p2 := 622) (ce_iln C dL_law_620 rfl) (ce_iconst C dL_law_621 (by decide)) (ob_add C dL_law_622)) dL_law_623) ca_nil)) (xCal_V (ci := 10) C dL_law_624 wX10_whose vL_96 rfl rfl good_X10_whose rc_X10_whose (by decide) (by decide)) (by decide)) dL_law_627 (by decide) rfl) (cs_retZ (p1 := 631) C (ce_iconst C dL_law_630 (by decide)) dL_law_631)
 cs_brk0),
 (cs_itf (pT := 673) (pF := 830) (cc_neN (p1 := 651) (p2 := 670) C (ce_call (p1 := 648) (ca_cons (p1 := 633) (ce_aln C dL_law_632 rfl) (ca_cons (p1 := 638) (ce_scr (p2 := 637) C S dL_law_633 (ce_bin (p1 := 635) (p2 := 636) (ce_iln C dL_law_634 rfl) (ce_iconst C dL_law_635 (by decide)) (ob_add C dL_law_636)) dL_law_637) (ca_cons (p1 := 643) (ce_scr (p2 := 642) C S dL_law_638 (ce_bin (p1 := 640) (p2 := 641) (ce_iln C dL_law_639 rfl) (ce_iconst C dL_law_640 (by decide)) (ob_add C dL_law_641)) dL_law_642) (ca_cons (p1 := 648) (ce_scr (p2 := 647) C S dL_law_643 (ce_bin (p1 := 645) (p2 := 646) (ce_iln C dL_law_644 rfl) (ce_iconst C dL_law_645 (by decide)) (ob_add C dL_law_646)) dL_law_647) ca_nil)))) (xCal_V (ci := 9) C dL_law_648 wX9_often vL_97 rfl rfl good_X9_often rc_X9_often (by decide) (by decide)) (by decide)) (ce_call (p1 := 667) (ca_cons (p1 := 652) (ce_aln C dL_law_651 rfl) (ca_cons (p1 := 657) (ce_scr (p2 := 656) C S dL_law_652 (ce_bin (p1 := 654) (p2 := 655) (ce_iln C dL_law_653 rfl) (ce_iconst C dL_law_654 (by decide)) (ob_add C dL_law_655)) dL_law_656) (ca_cons (p1 := 662) (ce_scr (p2 := 661) C S dL_law_657 (ce_bin (p1 := 659) (p2 := 660) (ce_iln C dL_law_658 rfl) (ce_iconst C dL_law_659 (by decide)) (ob_add C dL_law_660)) dL_law_661) (ca_cons (p1 := 667) (ce_scr (p2 := 666) C S dL_law_662 (ce_bin (p1 := 664) (p2 := 665) (ce_iln C dL_law_663 rfl) (ce_iconst C dL_law_664 (by decide)) (ob_add C dL_law_665)) dL_law_666) ca_nil)))) (xCal_V (ci := 10) C dL_law_667 wX10_often vL_100 rfl rfl good_X10_often rc_X10_often (by decide) (by decide)) (by decide)) dL_law_670 (by decide) rfl) (cs_retZ (p1 := 674) C (ce_iconst C dL_law_673 (by decide)) dL_law_674)
 cs_brk0),
 (cs_itf (pT := 736) (pF := 830) (cc_neN (p1 := 704) (p2 := 733) C (ce_call (p1 := 701) (ca_cons (p1 := 676) (ce_aln C dL_law_675 rfl) (ca_cons (p1 := 681) (ce_scr (p2 := 680) C S dL_law_676 (ce_bin (p1 := 678) (p2 := 679) (ce_iln C dL_law_677 rfl) (ce_iconst C dL_law_678 (by decide)) (ob_add C dL_law_679)) dL_law_680) (ca_cons (p1 := 686) (ce_scr (p2 := 685) C S dL_law_681 (ce_bin (p1 := 683) (p2 := 684) (ce_iln C dL_law_682 rfl) (ce_iconst C dL_law_683 (by decide)) (ob_add C dL_law_684)) dL_law_685) (ca_cons (p1 := 691) (ce_scr (p2 := 690) C S dL_law_686 (ce_bin (p1 := 688) (p2 := 689) (ce_iln C dL_law_687 rfl) (ce_iconst C dL_law_688 (by decide)) (ob_add C dL_law_689)) dL_law_690) (ca_cons (p1 := 696) (ce_scr (p2 := 695) C S dL_law_691 (ce_bin (p1 := 693) (p2 := 694) (ce_iln C dL_law_692 rfl) (ce_iconst C dL_law_693 (by decide)) (ob_add C dL_law_694)) dL_law_695) (ca_cons (p1 := 701) (ce_scr (p2 := 700) C S dL_law_696 (ce_bin (p1 := 698) (p2 := 699) (ce_iln C dL_law_697 rfl) (ce_iconst C dL_law_698 (by decide)) (ob_add C dL_law_699)) dL_law_700) ca_nil)))))) (xCal_V (ci := 9) C dL_law_701 wX9_drunk vL_101 rfl rfl good_X9_drunk rc_X9_drunk (by decide) (by decide)) (by decide)) (ce_call (p1 := 730) (ca_cons (p1 := 705) (ce_aln C dL_law_704 rfl) (ca_cons (p1 := 710) (ce_scr (p2 := 709) C S dL_law_705 (ce_bin (p1 := 707) (p2 := 708) (ce_iln C dL_law_706 rfl) (ce_iconst C dL_law_707 (by decide)) (ob_add C dL_law_708)) dL_law_709) (ca_cons (p1 := 715) (ce_scr (p2 := 714) C S dL_law_710 (ce_bin (p1 := 712) (p2 := 713) (ce_iln C dL_law_711 rfl) (ce_iconst C dL_law_712 (by decide)) (ob_add C dL_law_713)) dL_law_714) (ca_cons (p1 := 720) (ce_scr (p2 := 719) C S dL_law_715 (ce_bin (p1 := 717) (p2 := 718) (ce_iln C dL_law_716 rfl) (ce_iconst C dL_law_717 (by decide)) (ob_add C dL_law_718)) dL_law_719) (ca_cons (p1 := 725) (ce_scr (p2 := 724) C S dL_law_720 (ce_bin (p1 := 722) (p2 := 723) (ce_iln C dL_law_721 rfl) (ce_iconst C dL_law_722 (by decide)) (ob_add C dL_law_723)) dL_law_724) (ca_cons (p1 := 730) (ce_scr (p2 := 729) C S dL_law_725 (ce_bin (p1 := 727) (p2 := 728) (ce_iln C dL_law_726 rfl) (ce_iconst C dL_law_727 (by decide)) (ob_add C dL_law_728)) dL_law_729) ca_nil)))))) (xCal_V (ci := 10) C dL_law_730 wX10_drunk vL_105 rfl rfl good_X10_drunk rc_X10_drunk (by decide) (by decide)) (by decide)) dL_law_733 (by decide) rfl) (cs_retZ (p1 := 737) C (ce_iconst C dL_law_736 (by decide)) dL_law_737)
 cs_brk0),
 (cs_itf (pT := 779) (pF := 830) (cc_neN (p1 := 757) (p2 := 776) C (ce_call (p1 := 754) (ca_cons (p1 := 739) (ce_aln C dL_law_738 rfl) (ca_cons (p1 := 744) (ce_scr (p2 := 743) C S dL_law_739 (ce_bin (p1 := 741) (p2 := 742) (ce_iln C dL_law_740 rfl) (ce_iconst C dL_law_741 (by decide)) (ob_add C dL_law_742)) dL_law_743) (ca_cons (p1 := 749) (ce_scr (p2 := 748) C S dL_law_744 (ce_bin (p1 := 746) (p2 := 747) (ce_iln C dL_law_745 rfl) (ce_iconst C dL_law_746 (by decide)) (ob_add C dL_law_747)) dL_law_748) (ca_cons (p1 := 754) (ce_scr (p2 := 753) C S dL_law_749 (ce_bin (p1 := 751) (p2 := 752) (ce_iln C dL_law_750 rfl) (ce_iconst C dL_law_751 (by decide)) (ob_add C dL_law_752)) dL_law_753) ca_nil)))) (xCal_V (ci := 9) C dL_law_754 wX9_year vL_106 rfl rfl good_X9_year rc_X9_year (by decide) (by decide)) (by decide)) (ce_call (p1 := 773) (ca_cons (p1 := 758) (ce_aln C dL_law_757 rfl) (ca_cons (p1 := 763) (ce_scr (p2 := 762) C S dL_law_758 (ce_bin (p1 := 760) (p2 := 761) (ce_iln C dL_law_759 rfl) (ce_iconst C dL_law_760 (by decide)) (ob_add C dL_law_761)) dL_law_762) (ca_cons (p1 := 768) (ce_scr (p2 := 767) C S dL_law_763 (ce_bin (p1 := 765) (p2 := 766) (ce_iln C dL_law_764 rfl) (ce_iconst C dL_law_765 (by decide)) (ob_add C dL_law_766)) dL_law_767) (ca_cons (p1 := 773) (ce_scr (p2 := 772) C S dL_law_768 (ce_bin (p1 := 770) (p2 := 771) (ce_iln C dL_law_769 rfl) (ce_iconst C dL_law_770 (by decide)) (ob_add C dL_law_771)) dL_law_772) ca_nil)))) (xCal_V (ci := 10) C dL_law_773 wX10_year vL_109 rfl rfl good_X10_year rc_X10_year (by decide) (by decide)) (by decide)) dL_law_776 (by decide) rfl) (cs_retZ (p1 := 780) C (ce_iconst C dL_law_779 (by decide)) dL_law_780)
 cs_brk0),
 (cs_itf (pT := 792) (pF := 830) (cc_neN (p1 := 785) (p2 := 789) C (ce_call (p1 := 782) (ca_cons (p1 := 782) (ce_aln C dL_law_781 rfl) ca_nil) (xCal_V (ci := 9) C dL_law_782 wX9_keep vL_110 rfl rfl good_X9_keep rc_X9_keep (by decide) (by decide)) (by decide)) (ce_call (p1 := 786) (ca_cons (p1 := 786) (ce_aln C dL_law_785 rfl) ca_nil) (xCal_V (ci := 10) C dL_law_786 wX10_keep vL_113 rfl rfl good_X10_keep rc_X10_keep (by decide) (by decide)) (by decide)) dL_law_789 (by decide) rfl) (cs_retZ (p1 := 793) C (ce_iconst C dL_law_792 (by decide)) dL_law_793)
 cs_brk0),
 (cs_itf (pT := 805) (pF := 830) (cc_neN (p1 := 798) (p2 := 802) C (ce_call (p1 := 795) (ca_cons (p1 := 795) (ce_aln C dL_law_794 rfl) ca_nil) (xCal_V (ci := 9) C dL_law_795 wX9_back vL_114 rfl rfl good_X9_back rc_X9_back (by decide) (by decide)) (by decide)) (ce_call (p1 := 799) (ca_cons (p1 := 799) (ce_aln C dL_law_798 rfl) ca_nil) (xCal_V (ci := 10) C dL_law_799 wX10_back vL_117 rfl rfl good_X10_back rc_X10_back (by decide) (by decide)) (by decide)) dL_law_802 (by decide) rfl) (cs_retZ (p1 := 806) C (ce_iconst C dL_law_805 (by decide)) dL_law_806)
 cs_brk0),
 (cs_itf (pT := 828) (pF := 830) (cc_neN (p1 := 816) (p2 := 825) C (ce_call (p1 := 813) (ca_cons (p1 := 808) (ce_aln C dL_law_807 rfl) (ca_cons (p1 := 813) (ce_scr (p2 := 812) C S dL_law_808 (ce_bin (p1 := 810) (p2 := 811) (ce_iln C dL_law_809 rfl) (ce_iconst C dL_law_810 (by decide)) (ob_add C dL_law_811)) dL_law_812) ca_nil)) (xCal_V (ci := 9) C dL_law_813 wX9_count vL_118 rfl rfl good_X9_count rc_X9_count (by decide) (by decide)) (by decide)) (ce_call (p1 := 822) (ca_cons (p1 := 817) (ce_aln C dL_law_816 rfl) (ca_cons (p1 := 822) (ce_scr (p2 := 821) C S dL_law_817 (ce_bin (p1 := 819) (p2 := 820) (ce_iln C dL_law_818 rfl) (ce_iconst C dL_law_819 (by decide)) (ob_add C dL_law_820)) dL_law_821) ca_nil)) (xCal_V (ci := 10) C dL_law_822 wX10_count vL_121 rfl rfl good_X10_count rc_X10_count (by decide) (by decide)) (by decide)) dL_law_825 (by decide) rfl) (cs_retZ (p1 := 829) C (ce_iconst C dL_law_828 (by decide)) dL_law_829)
 cs_brk0), trivial⟩
 cs_skip)
 (cs_inc C dL_law_830 (by decide)) dL_law_833 (by decide))
 (cs_retZ (p1 := 837) C (ce_iconst C dL_law_836 (by decide)) dL_law_837)))))
/-- arrays of a kind, as the tables have them -/
theorem x_arrK {s : State} {args : Array Value} {ty : FieldType} (h : (Cond.arrayClass ty).before args s = true) (hr : (∀ C, ty ≠ .object C)) : ∃ cA : ClassId, ArrOfT s cA ty ∧ va_RA s cA ty := by
  obtain ⟨cA, k, comp, h1, h2, h3⟩ := Cond.arrayClass_spec h
  refine ⟨cA, fun n z => ⟨fun q h => (by cases h), k, h2, comp, h3⟩, ?_⟩
  unfold va_RA
  cases ty <;> first | exact h1 | exact absurd rfl (hr _)
theorem x_tbl (i : Nat) {w : Cond} (h : lw_tbl[i]? = some w) : w ∈ lw_tbl := List.mem_of_getElem? h
/-- what the law's start gives -/
theorem x_start {s : State} {bs : Nat} (hts : ∀ w ∈ lw_tbl, w.before #[Value.ref bs] s = true) : ∃ (D : va_G) (cI : Nat → ClassId), va_K D xCl (xTy cI) s := by
  have hin : ∀ (ci : Nat) (r : vw_C), xCl[ci]? = some r → ∃ (cC : ClassId) (iS : Nat → Nat), u_Kn s r.1 r.2.1 r.2.2 cC iS := by
    intro ci r hr
    obtain ⟨o1, -, -⟩ := xCl_ok ci r hr
    have hi : Cond.instantiable r.1 r.2.2 ∈ xBW := by
      match ci, hr with
      | 0, hr => cases hr; decide +kernel
      | 1, hr => cases hr; decide +kernel
      | 2, hr => cases hr; decide +kernel
      | 3, hr => cases hr; decide +kernel
      | 4, hr => cases hr; decide +kernel
      | 5, hr => cases hr; decide +kernel
      | 6, hr => cases hr; decide +kernel
      | 7, hr => cases hr; decide +kernel
      | 8, hr => cases hr; decide +kernel
      | 9, hr => cases hr; decide +kernel
      | 10, hr => cases hr; decide +kernel
      | k + 11, h => simp [xCl] at h
    exact u_known hts (fun w hw => xBW_tbl _ (o1 w hw)) (hts _ (xBW_tbl _ hi))
  have hc : ∀ ci : Nat, ∃ q : ClassId × (Nat → Nat), ∀ r : vw_C, xCl[ci]? = some r → u_Kn s r.1 r.2.1 r.2.2 q.1 q.2 := by
    intro ci
    cases h : xCl[ci]? with
    | none => exact ⟨(0, fun _ => 0), fun r hr => by cases hr⟩
    | some r =>
      obtain ⟨cC, iS, hk⟩ := hin ci r h
      exact ⟨(cC, iS), fun r' hr => by cases hr; exact hk⟩
  obtain ⟨f, hf⟩ := Classical.axiomOfChoice hc
  obtain ⟨c0, a0, r0⟩ := x_arrK (hts _ (xBW_tbl _ xW_arri)) (fun C h => by cases h)
  obtain ⟨c1, a1, r1⟩ := x_arrK (hts _ (xBW_tbl _ xW_arrc)) (fun C h => by cases h)
  have hov : Cond.arrayOver (.object RX6) ∈ lw_tbl := by decide +kernel
  obtain ⟨comp, c2, k2, g1, g2, g3, g4, g5⟩ := Cond.arrayOver_spec (hts _ hov)
  refine ⟨(fun ci => (f ci).1, fun ci => (f ci).2), fun t => if t = 0 then c0 else if t = 1 then c1 else c2, fun ci r hr => hf ci r hr, fun k q hq => ?_⟩
  match k, hq with
  | 0, hq => cases hq; exact ⟨a0, r0⟩
  | 1, hq => cases hq; exact ⟨a1, r1⟩
  | 2, hq =>
    cases hq
    refine ⟨fun n z => ⟨fun q h => (by cases h), k2, g3, comp, g4⟩, k2, comp, g3, g4, g1, g5⟩
  | k + 3, hq => simp [xTy] at hq
theorem x_startEx {s : State} {bs : Nat} (hts : ∀ w ∈ lw_tbl, w.before #[Value.ref bs] s = true) (hgv : (Jvm.Cond.and given_1 narrow_1).before #[Value.ref bs] s = true) : xEx s.heap.size s s.heap := by
  have hA : ∀ a : Nat, a < s.heap.size → ¬ s.heap.size ≤ a := fun a h => Nat.not_le.mpr h
  have hfl := flat_of_before _ hgv
  refine ⟨fun w hw => ?_, va_AO.of (hts _ (by decide +kernel)), ?_⟩
  · obtain ⟨a, i, x, q, rfl⟩ := xNest_of hw
    exact va_Nw.of rfl (hts _ (List.mem_filter.mp hw).1)
  · obtain ⟨adK, adV, hS, hev⟩ := vk_Sof (N := 1) (tm := fun _ => .string RX9 274) (len := [84]) (byt := [xByt]) (A := fun q => s.heap.size ≤ q)
      (fun i hi => by rw [show i = 0 by omega]; decide) (fun i _ => hfl _ (by decide +kernel)) (fun i _ => hfl _ (by decide +kernel)) (fun i _ => hfl _ (by decide +kernel))
      (fun i hi => by rw [show i = 0 by omega]; exact hfl _ (by decide +kernel))
      (fun i hi j hj => by
        rw [show i = 0 by omega] at hj ⊢
        have hall : ∀ j : Nat, j < 84 → (Cond.eq (.elem (.field (.string RX9 274) "java/lang/String" "value" "[B") (.int (Int32.ofNat j))) (.int (xByt.getD j 0))) ∈ flatC (Jvm.Cond.and given_1 narrow_1) := by decide +kernel
        exact hfl _ (hall j hj))
      (fun i j hi hj hne => absurd (show i = j by omega) hne) hA
    refine ⟨adK 0, adV 0, vk_R.of (hts _ (by decide +kernel)) (hev 0 (by decide)), ?_, ?_, ?_⟩
    · refine ⟨fun i hi => ?_, fun i j hi hj _ => by omega⟩
      have := hS.1 i hi
      rw [show i = 0 by omega] at this ⊢
      exact this
    · exact va_Zof (hts _ (by decide +kernel)) (hts _ (by decide +kernel)) (va_eqi (hfl _ (by decide +kernel))) hA
    · exact va_Zqof (hts _ (by decide +kernel)) (hts _ (by decide +kernel)) (hfl _ (by decide +kernel)) hA
/-- THE LAW, from its entry, out of what its meaning answers -/
theorem law_from {p : Program} {e : Env} {s : State} {m : MethodId} {below : List Frame} {meth : Method} {c : Code} (l : Launch) {b L : Nat} {xs : Nat → Int32} (C0 : lw_At p s m meth c b L xs) {env' : XE} {h' : XH} (hrun : bd_L_law b L xs [some (.retAddr b), none, none, none] [] = some (some (.inr (some (.int 1))), env', h')) (hc : h'.length ≤ 600000) (hsl : xsl h' ≤ 7302250) : W p l e room_1 s m #[Value.ref b] below meth c s.heap [] 0 0 (lw_Z below #[Value.ref b] s) (entryFrame m ([Value.ref b] : List Value).toArray 4) := by
  obtain ⟨hx, hb, hr, hml, hown, hts, hX, hbl, hlocks, hgv⟩ := C0
  obtain ⟨D, cI, hK⟩ := x_start hts
  have hex := x_startEx hts hgv
  have hl := lv_entry ([.ref b] : List Value) (n := 4) (Nat.le_of_ble_eq_true rfl)
  rw [lg_entry_eq]
  generalize (lg_sl ([.ref b] : List Value) ++ List.replicate (4 - (lg_sl ([.ref b] : List Value)).length) Slot.unset).toArray = ls at hl ⊢
  have hl : lv_has ls 4 [(0, .ref b)] := hl
  have C : xOK (true, p, l, e, room_1, s, m, #[Value.ref b], below, meth, c, s.heap.size, D, cI, 0, 0, some (.int 1), h', lw_Z below #[Value.ref b] s) RL cL_law false true 9 296 := by
    refine ⟨fun _ => ⟨hx, hb, hown, fun w hw => hts w (xBW_tbl w hw), hK, fun z => (by cases z), rfl, Nat.le_trans (Nat.sub_le _ _) hc, Nat.le_trans (Nat.sub_le _ _) hsl, Nat.le_refl _, Nat.le_refl _, hex⟩, fun pc env v hd hv _ => ?_, fun pc env hd hv => by cases hv⟩
    cases hv
    refine ⟨⟨Nat.le_refl _, Nat.le_refl _⟩, fun _ H locs ls h1 h2 h3 h4 h5 => ?_⟩
    refine va_forget h4 ?_
    refine W.widen (k := 600000) (n := 7302250) (Nat.le_trans (Nat.sub_le _ _) hc) (Nat.le_trans (Nat.sub_le _ _) hsl) ?_
    exact lw_ret hx hb hr hlocks hd
  have C2 : xOK (true, p, l, e, room_1, s, m, #[Value.ref b], below, meth, c, s.heap.size, D, cI, 0, 0, some (.int 1), h', lw_Z below #[Value.ref b] s) RL cL_law false true 6 146 := by
    obtain ⟨q1, q2, q3⟩ := C
    exact ⟨fun z => by
      obtain ⟨a1, a2, a3, a4, a5, a6, a7, a8, a9, a10, a11, a12⟩ := q1 z
      exact ⟨a1, a2, a3, a4, a5, a6, a7, a8, a9, Nat.le_trans (by decide) a10, Nat.le_trans (by decide) a11, a12⟩, q2, q3⟩
  have k := bo_L_law C2 (bs := b) (L := L) (xs := xs) (fun _ => ⟨hX, hbl, hbl⟩) _ _ _ _ _ hrun ⟨rfl, rfl⟩
  have k2 := k.2 rfl s.heap [] ls ?_ ⟨rfl, fun a c h => by simp at h⟩ (fun _ _ => rfl) (fun _ z => by cases z) ⟨Nat.le_refl _, Nat.le_refl _⟩
  · exact k2
  · refine ⟨by rw [hml]; rfl, by rw [hml]; exact hl.1, hl.2.1, fun i v hv => ?_⟩
    match i, hv with
    | 0, hv => cases hv; exact lv_at hl 0 rfl
    | 1, hv => cases hv
    | 2, hv => cases hv
    | 3, hv => cases hv
    | k + 4, hv => simp at hv
