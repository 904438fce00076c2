/-! String.length and String.charAt of the one String constant: the JDK's own methods, walked with the kit's rows -/
theorem dJ0_length_8abf5_0 : decode cJ0_length_8abf5 0 = .ok (.aload_n 0, 1) := by decide +kernel
theorem dJ0_length_8abf5_1 : decode cJ0_length_8abf5 1 = .ok (.getfield 9, 3) := by decide +kernel
theorem dJ0_length_8abf5_4 : decode cJ0_length_8abf5 4 = .ok (.arraylength, 1) := by decide +kernel
theorem dJ0_length_8abf5_5 : decode cJ0_length_8abf5 5 = .ok (.aload_n 0, 1) := by decide +kernel
theorem dJ0_length_8abf5_6 : decode cJ0_length_8abf5 6 = .ok (.invokevirtual 335, 3) := by decide +kernel
theorem dJ0_length_8abf5_9 : decode cJ0_length_8abf5 9 = .ok (.ishr, 1) := by decide +kernel
theorem dJ0_length_8abf5_10 : decode cJ0_length_8abf5 10 = .ok (.ireturn, 1) := by decide +kernel
theorem dJ0_charAt_5068e_0 : decode cJ0_charAt_5068e 0 = .ok (.aload_n 0, 1) := by decide +kernel
theorem dJ0_charAt_5068e_1 : decode cJ0_charAt_5068e 1 = .ok (.invokevirtual 492, 3) := by decide +kernel
theorem dJ0_charAt_5068e_4 : decode cJ0_charAt_5068e 4 = .ok (.ifCond .eq 12, 3) := by decide +kernel
theorem dJ0_charAt_5068e_7 : decode cJ0_charAt_5068e 7 = .ok (.aload_n 0, 1) := by decide +kernel
theorem dJ0_charAt_5068e_8 : decode cJ0_charAt_5068e 8 = .ok (.getfield 9, 3) := by decide +kernel
theorem dJ0_charAt_5068e_11 : decode cJ0_charAt_5068e 11 = .ok (.iload_n 1, 1) := by decide +kernel
theorem dJ0_charAt_5068e_12 : decode cJ0_charAt_5068e 12 = .ok (.invokestatic 495, 3) := by decide +kernel
theorem dJ0_charAt_5068e_15 : decode cJ0_charAt_5068e 15 = .ok (.ireturn, 1) := by decide +kernel
theorem dJ0_charAt_5068e_16 : decode cJ0_charAt_5068e 16 = .ok (.aload_n 0, 1) := by decide +kernel
theorem dJ0_charAt_5068e_17 : decode cJ0_charAt_5068e 17 = .ok (.getfield 9, 3) := by decide +kernel
theorem dJ0_charAt_5068e_20 : decode cJ0_charAt_5068e 20 = .ok (.iload_n 1, 1) := by decide +kernel
theorem dJ0_charAt_5068e_21 : decode cJ0_charAt_5068e 21 = .ok (.invokestatic 498, 3) := by decide +kernel
theorem dJ0_charAt_5068e_24 : decode cJ0_charAt_5068e 24 = .ok (.ireturn, 1) := by decide +kernel
theorem dJ0_coder_7d493_0 : decode cJ0_coder_7d493 0 = .ok (.getstatic 38, 3) := by decide +kernel
theorem dJ0_coder_7d493_3 : decode cJ0_coder_7d493 3 = .ok (.ifCond .eq 10, 3) := by decide +kernel
theorem dJ0_coder_7d493_6 : decode cJ0_coder_7d493 6 = .ok (.aload_n 0, 1) := by decide +kernel
theorem dJ0_coder_7d493_7 : decode cJ0_coder_7d493 7 = .ok (.getfield 15, 3) := by decide +kernel
theorem dJ0_coder_7d493_10 : decode cJ0_coder_7d493 10 = .ok (.goto 4, 3) := by decide +kernel
theorem dJ0_coder_7d493_13 : decode cJ0_coder_7d493 13 = .ok (.iconst 1, 1) := by decide +kernel
theorem dJ0_coder_7d493_14 : decode cJ0_coder_7d493 14 = .ok (.ireturn, 1) := by decide +kernel
theorem dJ0_isLatin1_aae02_0 : decode cJ0_isLatin1_aae02 0 = .ok (.getstatic 38, 3) := by decide +kernel
theorem dJ0_isLatin1_aae02_3 : decode cJ0_isLatin1_aae02 3 = .ok (.ifCond .eq 14, 3) := by decide +kernel
theorem dJ0_isLatin1_aae02_6 : decode cJ0_isLatin1_aae02 6 = .ok (.aload_n 0, 1) := by decide +kernel
theorem dJ0_isLatin1_aae02_7 : decode cJ0_isLatin1_aae02 7 = .ok (.getfield 15, 3) := by decide +kernel
theorem dJ0_isLatin1_aae02_10 : decode cJ0_isLatin1_aae02 10 = .ok (.ifCond .ne 7, 3) := by decide +kernel
theorem dJ0_isLatin1_aae02_13 : decode cJ0_isLatin1_aae02 13 = .ok (.iconst 1, 1) := by decide +kernel
theorem dJ0_isLatin1_aae02_14 : decode cJ0_isLatin1_aae02 14 = .ok (.goto 4, 3) := by decide +kernel
theorem dJ0_isLatin1_aae02_17 : decode cJ0_isLatin1_aae02 17 = .ok (.iconst 0, 1) := by decide +kernel
theorem dJ0_isLatin1_aae02_18 : decode cJ0_isLatin1_aae02 18 = .ok (.ireturn, 1) := by decide +kernel
theorem dJ0_checkIndex_df160_0 : decode cJ0_checkIndex_df160 0 = .ok (.iload_n 0, 1) := by decide +kernel
theorem dJ0_checkIndex_df160_1 : decode cJ0_checkIndex_df160 1 = .ok (.iload_n 1, 1) := by decide +kernel
theorem dJ0_checkIndex_df160_2 : decode cJ0_checkIndex_df160 2 = .ok (.getstatic 1053, 3) := by decide +kernel
theorem dJ0_checkIndex_df160_5 : decode cJ0_checkIndex_df160 5 = .ok (.invokestatic 1059, 3) := by decide +kernel
theorem dJ0_checkIndex_df160_8 : decode cJ0_checkIndex_df160 8 = .ok (.pop, 1) := by decide +kernel
theorem dJ0_checkIndex_df160_9 : decode cJ0_checkIndex_df160 9 = .ok (.return_, 1) := by decide +kernel
theorem dJ1_charAt_3b067_0 : decode cJ1_charAt_3b067 0 = .ok (.iload_n 1, 1) := by decide +kernel
theorem dJ1_charAt_3b067_1 : decode cJ1_charAt_3b067 1 = .ok (.aload_n 0, 1) := by decide +kernel
theorem dJ1_charAt_3b067_2 : decode cJ1_charAt_3b067 2 = .ok (.arraylength, 1) := by decide +kernel
theorem dJ1_charAt_3b067_3 : decode cJ1_charAt_3b067 3 = .ok (.invokestatic 9, 3) := by decide +kernel
theorem dJ1_charAt_3b067_6 : decode cJ1_charAt_3b067 6 = .ok (.aload_n 0, 1) := by decide +kernel
theorem dJ1_charAt_3b067_7 : decode cJ1_charAt_3b067 7 = .ok (.iload_n 1, 1) := by decide +kernel
theorem dJ1_charAt_3b067_8 : decode cJ1_charAt_3b067 8 = .ok (.baload, 1) := by decide +kernel
theorem dJ1_charAt_3b067_9 : decode cJ1_charAt_3b067 9 = .ok (.sipush 255, 3) := by decide +kernel
theorem dJ1_charAt_3b067_12 : decode cJ1_charAt_3b067 12 = .ok (.iand, 1) := by decide +kernel
theorem dJ1_charAt_3b067_13 : decode cJ1_charAt_3b067 13 = .ok (.i2c, 1) := by decide +kernel
theorem dJ1_charAt_3b067_14 : decode cJ1_charAt_3b067 14 = .ok (.ireturn, 1) := by decide +kernel
theorem dJ3_checkIndex_8e157_0 : decode cJ3_checkIndex_8e157 0 = .ok (.iload_n 0, 1) := by decide +kernel
theorem dJ3_checkIndex_8e157_1 : decode cJ3_checkIndex_8e157 1 = .ok (.ifCond .lt 8, 3) := by decide +kernel
theorem dJ3_checkIndex_8e157_4 : decode cJ3_checkIndex_8e157 4 = .ok (.iload_n 0, 1) := by decide +kernel
theorem dJ3_checkIndex_8e157_5 : decode cJ3_checkIndex_8e157 5 = .ok (.iload_n 1, 1) := by decide +kernel
theorem dJ3_checkIndex_8e157_6 : decode cJ3_checkIndex_8e157 6 = .ok (.if_icmp .lt 10, 3) := by decide +kernel
theorem dJ3_checkIndex_8e157_9 : decode cJ3_checkIndex_8e157 9 = .ok (.aload_n 2, 1) := by decide +kernel
theorem dJ3_checkIndex_8e157_10 : decode cJ3_checkIndex_8e157 10 = .ok (.iload_n 0, 1) := by decide +kernel
theorem dJ3_checkIndex_8e157_11 : decode cJ3_checkIndex_8e157 11 = .ok (.iload_n 1, 1) := by decide +kernel
theorem dJ3_checkIndex_8e157_12 : decode cJ3_checkIndex_8e157 12 = .ok (.invokestatic 95, 3) := by decide +kernel
theorem dJ3_checkIndex_8e157_15 : decode cJ3_checkIndex_8e157 15 = .ok (.athrow, 1) := by decide +kernel
theorem dJ3_checkIndex_8e157_16 : decode cJ3_checkIndex_8e157 16 = .ok (.iload_n 0, 1) := by decide +kernel
theorem dJ3_checkIndex_8e157_17 : decode cJ3_checkIndex_8e157 17 = .ok (.ireturn, 1) := by decide +kernel
def QcJ (rv : Option Value) : Array Value → State → Outcome → State → Prop := fun _ st o t => o = .returned rv ∧ t.heap = st.heap
def PcJ (b sa sv : Nat) (av : List Value) : Array Value → State → Prop := fun v U => v = av.toArray ∧ xSt b sa sv U U.heap
theorem PcJ_blind (b sa sv : Nat) (av : List Value) : FrameBlind (PcJ b sa sv av) := by
  intro a U g mk q
  exact ⟨q.1, xSt.same (u := U) (U := U.calling g mk a) rfl q.2⟩
section XJ
variable {p : Program} {l : Launch} {e : Env} {R : Room} {s : State} {m : MethodId} {args : Array Value} {below : List Frame} {meth : Method} {c : Code} {H : Heap} {locs : List Loc} {cells slots : Nat} {Q : State → Prop}
theorem j_back {rv : Option Value} {g : JFrame} {rest : List Value} {a : Array Value} (hr : CallRun p l e R s m args below meth c H locs cells slots 0 0 g rest (QcJ rv a) (fun _ => False)) (kk : W p l e R s m args below meth c H locs cells slots Q { g with pc := g.pc + 3, stack := rv.toList ++ rest }) : W p l e R s m args below meth c H locs cells slots Q g := by
  intro T hT X
  obtain ⟨v, st₀, t, T', L, h0, X', hL, e1, ⟨hv, hh⟩, st⟩ := hr T hT X
  cases hv
  obtain ⟨t2, a1, b1⟩ := kk T' (by rw [e1, hh, h0]) (Stand.forget X' (fun q h => (hL q h).elim))
  exact ⟨t2, st t2 a1, b1⟩
end XJ
theorem wJ0_coder_7d493 : xCallW yJ0_coder_7d493 cJ0_coder_7d493 1 (some .byte) 0 := ⟨(x_mem 326 (by decide +kernel) (by decide +kernel)), (x_mem 75 (by decide +kernel) (by decide +kernel)), ⟨by decide +kernel, by decide +kernel⟩, by decide +kernel⟩
theorem wJ0_length_8abf5 : xCallW yJ0_length_8abf5 cJ0_length_8abf5 1 (some .int) 0 := ⟨(x_mem 322 (by decide +kernel) (by decide +kernel)), (x_mem 75 (by decide +kernel) (by decide +kernel)), ⟨by decide +kernel, by decide +kernel⟩, by decide +kernel⟩
theorem wJ0_isLatin1_aae02 : xCallW yJ0_isLatin1_aae02 cJ0_isLatin1_aae02 1 (some .boolean) 0 := ⟨(x_mem 336 (by decide +kernel) (by decide +kernel)), (x_mem 75 (by decide +kernel) (by decide +kernel)), ⟨by decide +kernel, by decide +kernel⟩, by decide +kernel⟩
theorem wJ3_checkIndex_8e157 : xCallW yJ3_checkIndex_8e157 cJ3_checkIndex_8e157 3 (some .int) 3 := ⟨(x_mem 347 (by decide +kernel) (by decide +kernel)), (x_mem 77 (by decide +kernel) (by decide +kernel)), ⟨by decide +kernel, by decide +kernel⟩, by decide +kernel⟩
theorem wJ0_checkIndex_df160 : xCallW yJ0_checkIndex_df160 cJ0_checkIndex_df160 2 none 2 := ⟨(x_mem 342 (by decide +kernel) (by decide +kernel)), (x_mem 75 (by decide +kernel) (by decide +kernel)), ⟨by decide +kernel, by decide +kernel⟩, by decide +kernel⟩
theorem wJ1_charAt_3b067 : xCallW yJ1_charAt_3b067 cJ1_charAt_3b067 2 (some .char) 2 := ⟨(x_mem 339 (by decide +kernel) (by decide +kernel)), (x_mem 76 (by decide +kernel) (by decide +kernel)), ⟨by decide +kernel, by decide +kernel⟩, by decide +kernel⟩
theorem wJ0_charAt_5068e : xCallW yJ0_charAt_5068e cJ0_charAt_5068e 2 (some .char) 1 := ⟨(x_mem 332 (by decide +kernel) (by decide +kernel)), (x_mem 75 (by decide +kernel) (by decide +kernel)), ⟨by decide +kernel, by decide +kernel⟩, by decide +kernel⟩
theorem vJ0_335 : xCallV RJ0 335 yJ0_coder_7d493 := ⟨(x_mem 323 (by decide +kernel) (by decide +kernel)), (x_mem 324 (by decide +kernel) (by decide +kernel)), (x_mem 325 (by decide +kernel) (by decide +kernel))⟩
theorem vJ0_492 : xCallV RJ0 492 yJ0_isLatin1_aae02 := ⟨(x_mem 333 (by decide +kernel) (by decide +kernel)), (x_mem 334 (by decide +kernel) (by decide +kernel)), (x_mem 335 (by decide +kernel) (by decide +kernel))⟩
theorem vJ0_495 : xCallS RJ0 495 yJ1_charAt_3b067 := ⟨(x_mem 337 (by decide +kernel) (by decide +kernel)), (x_mem 338 (by decide +kernel) (by decide +kernel))⟩
theorem vJ1_9 : xCallS RJ1 9 yJ0_checkIndex_df160 := ⟨(x_mem 340 (by decide +kernel) (by decide +kernel)), (x_mem 341 (by decide +kernel) (by decide +kernel))⟩
theorem vJ0_1059 : xCallS RJ0 1059 yJ3_checkIndex_8e157 := ⟨(x_mem 345 (by decide +kernel) (by decide +kernel)), (x_mem 346 (by decide +kernel) (by decide +kernel))⟩
theorem vX9_276 : xCallV RX9 276 yJ0_length_8abf5 := ⟨(x_mem 319 (by decide +kernel) (by decide +kernel)), (x_mem 320 (by decide +kernel) (by decide +kernel)), (x_mem 321 (by decide +kernel) (by decide +kernel))⟩
theorem vX9_280 : xCallV RX9 280 yJ0_charAt_5068e := ⟨(x_mem 329 (by decide +kernel) (by decide +kernel)), (x_mem 330 (by decide +kernel) (by decide +kernel)), (x_mem 331 (by decide +kernel) (by decide +kernel))⟩
theorem flJ0_38 : Cond.fieldLink RJ0 38 "java/lang/String" "COMPACT_STRINGS" "Z" ∈ xBW := (x_mem 327 (by decide +kernel) (by decide +kernel))
theorem flJ0_15 : Cond.fieldLink RJ0 15 "java/lang/String" "coder" "B" ∈ xBW := (x_mem 1192 (by decide +kernel) (by decide +kernel))
theorem flJ0_9 : Cond.fieldLink RJ0 9 "java/lang/String" "value" "[B" ∈ xBW := (x_mem 1191 (by decide +kernel) (by decide +kernel))
theorem flJ0_1053 : Cond.fieldLink RJ0 1053 "jdk/internal/util/Preconditions" "SIOOBE_FORMATTER" "Ljava/util/function/BiFunction;" ∈ xBW := (x_mem 343 (by decide +kernel) (by decide +kernel))
set_option maxRecDepth 100000 in
theorem cJ0_coder_7d493_met (l : Launch) (b sa sv : Nat) : Met l yJ0_coder_7d493 (Cond.code yJ0_coder_7d493 cJ0_coder_7d493 1 (some .byte) :: xBW) ({ frames := 0, cells := 0, slots := 0, locals := 0 }) (PcJ b sa sv [.ref sa]) (QcJ (some (.int 0))) 0 0 (fun _ => False) := by
  refine Met.ofW (cc := cJ0_coder_7d493) (maxL := 1) (ret := (some .byte)) (by decide) rfl ?_
  intro p e s m args below meth c s₁ B hml hv
  obtain ⟨ha, hF⟩ := hv
  subst ha
  have hx := B.exec
  have hb := B.bytes
  have hr := B.returns
  have hts0 := atoms_spec (ws := Cond.code yJ0_coder_7d493 cJ0_coder_7d493 1 (some .byte) :: xBW) B.pre
  have hts : ∀ w ∈ xBW, w.before ([.ref sa] : List Value).toArray s = true := fun w hw => hts0 w (List.mem_cons_of_mem _ hw)
  have hown : s.vm.findClass RJ0 = some m.cls := findClass_of_methodNamed B.named
  have hlocks := B.notSynchronized
  have hF0 := hF
  obtain ⟨hS, hZ, hZq⟩ := hF
  have hSt := hS.1 0 (by decide)
  have hrf : va_S (fun q => b ≤ q) s.heap s.heap [] := va_S.rf
  have hl := lv_entry ([.ref sa] : List Value) (n := 1) (Nat.le_of_ble_eq_true rfl)
  rw [lg_entry_eq]
  generalize (lg_sl ([.ref sa] : List Value) ++ List.replicate (1 - (lg_sl ([.ref sa] : List Value)).length) Slot.unset).toArray = ls at hl ⊢
  have hl : lv_has ls 1 [(0, .ref sa)] := hl
  refine va_gets hx hb hZ hrf hown (hts _ flJ0_38) (fun _ h => h) dJ0_coder_7d493_0 ?_
  refine lv_if_eq (tgt := 13) hx hb dJ0_coder_7d493_3 (by decide) (fun q => absurd q (by decide)) (fun _ => ?_)
  refine lv_aload_n hx hb dJ0_coder_7d493_6 rfl (lv_at hl 0 rfl) ?_
  refine vk_getf hx hb hSt.2.1 hrf hown (hts _ flJ0_15) (fun _ h => h) dJ0_coder_7d493_7 ?_
  refine lv_goto (tgt := 14) hx hb dJ0_coder_7d493_10 (by decide) ?_
  exact W.zret (v := 0) (ty := .byte) hx hb hr (by decide +kernel) (fun t ht _ => ⟨rfl, ht⟩) (fun _ h => absurd h List.not_mem_nil) dJ0_coder_7d493_14 hlocks
set_option maxRecDepth 100000 in
theorem cJ0_isLatin1_aae02_met (l : Launch) (b sa sv : Nat) : Met l yJ0_isLatin1_aae02 (Cond.code yJ0_isLatin1_aae02 cJ0_isLatin1_aae02 1 (some .boolean) :: xBW) ({ frames := 0, cells := 0, slots := 0, locals := 0 }) (PcJ b sa sv [.ref sa]) (QcJ (some (.int 1))) 0 0 (fun _ => False) := by
  refine Met.ofW (cc := cJ0_isLatin1_aae02) (maxL := 1) (ret := (some .boolean)) (by decide) rfl ?_
  intro p e s m args below meth c s₁ B hml hv
  obtain ⟨ha, hF⟩ := hv
  subst ha
  have hx := B.exec
  have hb := B.bytes
  have hr := B.returns
  have hts0 := atoms_spec (ws := Cond.code yJ0_isLatin1_aae02 cJ0_isLatin1_aae02 1 (some .boolean) :: xBW) B.pre
  have hts : ∀ w ∈ xBW, w.before ([.ref sa] : List Value).toArray s = true := fun w hw => hts0 w (List.mem_cons_of_mem _ hw)
  have hown : s.vm.findClass RJ0 = some m.cls := findClass_of_methodNamed B.named
  have hlocks := B.notSynchronized
  have hF0 := hF
  obtain ⟨hS, hZ, hZq⟩ := hF
  have hSt := hS.1 0 (by decide)
  have hrf : va_S (fun q => b ≤ q) s.heap s.heap [] := va_S.rf
  have hl := lv_entry ([.ref sa] : List Value) (n := 1) (Nat.le_of_ble_eq_true rfl)
  rw [lg_entry_eq]
  generalize (lg_sl ([.ref sa] : List Value) ++ List.replicate (1 - (lg_sl ([.ref sa] : List Value)).length) Slot.unset).toArray = ls at hl ⊢
  have hl : lv_has ls 1 [(0, .ref sa)] := hl
  refine va_gets hx hb hZ hrf hown (hts _ flJ0_38) (fun _ h => h) dJ0_isLatin1_aae02_0 ?_
  refine lv_if_eq (tgt := 17) hx hb dJ0_isLatin1_aae02_3 (by decide) (fun q => absurd q (by decide)) (fun _ => ?_)
  refine lv_aload_n hx hb dJ0_isLatin1_aae02_6 rfl (lv_at hl 0 rfl) ?_
  refine vk_getf hx hb hSt.2.1 hrf hown (hts _ flJ0_15) (fun _ h => h) dJ0_isLatin1_aae02_7 ?_
  refine lv_if_ne (tgt := 17) hx hb dJ0_isLatin1_aae02_10 (by decide) (fun q => absurd rfl q) (fun _ => ?_)
  refine lv_iconst (v := 1) hx hb dJ0_isLatin1_aae02_13 (by decide) ?_
  refine lv_goto (tgt := 18) hx hb dJ0_isLatin1_aae02_14 (by decide) ?_
  exact W.zret (v := 1) (ty := .boolean) hx hb hr (by decide +kernel) (fun t ht _ => ⟨rfl, ht⟩) (fun _ h => absurd h List.not_mem_nil) dJ0_isLatin1_aae02_18 hlocks
set_option maxRecDepth 100000 in
theorem cJ0_length_8abf5_met (l : Launch) (b sa sv : Nat) : Met l yJ0_length_8abf5 (Cond.code yJ0_length_8abf5 cJ0_length_8abf5 1 (some .int) :: xBW) ({ frames := 1, cells := 0, slots := 0, locals := 20 }) (PcJ b sa sv [.ref sa]) (QcJ (some (.int 84))) 0 0 (fun _ => False) := by
  refine Met.ofW (cc := cJ0_length_8abf5) (maxL := 1) (ret := (some .int)) (by decide) rfl ?_
  intro p e s m args below meth c s₁ B hml hv
  obtain ⟨ha, hF⟩ := hv
  subst ha
  have hx := B.exec
  have hb := B.bytes
  have hr := B.returns
  have hts0 := atoms_spec (ws := Cond.code yJ0_length_8abf5 cJ0_length_8abf5 1 (some .int) :: xBW) B.pre
  have hts : ∀ w ∈ xBW, w.before ([.ref sa] : List Value).toArray s = true := fun w hw => hts0 w (List.mem_cons_of_mem _ hw)
  have hown : s.vm.findClass RJ0 = some m.cls := findClass_of_methodNamed B.named
  have hlocks := B.notSynchronized
  have hF0 := hF
  obtain ⟨hS, hZ, hZq⟩ := hF
  have hSt := hS.1 0 (by decide)
  have hrf : va_S (fun q => b ≤ q) s.heap s.heap [] := va_S.rf
  have hl := lv_entry ([.ref sa] : List Value) (n := 1) (Nat.le_of_ble_eq_true rfl)
  rw [lg_entry_eq]
  generalize (lg_sl ([.ref sa] : List Value) ++ List.replicate (1 - (lg_sl ([.ref sa] : List Value)).length) Slot.unset).toArray = ls at hl ⊢
  have hl : lv_has ls 1 [(0, .ref sa)] := hl
  refine lv_aload_n hx hb dJ0_length_8abf5_0 rfl (lv_at hl 0 rfl) ?_
  refine vk_getf hx hb hSt.2.2.1 hrf hown (hts _ flJ0_9) (fun _ h => h) dJ0_length_8abf5_1 ?_
  refine va_tlen (v := 84) hx hb hSt.2.2.2 hrf rfl dJ0_length_8abf5_4 ?_
  refine lv_aload_n hx hb dJ0_length_8abf5_5 rfl (lv_at hl 0 rfl) ?_
  obtain ⟨u1, u2, u3, u4⟩ := wJ0_coder_7d493
  obtain ⟨v1, v2, v3⟩ := vJ0_335
  refine j_back (W.runV (C := RJ0) (n := 0) (own := RJ0) (cc := cJ0_length_8abf5) (index := 335) (b := sa) (As := []) (rest := [.int 84]) ⟨hx, hb, rfl, hown, hts⟩ (cJ0_coder_7d493_met l b sa sv) ⟨⟨rfl, rfl, Nat.le_of_ble_eq_true rfl, Nat.le_of_ble_eq_true rfl, xBW_pay hts u1, List.mem_cons_self, hts _ u1, hts _ u2, u3, fun sig q => by rw [q] at u4; exact (Option.some.inj u4).symm, hts _ v1⟩, hts _ v2, hts _ v3⟩ ⟨PcJ_blind _ _ _ _, vk_recv (i := 0) hS (by decide) hrf, fun U hU hW => ⟨rfl, by rw [hU]; exact hF0.warm hW⟩⟩ rfl rfl (hl.1.trans hml.symm) rfl (lv_room (Nat.le_of_ble_eq_true rfl)) dJ0_length_8abf5_6 ⟨Nat.le_refl _, Nat.le_refl _⟩) ?_
  refine W.eq (g2 := F0 m 9 ls [.int 0, .int 84]) rfl ?_
  refine lv_ishr hx hb dJ0_length_8abf5_9 ?_
  exact W.iret (v := ((84 : Int32) >>> ((0 : Int32) &&& 31))) hx hb hr (fun t ht _ => ⟨rfl, ht⟩) (fun _ h => absurd h List.not_mem_nil) dJ0_length_8abf5_10 hlocks
set_option maxRecDepth 100000 in
theorem cJ3_checkIndex_8e157_met (l : Launch) (b sa sv : Nat) (i n : Int32) (r : Value) (hi : ¬ i < 0) (hn : i < n) (hr1 : r.category = 1) : Met l yJ3_checkIndex_8e157 (Cond.code yJ3_checkIndex_8e157 cJ3_checkIndex_8e157 3 (some .int) :: xBW) ({ frames := 0, cells := 0, slots := 0, locals := 0 }) (PcJ b sa sv [.int i, .int n, r]) (QcJ (some (.int i))) 0 0 (fun _ => False) := by
  refine Met.ofW (cc := cJ3_checkIndex_8e157) (maxL := 3) (ret := (some .int)) (by decide) rfl ?_
  intro p e s m args below meth c s₁ B hml hv
  obtain ⟨ha, hF⟩ := hv
  subst ha
  have hx := B.exec
  have hb := B.bytes
  have hr := B.returns
  have hts0 := atoms_spec (ws := Cond.code yJ3_checkIndex_8e157 cJ3_checkIndex_8e157 3 (some .int) :: xBW) B.pre
  have hts : ∀ w ∈ xBW, w.before ([.int i, .int n, r] : List Value).toArray s = true := fun w hw => hts0 w (List.mem_cons_of_mem _ hw)
  have hown : s.vm.findClass RJ3 = some m.cls := findClass_of_methodNamed B.named
  have hlocks := B.notSynchronized
  have hF0 := hF
  obtain ⟨hS, hZ, hZq⟩ := hF
  have hSt := hS.1 0 (by decide)
  have hrf : va_S (fun q => b ≤ q) s.heap s.heap [] := va_S.rf
  have hlen : (lg_sl ([.int i, .int n, r] : List Value)).length ≤ 3 := by
    have q1 : (Value.int i).category = 1 := rfl
    have q2 : (Value.int n).category = 1 := rfl
    simp [lg_sl, q1, q2, hr1]
  have hl := lv_entry ([.int i, .int n, r] : List Value) (n := 3) hlen
  rw [lg_entry_eq]
  generalize (lg_sl ([.int i, .int n, r] : List Value) ++ List.replicate (3 - (lg_sl ([.int i, .int n, r] : List Value)).length) Slot.unset).toArray = ls at hl ⊢
  have hl : lv_has ls 3 [(0, .int i), (1, .int n), (2, r)] := hl
  refine lv_iload_n hx hb dJ3_checkIndex_8e157_0 rfl (lv_at hl 0 rfl) ?_
  refine lv_if_lt (tgt := 9) hx hb dJ3_checkIndex_8e157_1 (by decide) (fun q => absurd q hi) (fun _ => ?_)
  refine lv_iload_n hx hb dJ3_checkIndex_8e157_4 rfl (lv_at hl 0 rfl) ?_
  refine lv_iload_n hx hb dJ3_checkIndex_8e157_5 rfl (lv_at hl 1 rfl) ?_
  refine lv_icmp_lt (tgt := 16) hx hb dJ3_checkIndex_8e157_6 (by decide) (fun _ => ?_) (fun q => absurd hn q)
  refine lv_iload_n hx hb dJ3_checkIndex_8e157_16 rfl (lv_at hl 0 rfl) ?_
  exact W.iret (v := i) hx hb hr (fun t ht _ => ⟨rfl, ht⟩) (fun _ h => absurd h List.not_mem_nil) dJ3_checkIndex_8e157_17 hlocks
set_option maxRecDepth 100000 in
theorem cJ0_checkIndex_df160_met (l : Launch) (b sa sv : Nat) (i n : Int32) (hi : ¬ i < 0) (hn : i < n) : Met l yJ0_checkIndex_df160 (Cond.code yJ0_checkIndex_df160 cJ0_checkIndex_df160 2 none :: xBW) ({ frames := 1, cells := 0, slots := 0, locals := 22 }) (PcJ b sa sv [.int i, .int n]) (QcJ none) 0 0 (fun _ => False) := by
  refine Met.ofW (cc := cJ0_checkIndex_df160) (maxL := 2) (ret := none) (by decide) rfl ?_
  intro p e s m args below meth c s₁ B hml hv
  obtain ⟨ha, hF⟩ := hv
  subst ha
  have hx := B.exec
  have hb := B.bytes
  have hr := B.returns
  have hts0 := atoms_spec (ws := Cond.code yJ0_checkIndex_df160 cJ0_checkIndex_df160 2 none :: xBW) B.pre
  have hts : ∀ w ∈ xBW, w.before ([.int i, .int n] : List Value).toArray s = true := fun w hw => hts0 w (List.mem_cons_of_mem _ hw)
  have hown : s.vm.findClass RJ0 = some m.cls := findClass_of_methodNamed B.named
  have hlocks := B.notSynchronized
  have hF0 := hF
  obtain ⟨hS, hZ, hZq⟩ := hF
  have hSt := hS.1 0 (by decide)
  have hrf : va_S (fun q => b ≤ q) s.heap s.heap [] := va_S.rf
  have hl := lv_entry ([.int i, .int n] : List Value) (n := 2) (Nat.le_of_ble_eq_true rfl)
  rw [lg_entry_eq]
  generalize (lg_sl ([.int i, .int n] : List Value) ++ List.replicate (2 - (lg_sl ([.int i, .int n] : List Value)).length) Slot.unset).toArray = ls at hl ⊢
  have hl : lv_has ls 2 [(0, .int i), (1, .int n)] := hl
  refine lv_iload_n hx hb dJ0_checkIndex_df160_0 rfl (lv_at hl 0 rfl) ?_
  refine lv_iload_n hx hb dJ0_checkIndex_df160_1 rfl (lv_at hl 1 rfl) ?_
  rcases hZq with hZ2 | ⟨fa, hZ2⟩
  · refine va_gets hx hb hZ2 hrf hown (hts _ flJ0_1053) (fun _ h => h) dJ0_checkIndex_df160_2 ?_
    obtain ⟨u1, u2, u3, u4⟩ := wJ3_checkIndex_8e157
    obtain ⟨v1, v2⟩ := vJ0_1059
    refine j_back (W.runS (n := 3) (own := RJ0) (cc := cJ0_checkIndex_df160) (index := 1059) (As := [.int i, .int n, (.null : Value)]) (rest := []) ⟨hx, hb, rfl, hown, hts⟩ (cJ3_checkIndex_8e157_met l b sa sv i n (.null : Value) hi hn rfl) ⟨⟨rfl, rfl, Nat.le_of_ble_eq_true rfl, Nat.le_of_ble_eq_true rfl, xBW_pay hts u1, List.mem_cons_self, hts _ u1, hts _ u2, u3, fun sig q => by rw [q] at u4; exact (Option.some.inj u4).symm, hts _ v1⟩, hts _ v2⟩ ⟨PcJ_blind _ _ _ _, fun U hU hW => ⟨rfl, by rw [hU]; exact hF0.warm hW⟩⟩ rfl rfl (hl.1.trans hml.symm) rfl (lv_room (Nat.le_of_ble_eq_true rfl)) dJ0_checkIndex_df160_5 ⟨Nat.le_refl _, Nat.le_refl _⟩) ?_
    refine W.eq (g2 := F0 m 8 ls [.int i]) rfl ?_
    refine lv_pop hx hb dJ0_checkIndex_df160_8 rfl ?_
    exact W.vret hx hb hr (fun t ht _ => ⟨rfl, ht⟩) (fun _ h => absurd h List.not_mem_nil) dJ0_checkIndex_df160_9 hlocks
  · refine va_gets hx hb hZ2 hrf hown (hts _ flJ0_1053) (fun _ h => h) dJ0_checkIndex_df160_2 ?_
    obtain ⟨u1, u2, u3, u4⟩ := wJ3_checkIndex_8e157
    obtain ⟨v1, v2⟩ := vJ0_1059
    refine j_back (W.runS (n := 3) (own := RJ0) (cc := cJ0_checkIndex_df160) (index := 1059) (As := [.int i, .int n, (.ref fa : Value)]) (rest := []) ⟨hx, hb, rfl, hown, hts⟩ (cJ3_checkIndex_8e157_met l b sa sv i n (.ref fa : Value) hi hn rfl) ⟨⟨rfl, rfl, Nat.le_of_ble_eq_true rfl, Nat.le_of_ble_eq_true rfl, xBW_pay hts u1, List.mem_cons_self, hts _ u1, hts _ u2, u3, fun sig q => by rw [q] at u4; exact (Option.some.inj u4).symm, hts _ v1⟩, hts _ v2⟩ ⟨PcJ_blind _ _ _ _, fun U hU hW => ⟨rfl, by rw [hU]; exact hF0.warm hW⟩⟩ rfl rfl (hl.1.trans hml.symm) rfl (lv_room (Nat.le_of_ble_eq_true rfl)) dJ0_checkIndex_df160_5 ⟨Nat.le_refl _, Nat.le_refl _⟩) ?_
    refine W.eq (g2 := F0 m 8 ls [.int i]) rfl ?_
    refine lv_pop hx hb dJ0_checkIndex_df160_8 rfl ?_
    exact W.vret hx hb hr (fun t ht _ => ⟨rfl, ht⟩) (fun _ h => absurd h List.not_mem_nil) dJ0_checkIndex_df160_9 hlocks

theorem xByt_ok : ∀ j : Nat, j < 84 → ((xByt.getD j 0 &&& 255).toUInt32 % 65536).toInt32 = xByt.getD j 0 := by decide +kernel
theorem xByt_ch : ∀ j : Nat, j < 84 → narrow FieldType.char (.int (xByt.getD j 0)) = .int (xByt.getD j 0) := by decide +kernel
theorem vp_in_lt {i : Int32} {n : Nat} (h : vp_in i n) (hn : n < 2 ^ 31) : ¬ i < 0 ∧ i < Int32.ofNat n := by
  obtain ⟨j, hj, rfl⟩ := vp_in_of h hn
  exact ⟨nI_pos (by omega), nI_lt hj hn⟩
theorem vp_in_nat {i : Int32} {n : Nat} (h : vp_in i n) : i.toNatClampNeg < n := Nat.not_le.mp fun q => h (Or.inr q)
set_option maxRecDepth 100000 in
theorem cJ1_charAt_3b067_met (l : Launch) (b sa sv : Nat) (i : Int32) (hi : vp_in i 84) : Met l yJ1_charAt_3b067 (Cond.code yJ1_charAt_3b067 cJ1_charAt_3b067 2 (some .char) :: xBW) ({ frames := 2, cells := 0, slots := 0, locals := 43 }) (PcJ b sa sv [.ref sv, .int i]) (QcJ (some (.int (xByt.getD i.toNatClampNeg 0)))) 0 0 (fun _ => False) := by
  refine Met.ofW (cc := cJ1_charAt_3b067) (maxL := 2) (ret := (some .char)) (by decide) rfl ?_
  intro p e s m args below meth c s₁ B hml hv
  obtain ⟨ha, hF⟩ := hv
  subst ha
  have hx := B.exec
  have hb := B.bytes
  have hr := B.returns
  have hts0 := atoms_spec (ws := Cond.code yJ1_charAt_3b067 cJ1_charAt_3b067 2 (some .char) :: xBW) B.pre
  have hts : ∀ w ∈ xBW, w.before ([.ref sv, .int i] : List Value).toArray s = true := fun w hw => hts0 w (List.mem_cons_of_mem _ hw)
  have hown : s.vm.findClass RJ1 = some m.cls := findClass_of_methodNamed B.named
  have hlocks := B.notSynchronized
  have hF0 := hF
  obtain ⟨hS, hZ, hZq⟩ := hF
  have hSt := hS.1 0 (by decide)
  have hrf : va_S (fun q => b ≤ q) s.heap s.heap [] := va_S.rf
  have hl := lv_entry ([.ref sv, .int i] : List Value) (n := 2) (Nat.le_of_ble_eq_true rfl)
  rw [lg_entry_eq]
  generalize (lg_sl ([.ref sv, .int i] : List Value) ++ List.replicate (2 - (lg_sl ([.ref sv, .int i] : List Value)).length) Slot.unset).toArray = ls at hl ⊢
  have hl : lv_has ls 2 [(0, .ref sv), (1, .int i)] := hl
  refine lv_iload_n hx hb dJ1_charAt_3b067_0 rfl (lv_at hl 1 rfl) ?_
  refine lv_aload_n hx hb dJ1_charAt_3b067_1 rfl (lv_at hl 0 rfl) ?_
  refine va_tlen (v := 84) hx hb hSt.2.2.2 hrf rfl dJ1_charAt_3b067_2 ?_
  have hi2 := vp_in_lt hi (by decide)
  obtain ⟨u1, u2, u3, u4⟩ := wJ0_checkIndex_df160
  obtain ⟨v1, v2⟩ := vJ1_9
  refine j_back (W.runS (n := 2) (own := RJ1) (cc := cJ1_charAt_3b067) (index := 9) (As := [.int i, .int 84]) (rest := []) ⟨hx, hb, rfl, hown, hts⟩ (cJ0_checkIndex_df160_met l b sa sv i 84 hi2.1 hi2.2) ⟨⟨rfl, rfl, Nat.le_of_ble_eq_true rfl, Nat.le_of_ble_eq_true rfl, xBW_pay hts u1, List.mem_cons_self, hts _ u1, hts _ u2, u3, fun sig q => by rw [q] at u4; exact (Option.some.inj u4).symm, hts _ v1⟩, hts _ v2⟩ ⟨PcJ_blind _ _ _ _, fun U hU hW => ⟨rfl, by rw [hU]; exact hF0.warm hW⟩⟩ rfl rfl (hl.1.trans hml.symm) rfl (lv_room (Nat.le_of_ble_eq_true rfl)) dJ1_charAt_3b067_3 ⟨Nat.le_refl _, Nat.le_refl _⟩) ?_
  refine W.eq (g2 := F0 m 6 ls []) rfl ?_
  refine lv_aload_n hx hb dJ1_charAt_3b067_6 rfl (lv_at hl 0 rfl) ?_
  refine lv_iload_n hx hb dJ1_charAt_3b067_7 rfl (lv_at hl 1 rfl) ?_
  refine va_tb hx hb hSt.2.2.2 hrf hi (v := .int (xByt.getD i.toNatClampNeg 0)) rfl dJ1_charAt_3b067_8 ?_
  refine lv_sipush (v := 255) hx hb dJ1_charAt_3b067_9 (by decide) ?_
  refine lv_iand hx hb dJ1_charAt_3b067_12 ?_
  refine lv_i2c hx hb dJ1_charAt_3b067_13 (xByt_ok _ (vp_in_nat hi)) ?_
  exact W.zret (v := xByt.getD i.toNatClampNeg 0) (ty := .char) hx hb hr (xByt_ch _ (vp_in_nat hi)) (fun t ht _ => ⟨rfl, ht⟩) (fun _ h => absurd h List.not_mem_nil) dJ1_charAt_3b067_14 hlocks
set_option maxRecDepth 100000 in
theorem cJ0_charAt_5068e_met (l : Launch) (b sa sv : Nat) (i : Int32) (hi : vp_in i 84) : Met l yJ0_charAt_5068e (Cond.code yJ0_charAt_5068e cJ0_charAt_5068e 2 (some .char) :: xBW) ({ frames := 3, cells := 0, slots := 0, locals := 64 }) (PcJ b sa sv [.ref sa, .int i]) (QcJ (some (.int (xByt.getD i.toNatClampNeg 0)))) 0 0 (fun _ => False) := by
  refine Met.ofW (cc := cJ0_charAt_5068e) (maxL := 2) (ret := (some .char)) (by decide) rfl ?_
  intro p e s m args below meth c s₁ B hml hv
  obtain ⟨ha, hF⟩ := hv
  subst ha
  have hx := B.exec
  have hb := B.bytes
  have hr := B.returns
  have hts0 := atoms_spec (ws := Cond.code yJ0_charAt_5068e cJ0_charAt_5068e 2 (some .char) :: xBW) B.pre
  have hts : ∀ w ∈ xBW, w.before ([.ref sa, .int i] : List Value).toArray s = true := fun w hw => hts0 w (List.mem_cons_of_mem _ hw)
  have hown : s.vm.findClass RJ0 = some m.cls := findClass_of_methodNamed B.named
  have hlocks := B.notSynchronized
  have hF0 := hF
  obtain ⟨hS, hZ, hZq⟩ := hF
  have hSt := hS.1 0 (by decide)
  have hrf : va_S (fun q => b ≤ q) s.heap s.heap [] := va_S.rf
  have hl := lv_entry ([.ref sa, .int i] : List Value) (n := 2) (Nat.le_of_ble_eq_true rfl)
  rw [lg_entry_eq]
  generalize (lg_sl ([.ref sa, .int i] : List Value) ++ List.replicate (2 - (lg_sl ([.ref sa, .int i] : List Value)).length) Slot.unset).toArray = ls at hl ⊢
  have hl : lv_has ls 2 [(0, .ref sa), (1, .int i)] := hl
  refine lv_aload_n hx hb dJ0_charAt_5068e_0 rfl (lv_at hl 0 rfl) ?_
  obtain ⟨u1, u2, u3, u4⟩ := wJ0_isLatin1_aae02
  obtain ⟨v1, v2, v3⟩ := vJ0_492
  refine j_back (W.runV (C := RJ0) (n := 0) (own := RJ0) (cc := cJ0_charAt_5068e) (index := 492) (b := sa) (As := []) (rest := []) ⟨hx, hb, rfl, hown, hts⟩ (cJ0_isLatin1_aae02_met l b sa sv) ⟨⟨rfl, rfl, Nat.le_of_ble_eq_true rfl, Nat.le_of_ble_eq_true rfl, xBW_pay hts u1, List.mem_cons_self, hts _ u1, hts _ u2, u3, fun sig q => by rw [q] at u4; exact (Option.some.inj u4).symm, hts _ v1⟩, hts _ v2, hts _ v3⟩ ⟨PcJ_blind _ _ _ _, vk_recv (i := 0) hS (by decide) hrf, fun U hU hW => ⟨rfl, by rw [hU]; exact hF0.warm hW⟩⟩ rfl rfl (hl.1.trans hml.symm) rfl (lv_room (Nat.le_of_ble_eq_true rfl)) dJ0_charAt_5068e_1 ⟨Nat.le_refl _, Nat.le_refl _⟩) ?_
  refine W.eq (g2 := F0 m 4 ls [.int 1]) rfl ?_
  refine lv_if_eq (tgt := 16) hx hb dJ0_charAt_5068e_4 (by decide) (fun q => absurd q (by decide)) (fun _ => ?_)
  refine lv_aload_n hx hb dJ0_charAt_5068e_7 rfl (lv_at hl 0 rfl) ?_
  refine vk_getf hx hb hSt.2.2.1 hrf hown (hts _ flJ0_9) (fun _ h => h) dJ0_charAt_5068e_8 ?_
  refine lv_iload_n hx hb dJ0_charAt_5068e_11 rfl (lv_at hl 1 rfl) ?_
  obtain ⟨u1, u2, u3, u4⟩ := wJ1_charAt_3b067
  obtain ⟨v1, v2⟩ := vJ0_495
  refine j_back (W.runS (n := 2) (own := RJ0) (cc := cJ0_charAt_5068e) (index := 495) (As := [.ref sv, .int i]) (rest := []) ⟨hx, hb, rfl, hown, hts⟩ (cJ1_charAt_3b067_met l b sa sv i hi) ⟨⟨rfl, rfl, Nat.le_of_ble_eq_true rfl, Nat.le_of_ble_eq_true rfl, xBW_pay hts u1, List.mem_cons_self, hts _ u1, hts _ u2, u3, fun sig q => by rw [q] at u4; exact (Option.some.inj u4).symm, hts _ v1⟩, hts _ v2⟩ ⟨PcJ_blind _ _ _ _, fun U hU hW => ⟨rfl, by rw [hU]; exact hF0.warm hW⟩⟩ rfl rfl (hl.1.trans hml.symm) rfl (lv_room (Nat.le_of_ble_eq_true rfl)) dJ0_charAt_5068e_12 ⟨Nat.le_refl _, Nat.le_refl _⟩) ?_
  refine W.eq (g2 := F0 m 15 ls [.int (xByt.getD i.toNatClampNeg 0)]) rfl ?_
  exact W.zret (v := xByt.getD i.toNatClampNeg 0) (ty := .char) hx hb hr (xByt_ch _ (vp_in_nat hi)) (fun t ht _ => ⟨rfl, ht⟩) (fun _ h => absurd h List.not_mem_nil) dJ0_charAt_5068e_15 hlocks
-- the constant's row: ldc_w
theorem j_ldcw {p : Program} {l : Launch} {e : Env} {R : Room} {s : State} {m : MethodId} {args : Array Value} {below : List Frame} {meth : Method} {c : Code} {H : Heap} {locs : List Loc} {cells slots : Nat} {Q : State → Prop} {cc : ByteArray} {pc : Nat} {ls : Array Slot} {rest : List Value} (hexec : p.tables.exec = Jvm.exec) (hb : c.code = cc) {own tx : String} {index q : Nat} (hown : s.vm.findClass own = some m.cls) (hZ : vk_R own index tx q s) (hdg : decode cc pc = .ok (.ldc_w index, 3))
    (k : W p l e R s m args below meth c H locs cells slots Q (F0 m (pc + 3) ls (.ref q :: rest))) : W p l e R s m args below meth c H locs cells slots Q (F0 m pc ls rest) := by
  intro T hT X
  obtain ⟨t, a1, b1⟩ := k T hT X
  have hZ1 : (Cond.stringRef own index tx).before args s = true := hZ.1
  have hZ2 : (Term.string own index).eval args s none [] s = some (.ref q) := hZ.2
  obtain ⟨kc, cf, i, a', hk, hcf, hcp, -, hr, hev'⟩ := Cond.stringRef_spec hown hZ1
  cases hZ2.symm.trans hev'
  obtain ⟨k', hk', he⟩ := X.warmed.alike.2.2 _ _ hk
  have hr' : k'.resolved[index]? = some (some (.string q)) := by
    rcases X.warmed.entry hk hk' index with h | ⟨h, -⟩
    · rw [h]; exact hr
    · rw [hr] at h; cases h
  refine ⟨t, ?_, b1⟩
  jvm_step X.here [X.here.top, hexec, hb, hdg, ldc_w.wp_string (e := e) (s := T) (f := F0 m pc ls rest) X.here.top hk' (by rw [he]; exact hcf) hcp hr']
  exact a1
section XSTR
variable {K : XK} {cc : ByteArray} {ini bz : Bool} {fr lo d pc p2 : Nat}
def e_slen : XX := fun _ h => some (.int 84, h)
def e_sat (i : XX) : XX := fun env h => (i env h).bind fun r => (x_int r.1).bind fun x => (x_ix x 84).map fun j => (.int (xByt.getD j 0), r.2)
theorem ce_slen (C : xOK K RX9 cc ini bz fr lo) (hd0 : decode cc pc = .ok (.ldc_w 274, 3)) (hd : decode cc (pc + 3) = .ok (.invokevirtual 276, 3)) (hr1 : 4 ≤ fr) (hr2 : 100 ≤ lo) (h8 : d ≤ 8) : CE K d pc e_slen (pc + 6) := by
  intro env h v h' he st hst k
  cases he
  obtain ⟨fl, p, l, e, R, s, m, args0, below, meth, c, b, D, cI, n0, s0, rv0, hF, Q⟩ := K
  refine And.intro k.1 (fun hf H locs ls h1 h2 h3 h4 h5 => ?_)
  obtain ⟨hx, hb, hown, hts, hK, hini, hbs, hrc, hrs, hfr, hlo, hex⟩ := C.1 hf
  obtain ⟨-, -, sa, sv, hR, hSt⟩ := hex
  refine j_ldcw hx hb hown hR hd0 ?_
  obtain ⟨u1, u2, u3, u4⟩ := wJ0_length_8abf5
  obtain ⟨v1, v2, v3⟩ := vX9_276
  have hS : va_S (fun q => b ≤ q) s.heap H locs := ⟨by rw [h2.1, hbs]; have := h5.1; omega, fun q _ hq => h3 q (Nat.not_le.mp hq), h4⟩
  have k1 := k.1
  refine j_back (W.runV (C := RJ0) (n := 0) (own := RX9) (cc := cc) (index := 276) (b := sa) (As := []) (rest := st.map (xv b)) ⟨hx, hb, rfl, hown, hts⟩ (cJ0_length_8abf5_met l b sa sv) ⟨⟨rfl, rfl, Nat.le_trans (by decide) (Nat.le_trans hr1 hfr), Nat.le_trans (by decide) (Nat.le_trans hr2 hlo), xBW_pay hts u1, List.mem_cons_self, hts _ u1, hts _ u2, u3, fun sig q => by rw [q] at u4; exact (Option.some.inj u4).symm, hts _ v1⟩, hts _ v2, hts _ v3⟩ ⟨PcJ_blind _ _ _ _, vk_recv (i := 0) hSt.1 (by decide) hS, fun U hU hW => ⟨rfl, by rw [hU]; exact (hSt.kept h3).warm hW⟩⟩ rfl rfl h1.2.1 rfl (lv_room (by rw [xv_sum]; omega)) hd ⟨by omega, by omega⟩) ?_
  exact k.2 hf H locs ls h1 h2 h3 h4 h5
theorem ce_sat {i : XX} (C : xOK K RX9 cc ini bz fr lo) (hd0 : decode cc pc = .ok (.ldc_w 274, 3)) (hi : ∀ sa : Nat, CE K (d + 2) (pc + 3) i p2) (hd : decode cc p2 = .ok (.invokevirtual 280, 3)) (hr1 : 4 ≤ fr) (hr2 : 100 ≤ lo) (h8 : d ≤ 8) : CE K d pc (e_sat i) (p2 + 3) := by
  intro env h v h' he st hst k
  obtain ⟨⟨v1, ha⟩, e1, he2⟩ := Option.bind_eq_some_iff.mp he
  obtain ⟨x, e2, he3⟩ := Option.bind_eq_some_iff.mp he2
  obtain ⟨j, e3, he4⟩ := Option.map_eq_some_iff.mp he3
  cases he4
  have q1 := x_int_spec e2
  obtain ⟨q2, q3⟩ := x_ix_spec e3
  dsimp only at q1 k
  subst q1
  subst q3
  have hcall : ∀ sa : Nat, (K.1 = true → ∃ sv : Nat, vk_R RX9 274 xTx sa K.2.2.2.2.2.1 ∧ xSt K.2.2.2.2.2.2.2.2.2.2.2.1 sa sv K.2.2.2.2.2.1 K.2.2.2.2.2.1.heap) → xG K p2 env (.int x :: .retAddr sa :: st) ha := by
    intro sa hsa
    obtain ⟨fl, p, l, e, R, s, m, args0, below, meth, c, b, D, cI, n0, s0, rv0, hF, Q⟩ := K
    refine And.intro k.1 (fun hf H locs ls h1 h2 h3 h4 h5 => ?_)
    obtain ⟨hx, hb, hown, hts, hK, hini, hbs, hrc, hrs, hfr, hlo, hex⟩ := C.1 hf
    obtain ⟨sv, hR, hSt⟩ := hsa hf
    dsimp only at hR hSt
    obtain ⟨u1, u2, u3, u4⟩ := wJ0_charAt_5068e
    obtain ⟨v1, v2, v3⟩ := vX9_280
    have hS : va_S (fun q => b ≤ q) s.heap H locs := ⟨by rw [h2.1, hbs]; have := h5.1; omega, fun q _ hq => h3 q (Nat.not_le.mp hq), h4⟩
    have k1 := k.1
    refine j_back (W.runV (C := RJ0) (n := 1) (own := RX9) (cc := cc) (index := 280) (b := sa) (As := [.int x]) (rest := st.map (xv b)) ⟨hx, hb, rfl, hown, hts⟩ (cJ0_charAt_5068e_met l b sa sv x q2) ⟨⟨rfl, rfl, Nat.le_trans (by decide) (Nat.le_trans hr1 hfr), Nat.le_trans (by decide) (Nat.le_trans hr2 hlo), xBW_pay hts u1, List.mem_cons_self, hts _ u1, hts _ u2, u3, fun sig q => by rw [q] at u4; exact (Option.some.inj u4).symm, hts _ v1⟩, hts _ v2, hts _ v3⟩ ⟨PcJ_blind _ _ _ _, vk_recv (i := 0) hSt.1 (by decide) hS, fun U hU hW => ⟨rfl, by rw [hU]; exact (hSt.kept h3).warm hW⟩⟩ rfl rfl h1.2.1 rfl (lv_room (by rw [xv_sum]; omega)) hd ⟨by omega, by omega⟩) ?_
    exact k.2 hf H locs ls h1 h2 h3 h4 h5
  by_cases hfl : K.1 = true
  · have hex : ∃ sa sv : Nat, vk_R RX9 274 xTx sa K.2.2.2.2.2.1 ∧ xSt K.2.2.2.2.2.2.2.2.2.2.2.1 sa sv K.2.2.2.2.2.1 K.2.2.2.2.2.1.heap := by
      obtain ⟨fl, p, l, e, R, s, m, args0, below, meth, c, b, D, cI, n0, s0, rv0, hF, Q⟩ := K
      obtain ⟨hx, hb, hown, hts, hK, hini, hbs, hrc, hrs, hfr, hlo, hex⟩ := C.1 hfl
      obtain ⟨-, -, sa, sv, hR, hSt⟩ := hex
      exact ⟨sa, sv, hR, hSt⟩
    obtain ⟨sa, sv, hR, hSt⟩ := hex
    have kk := hi sa _ _ _ _ e1 (.retAddr sa :: st) (cat_cons _ hst) (hcall sa (fun _ => ⟨sv, hR, hSt⟩))
    obtain ⟨fl, p, l, e, R, s, m, args0, below, meth, c, b, D, cI, n0, s0, rv0, hF, Q⟩ := K
    refine And.intro kk.1 (fun hf H locs ls h1 h2 h3 h4 h5 => ?_)
    obtain ⟨hx, hb, hown, hts, hK, hini, hbs, hrc, hrs, hfr, hlo, hex⟩ := C.1 hf
    exact j_ldcw hx hb hown hR hd0 (kk.2 hf H locs ls h1 h2 h3 h4 h5)
  · have kk := hi 0 _ _ _ _ e1 (.retAddr 0 :: st) (cat_cons _ hst) (hcall 0 (fun z => absurd z hfl))
    obtain ⟨fl, p, l, e, R, s, m, args0, below, meth, c, b, D, cI, n0, s0, rv0, hF, Q⟩ := K
    exact And.intro kk.1 (fun hf => absurd hf hfl)

end XSTR
theorem x_lk_X8_takeItem {a b c : XS} : ∀ x : Int, (match [(115, a), (119, b), (108, c)].findIdx? (fun (q : Int × XS) => decide (q.1 = x)) with
    | some j => (([52, 94, 136] : List Nat)[j]?).map (fun (t : Nat) => (t : Int))
    | none => some ((141 : Nat) : Int)) = some (((17 : Nat) : Int) + Op.lookupswitch.offset (#[(108, 119), (115, 35), (119, 77)] : Array (Int × Int)).toList 124 x) := by
  intro x
  by_cases h1 : x = 115
  · subst h1; rfl
  by_cases h2 : x = 119
  · subst h2; rfl
  by_cases h3 : x = 108
  · subst h3; rfl
  have g1 : ¬ 115 = x := fun q => h1 q.symm
  have g2 : ¬ 119 = x := fun q => h2 q.symm
  have g3 : ¬ 108 = x := fun q => h3 q.symm
  simp [List.findIdx?_cons, g1, g2, g3, Op.lookupswitch.offset, h1, h2, h3]

