/-! ===== String constants: length, charAt, out of the JDK's own code ===== -/
theorem dJ0_coder_7d493_0 : decode cJ0_coder_7d493 0 = .ok (.getstatic 38, 3) := by decide +kernel
theorem dJ0_coder_7d493_3 : decode cJ0_coder_7d493 3 = .ok (.ifCond .eq 10, 3) := by decide +kernel
theorem dJ0_coder_7d493_6 : decode cJ0_coder_7d493 6 = .ok (.aload_n 0, 1) := by decide +kernel
theorem dJ0_coder_7d493_7 : decode cJ0_coder_7d493 7 = .ok (.getfield 15, 3) := by decide +kernel
theorem dJ0_coder_7d493_10 : decode cJ0_coder_7d493 10 = .ok (.goto 4, 3) := by decide +kernel
theorem dJ0_coder_7d493_13 : decode cJ0_coder_7d493 13 = .ok (.iconst 1, 1) := by decide +kernel
theorem dJ0_coder_7d493_14 : decode cJ0_coder_7d493 14 = .ok (.ireturn, 1) := by decide +kernel
theorem dJ0_isLatin1_aae02_0 : decode cJ0_isLatin1_aae02 0 = .ok (.getstatic 38, 3) := by decide +kernel
theorem dJ0_isLatin1_aae02_3 : decode cJ0_isLatin1_aae02 3 = .ok (.ifCond .eq 14, 3) := by decide +kernel
theorem dJ0_isLatin1_aae02_6 : decode cJ0_isLatin1_aae02 6 = .ok (.aload_n 0, 1) := by decide +kernel
theorem dJ0_isLatin1_aae02_7 : decode cJ0_isLatin1_aae02 7 = .ok (.getfield 15, 3) := by decide +kernel
theorem dJ0_isLatin1_aae02_10 : decode cJ0_isLatin1_aae02 10 = .ok (.ifCond .ne 7, 3) := by decide +kernel
theorem dJ0_isLatin1_aae02_13 : decode cJ0_isLatin1_aae02 13 = .ok (.iconst 1, 1) := by decide +kernel
theorem dJ0_isLatin1_aae02_14 : decode cJ0_isLatin1_aae02 14 = .ok (.goto 4, 3) := by decide +kernel
theorem dJ0_isLatin1_aae02_17 : decode cJ0_isLatin1_aae02 17 = .ok (.iconst 0, 1) := by decide +kernel
theorem dJ0_isLatin1_aae02_18 : decode cJ0_isLatin1_aae02 18 = .ok (.ireturn, 1) := by decide +kernel
theorem dJ3_checkIndex_8e157_0 : decode cJ3_checkIndex_8e157 0 = .ok (.iload_n 0, 1) := by decide +kernel
theorem dJ3_checkIndex_8e157_1 : decode cJ3_checkIndex_8e157 1 = .ok (.ifCond .lt 8, 3) := by decide +kernel
theorem dJ3_checkIndex_8e157_4 : decode cJ3_checkIndex_8e157 4 = .ok (.iload_n 0, 1) := by decide +kernel
theorem dJ3_checkIndex_8e157_5 : decode cJ3_checkIndex_8e157 5 = .ok (.iload_n 1, 1) := by decide +kernel
theorem dJ3_checkIndex_8e157_6 : decode cJ3_checkIndex_8e157 6 = .ok (.if_icmp .lt 10, 3) := by decide +kernel
theorem dJ3_checkIndex_8e157_9 : decode cJ3_checkIndex_8e157 9 = .ok (.aload_n 2, 1) := by decide +kernel
theorem dJ3_checkIndex_8e157_10 : decode cJ3_checkIndex_8e157 10 = .ok (.iload_n 0, 1) := by decide +kernel
theorem dJ3_checkIndex_8e157_11 : decode cJ3_checkIndex_8e157 11 = .ok (.iload_n 1, 1) := by decide +kernel
theorem dJ3_checkIndex_8e157_12 : decode cJ3_checkIndex_8e157 12 = .ok (.invokestatic 95, 3) := by decide +kernel
theorem dJ3_checkIndex_8e157_15 : decode cJ3_checkIndex_8e157 15 = .ok (.athrow, 1) := by decide +kernel
theorem dJ3_checkIndex_8e157_16 : decode cJ3_checkIndex_8e157 16 = .ok (.iload_n 0, 1) := by decide +kernel
theorem dJ3_checkIndex_8e157_17 : decode cJ3_checkIndex_8e157 17 = .ok (.ireturn, 1) := by decide +kernel
theorem dJ0_checkIndex_df160_0 : decode cJ0_checkIndex_df160 0 = .ok (.iload_n 0, 1) := by decide +kernel
theorem dJ0_checkIndex_df160_1 : decode cJ0_checkIndex_df160 1 = .ok (.iload_n 1, 1) := by decide +kernel
theorem dJ0_checkIndex_df160_2 : decode cJ0_checkIndex_df160 2 = .ok (.getstatic 1053, 3) := by decide +kernel
theorem dJ0_checkIndex_df160_5 : decode cJ0_checkIndex_df160 5 = .ok (.invokestatic 1059, 3) := by decide +kernel
theorem dJ0_checkIndex_df160_8 : decode cJ0_checkIndex_df160 8 = .ok (.pop, 1) := by decide +kernel
theorem dJ0_checkIndex_df160_9 : decode cJ0_checkIndex_df160 9 = .ok (.return_, 1) := by decide +kernel
theorem dJ1_charAt_3b067_0 : decode cJ1_charAt_3b067 0 = .ok (.iload_n 1, 1) := by decide +kernel
theorem dJ1_charAt_3b067_1 : decode cJ1_charAt_3b067 1 = .ok (.aload_n 0, 1) := by decide +kernel
theorem dJ1_charAt_3b067_2 : decode cJ1_charAt_3b067 2 = .ok (.arraylength, 1) := by decide +kernel
theorem dJ1_charAt_3b067_3 : decode cJ1_charAt_3b067 3 = .ok (.invokestatic 9, 3) := by decide +kernel
theorem dJ1_charAt_3b067_6 : decode cJ1_charAt_3b067 6 = .ok (.aload_n 0, 1) := by decide +kernel
theorem dJ1_charAt_3b067_7 : decode cJ1_charAt_3b067 7 = .ok (.iload_n 1, 1) := by decide +kernel
theorem dJ1_charAt_3b067_8 : decode cJ1_charAt_3b067 8 = .ok (.baload, 1) := by decide +kernel
theorem dJ1_charAt_3b067_9 : decode cJ1_charAt_3b067 9 = .ok (.sipush 255, 3) := by decide +kernel
theorem dJ1_charAt_3b067_12 : decode cJ1_charAt_3b067 12 = .ok (.iand, 1) := by decide +kernel
theorem dJ1_charAt_3b067_13 : decode cJ1_charAt_3b067 13 = .ok (.i2c, 1) := by decide +kernel
theorem dJ1_charAt_3b067_14 : decode cJ1_charAt_3b067 14 = .ok (.ireturn, 1) := by decide +kernel
theorem dJ0_length_8abf5_0 : decode cJ0_length_8abf5 0 = .ok (.aload_n 0, 1) := by decide +kernel
theorem dJ0_length_8abf5_1 : decode cJ0_length_8abf5 1 = .ok (.getfield 9, 3) := by decide +kernel
theorem dJ0_length_8abf5_4 : decode cJ0_length_8abf5 4 = .ok (.arraylength, 1) := by decide +kernel
theorem dJ0_length_8abf5_5 : decode cJ0_length_8abf5 5 = .ok (.aload_n 0, 1) := by decide +kernel
theorem dJ0_length_8abf5_6 : decode cJ0_length_8abf5 6 = .ok (.invokevirtual 335, 3) := by decide +kernel
theorem dJ0_length_8abf5_9 : decode cJ0_length_8abf5 9 = .ok (.ishr, 1) := by decide +kernel
theorem dJ0_length_8abf5_10 : decode cJ0_length_8abf5 10 = .ok (.ireturn, 1) := by decide +kernel
theorem dJ0_charAt_5068e_0 : decode cJ0_charAt_5068e 0 = .ok (.aload_n 0, 1) := by decide +kernel
theorem dJ0_charAt_5068e_1 : decode cJ0_charAt_5068e 1 = .ok (.invokevirtual 492, 3) := by decide +kernel
theorem dJ0_charAt_5068e_4 : decode cJ0_charAt_5068e 4 = .ok (.ifCond .eq 12, 3) := by decide +kernel
theorem dJ0_charAt_5068e_7 : decode cJ0_charAt_5068e 7 = .ok (.aload_n 0, 1) := by decide +kernel
theorem dJ0_charAt_5068e_8 : decode cJ0_charAt_5068e 8 = .ok (.getfield 9, 3) := by decide +kernel
theorem dJ0_charAt_5068e_11 : decode cJ0_charAt_5068e 11 = .ok (.iload_n 1, 1) := by decide +kernel
theorem dJ0_charAt_5068e_12 : decode cJ0_charAt_5068e 12 = .ok (.invokestatic 495, 3) := by decide +kernel
theorem dJ0_charAt_5068e_15 : decode cJ0_charAt_5068e 15 = .ok (.ireturn, 1) := by decide +kernel
theorem dJ0_charAt_5068e_16 : decode cJ0_charAt_5068e 16 = .ok (.aload_n 0, 1) := by decide +kernel
theorem dJ0_charAt_5068e_17 : decode cJ0_charAt_5068e 17 = .ok (.getfield 9, 3) := by decide +kernel
theorem dJ0_charAt_5068e_20 : decode cJ0_charAt_5068e 20 = .ok (.iload_n 1, 1) := by decide +kernel
theorem dJ0_charAt_5068e_21 : decode cJ0_charAt_5068e 21 = .ok (.invokestatic 498, 3) := by decide +kernel
theorem dJ0_charAt_5068e_24 : decode cJ0_charAt_5068e 24 = .ok (.ireturn, 1) := by decide +kernel
theorem gTi {w : Cond} (i : Nat) (h : lw_tbl[i]? = some w) (hg : goodWord w = true) : w ∈ gT := gT_of (List.mem_of_getElem? h) hg
/-- nothing is changed, the answer is r -/
def jQ (r : Int32) : Array Value → State → Outcome → State → Prop := va_Qi (fun x (_ : Unit) => x = r) (fun _ _ => True) (fun _ => False)
def jP (av : List Value) (ad : Nat → Nat) (A : Nat → Prop) : Array Value → State → Prop := fun v U => v = av.toArray ∧ s_str ad A U U.heap
theorem jP_blind (av : List Value) (ad : Nat → Nat) (A : Nat → Prop) : FrameBlind (jP av ad A) := by
  intro a U g mk h
  obtain ⟨q0, adV, qS, qR, qZ⟩ := h
  exact ⟨q0, adV, vk_S.moved (u := U) (U := U.calling g mk a) (Vm.Alike.refl U.vm) qS, fun i q hq => vk_R.same rfl (qR i q hq), va_Z.moved (u := U) (U := U.calling g mk a) (Vm.Alike.refl U.vm) qZ.1, va_Zq.moved (u := U) (U := U.calling g mk a) (Vm.Alike.refl U.vm) qZ.2⟩
theorem j_F {A : Nat → Prop} {s t : State} {H : Heap} (hH : H = s.heap) (ht : t.heap = H) : va_F A s t := ⟨by rw [ht, hH]; exact Nat.le_refl _, fun q _ _ => by rw [ht, hH]⟩
theorem j_S {A : Nat → Prop} {H0 H : Heap} {locs : List Loc} (h : va_S (fun _ => False) H0 H locs) : va_S A H0 H locs := ⟨h.1, fun q h1 _ => h.2.1 q h1 (fun z => z), fun l hl => (h.2.2 l hl).elim⟩
theorem j_S0 {H0 : Heap} : va_S (fun _ => False) H0 H0 [] := va_S.rf
set_option maxHeartbeats 4000000 in
theorem j_coder (l : Launch) (ad : Nat → Nat) (A : Nat → Prop) (i : Nat) (hi : i < 10) : Met l yJ0_coder_7d493 (s_words yJ0_coder_7d493 cJ0_coder_7d493 1 (some .byte)) { frames := 0, cells := 0, slots := 0, locals := 0 } (jP [.ref (ad (500 + i))] ad A) (jQ 0) 0 0 (fun _ => False) := by
  refine Met.ofW (cc := cJ0_coder_7d493) (maxL := 1) (ret := some .byte) (by decide) rfl ?_
  intro p e s m args below meth c s₁ B hml hv
  obtain ⟨rfl, adV, hvs, -, hz⟩ := hv
  have hx := B.exec
  have hb := B.bytes
  have hr := B.returns
  have hts : ∀ w ∈ gT, w.before _ s = true := fun w hw => atoms_spec (ws := s_words yJ0_coder_7d493 cJ0_coder_7d493 1 (some .byte)) B.pre w (List.mem_cons_of_mem _ hw)
  have hown : s.vm.findClass "java/lang/String" = some m.cls := findClass_of_methodNamed B.named
  have hlocks := B.notSynchronized
  have hS : va_S A s.heap s.heap [] := va_S.rf
  have hl := lv_entry ([.ref (ad (500 + i))]) (n := 1) (Nat.le_of_ble_eq_true rfl)
  rw [lg_entry_eq]
  generalize (lg_sl ([.ref (ad (500 + i))]) ++ List.replicate (1 - (lg_sl ([.ref (ad (500 + i))])).length) Slot.unset).toArray = ls at hl ⊢
  have hl : lv_has ls 1 [(0, .ref (ad (500 + i)))] := hl
  refine va_gets hx hb hz.1 hS hown (hts (.fieldLink "java/lang/String" 38 "java/lang/String" "COMPACT_STRINGS" "Z") (gTi 378 (by decide +kernel) rfl)) (fun _ h => h) dJ0_coder_7d493_0 ?_
  refine lv_if_eq (tgt := 13) hx hb dJ0_coder_7d493_3 rfl (fun q => absurd q (by decide)) (fun _ => ?_)
  refine lv_aload_n hx hb dJ0_coder_7d493_6 rfl (lv_at hl 0 rfl) ?_
  refine vk_getf hx hb (hvs.1 i hi).2.1 hS hown (hts (.fieldLink "java/lang/String" 15 "java/lang/String" "coder" "B") (gTi 1253 (by decide +kernel) rfl)) (fun _ h => h) dJ0_coder_7d493_7 ?_
  refine lv_goto (tgt := 14) hx hb dJ0_coder_7d493_10 rfl ?_
  exact W.zret hx hb hr rfl (fun t ht _ => ⟨⟨0, (), rfl, rfl, trivial⟩, j_F rfl ht⟩) (fun q h => by cases h) dJ0_coder_7d493_14
set_option maxHeartbeats 4000000 in
theorem j_isLatin1 (l : Launch) (ad : Nat → Nat) (A : Nat → Prop) (i : Nat) (hi : i < 10) : Met l yJ0_isLatin1_aae02 (s_words yJ0_isLatin1_aae02 cJ0_isLatin1_aae02 1 (some .boolean)) { frames := 0, cells := 0, slots := 0, locals := 0 } (jP [.ref (ad (500 + i))] ad A) (jQ 1) 0 0 (fun _ => False) := by
  refine Met.ofW (cc := cJ0_isLatin1_aae02) (maxL := 1) (ret := some .boolean) (by decide) rfl ?_
  intro p e s m args below meth c s₁ B hml hv
  obtain ⟨rfl, adV, hvs, -, hz⟩ := hv
  have hx := B.exec
  have hb := B.bytes
  have hr := B.returns
  have hts : ∀ w ∈ gT, w.before _ s = true := fun w hw => atoms_spec (ws := s_words yJ0_isLatin1_aae02 cJ0_isLatin1_aae02 1 (some .boolean)) B.pre w (List.mem_cons_of_mem _ hw)
  have hown : s.vm.findClass "java/lang/String" = some m.cls := findClass_of_methodNamed B.named
  have hlocks := B.notSynchronized
  have hS : va_S A s.heap s.heap [] := va_S.rf
  have hl := lv_entry ([.ref (ad (500 + i))]) (n := 1) (Nat.le_of_ble_eq_true rfl)
  rw [lg_entry_eq]
  generalize (lg_sl ([.ref (ad (500 + i))]) ++ List.replicate (1 - (lg_sl ([.ref (ad (500 + i))])).length) Slot.unset).toArray = ls at hl ⊢
  have hl : lv_has ls 1 [(0, .ref (ad (500 + i)))] := hl
  refine va_gets hx hb hz.1 hS hown (hts (.fieldLink "java/lang/String" 38 "java/lang/String" "COMPACT_STRINGS" "Z") (gTi 378 (by decide +kernel) rfl)) (fun _ h => h) dJ0_isLatin1_aae02_0 ?_
  refine lv_if_eq (tgt := 17) hx hb dJ0_isLatin1_aae02_3 rfl (fun q => absurd q (by decide)) (fun _ => ?_)
  refine lv_aload_n hx hb dJ0_isLatin1_aae02_6 rfl (lv_at hl 0 rfl) ?_
  refine vk_getf hx hb (hvs.1 i hi).2.1 hS hown (hts (.fieldLink "java/lang/String" 15 "java/lang/String" "coder" "B") (gTi 1253 (by decide +kernel) rfl)) (fun _ h => h) dJ0_isLatin1_aae02_7 ?_
  refine lv_if_ne (tgt := 17) hx hb dJ0_isLatin1_aae02_10 rfl (fun q => absurd rfl q) (fun _ => ?_)
  refine lv_iconst (v := 1) hx hb dJ0_isLatin1_aae02_13 rfl ?_
  refine lv_goto (tgt := 18) hx hb dJ0_isLatin1_aae02_14 rfl ?_
  exact W.zret hx hb hr rfl (fun t ht _ => ⟨⟨1, (), rfl, rfl, trivial⟩, j_F rfl ht⟩) (fun q h => by cases h) dJ0_isLatin1_aae02_18
def jP3 (av : List Value) : Array Value → State → Prop := fun v _ => v = av.toArray
set_option maxHeartbeats 4000000 in
theorem j_check3 (l : Launch) (k n : Nat) (w : Value) (hw : w.category = 1) (hk : k < n) (hn : n < 2 ^ 31) : Met l yJ3_checkIndex_8e157 (s_words yJ3_checkIndex_8e157 cJ3_checkIndex_8e157 3 (some .int)) { frames := 0, cells := 0, slots := 0, locals := 0 } (jP3 [.int (nI k), .int (nI n), w]) (jQ (nI k)) 0 0 (fun _ => False) := by
  refine Met.ofW (cc := cJ3_checkIndex_8e157) (maxL := 3) (ret := some .int) (by decide) rfl ?_
  intro p e s m args below meth c s₁ B hml hv
  obtain rfl := hv
  have hx := B.exec
  have hb := B.bytes
  have hr := B.returns
  have hlocks := B.notSynchronized
  have hlen : (lg_sl [.int (nI k), .int (nI n), w]).length ≤ 3 := by
    cases w <;> first | exact Nat.le_of_ble_eq_true rfl | cases hw
  have hl := lv_entry ([.int (nI k), .int (nI n), w]) (n := 3) hlen
  rw [lg_entry_eq]
  generalize (lg_sl ([.int (nI k), .int (nI n), w]) ++ List.replicate (3 - (lg_sl ([.int (nI k), .int (nI n), w])).length) Slot.unset).toArray = ls at hl ⊢
  have hl : lv_has ls 3 [(0, .int (nI k)), (1, .int (nI n)), (2, w)] := hl
  refine lv_iload_n hx hb dJ3_checkIndex_8e157_0 rfl (lv_at hl 0 rfl) ?_
  refine lv_if_lt (tgt := 9) hx hb dJ3_checkIndex_8e157_1 rfl (fun q => absurd q (nI_pos (by omega))) (fun _ => ?_)
  refine lv_iload_n hx hb dJ3_checkIndex_8e157_4 rfl (lv_at hl 0 rfl) ?_
  refine lv_iload_n hx hb dJ3_checkIndex_8e157_5 rfl (lv_at hl 1 rfl) ?_
  refine lv_icmp_lt (tgt := 16) hx hb dJ3_checkIndex_8e157_6 rfl (fun _ => ?_) (fun q => absurd (nI_lt hk hn) q)
  refine lv_iload_n hx hb dJ3_checkIndex_8e157_16 rfl (lv_at hl 0 rfl) ?_
  exact W.iret hx hb hr (fun t ht _ => ⟨⟨nI k, (), rfl, rfl, trivial⟩, j_F rfl ht⟩) (fun q h => by cases h) dJ3_checkIndex_8e157_17
def jPz (av : List Value) (A : Nat → Prop) : Array Value → State → Prop := fun v U => v = av.toArray ∧ s_stz A U U.heap
theorem jPz_blind (av : List Value) (A : Nat → Prop) : FrameBlind (jPz av A) := by
  intro a U g mk h
  exact ⟨h.1, va_Z.moved (u := U) (U := U.calling g mk a) (Vm.Alike.refl U.vm) h.2.1, va_Zq.moved (u := U) (U := U.calling g mk a) (Vm.Alike.refl U.vm) h.2.2⟩
def jQv : Array Value → State → Outcome → State → Prop := va_Qv (fun (_ : Unit) => True) (fun _ _ => True) (fun _ => False)
set_option maxHeartbeats 4000000 in
theorem j_check0 (l : Launch) (A : Nat → Prop) (k n : Nat) (hk : k < n) (hn : n < 2 ^ 31) : Met l yJ0_checkIndex_df160 (s_words yJ0_checkIndex_df160 cJ0_checkIndex_df160 2 none) { frames := 1, cells := 0, slots := 0, locals := 22 } (jPz [.int (nI k), .int (nI n)] A) jQv 0 0 (fun _ => False) := by
  refine Met.ofW (cc := cJ0_checkIndex_df160) (maxL := 2) (ret := none) (by decide) rfl ?_
  intro p e s m args below meth c s₁ B hml hv
  obtain ⟨rfl, hz⟩ := hv
  have hx := B.exec
  have hb := B.bytes
  have hr := B.returns
  have hts : ∀ w ∈ gT, w.before _ s = true := fun w hw => atoms_spec (ws := s_words yJ0_checkIndex_df160 cJ0_checkIndex_df160 2 none) B.pre w (List.mem_cons_of_mem _ hw)
  have hown : s.vm.findClass "java/lang/String" = some m.cls := findClass_of_methodNamed B.named
  have hlocks := B.notSynchronized
  have hS : va_S A s.heap s.heap [] := va_S.rf
  have hl := lv_entry ([.int (nI k), .int (nI n)]) (n := 2) (Nat.le_of_ble_eq_true rfl)
  rw [lg_entry_eq]
  generalize (lg_sl ([.int (nI k), .int (nI n)]) ++ List.replicate (2 - (lg_sl ([.int (nI k), .int (nI n)])).length) Slot.unset).toArray = ls at hl ⊢
  have hl : lv_has ls 2 [(0, .int (nI k)), (1, .int (nI n))] := hl
  refine lv_iload_n hx hb dJ0_checkIndex_df160_0 rfl (lv_at hl 0 rfl) ?_
  refine lv_iload_n hx hb dJ0_checkIndex_df160_1 rfl (lv_at hl 1 rfl) ?_
  have go : ∀ w : Value, w.category = 1 → va_Z "jdk/internal/util/Preconditions" "SIOOBE_FORMATTER" "Ljava/util/function/BiFunction;" w A s s.heap → W p l e { frames := 1, cells := 0, slots := 0, locals := 22 } s m ([.int (nI k), .int (nI n)] : List Value).toArray below meth c s.heap [] 0 0 (MQ below jQv ([.int (nI k), .int (nI n)] : List Value).toArray s 0 0 (fun _ => False)) (F0 m 2 ls [.int (nI n), .int (nI k)]) := by
    intro w hw hZ
    refine va_gets hx hb hZ hS hown (hts (.fieldLink "java/lang/String" 1053 "jdk/internal/util/Preconditions" "SIOOBE_FORMATTER" "Ljava/util/function/BiFunction;") (gTi 394 (by decide +kernel) rfl)) (fun _ h => h) dJ0_checkIndex_df160_2 ?_
    refine va_calli (A1 := fun _ => False) (va_runS (Ts := gT) (As := [.int (nI k), .int (nI n), w]) (rest := []) ⟨hx, hb, hml, hown, hts⟩ (j_check3 l k n w hw hk hn) ⟨callB_of 3 hts (s_words_good hts (List.mem_of_getElem? (i := 398) (by decide +kernel))) rfl rfl rfl (hts (.initialized "jdk/internal/util/Preconditions") (gTi 73 (by decide +kernel) rfl)) (hts (.methodLink "java/lang/String" 1059 yJ3_checkIndex_8e157) (gTi 396 (by decide +kernel) rfl)) ⟨by decide +kernel, by decide +kernel, by decide +kernel⟩ ⟨Nat.le_of_ble_eq_true rfl, Nat.le_of_ble_eq_true rfl⟩, hts (.static yJ3_checkIndex_8e157) (gTi 397 (by decide +kernel) rfl)⟩ ⟨fun a U g mk h => h, fun U hU hW => rfl⟩ rfl rfl hl.1 rfl (lv_room (Nat.le_of_ble_eq_true rfl)) dJ0_checkIndex_df160_5 ⟨Nat.le_of_ble_eq_true rfl, Nat.le_of_ble_eq_true rfl⟩) j_S0 (fun q _ h => h.elim) (fun q h => h.elim) (fun r u t H1 locs1 ht hvm hp hB hz1 hk1 hS1 => ?_)
    refine lv_pop hx hb dJ0_checkIndex_df160_8 rfl ?_
    exact W.vret hx hb hr (fun t ht _ => ⟨⟨(), rfl, trivial, trivial⟩, hS1.F ht⟩) hS1.2.2 dJ0_checkIndex_df160_9
  rcases hz.2 with h | ⟨tq, h⟩
  · exact go _ rfl h
  · exact go _ rfl h
/-- what an array of bytes gives as a char -/
def j_ch (x : Int32) : Int32 := ((x &&& 255).toUInt32 % 65536).toInt32
def jPb (av : List Value) (tv n : Nat) (f : Nat → Int32) (A : Nat → Prop) : Array Value → State → Prop := fun v U => v = av.toArray ∧ va_T .byte tv n (fun j => .int (f j)) A U U.heap ∧ s_stz A U U.heap
theorem jPb_blind (av : List Value) (tv n : Nat) (f : Nat → Int32) (A : Nat → Prop) : FrameBlind (jPb av tv n f A) := by
  intro a U g mk h
  exact ⟨h.1, va_T.moved (u := U) (U := U.calling g mk a) (Vm.Alike.refl U.vm) h.2.1, va_Z.moved (u := U) (U := U.calling g mk a) (Vm.Alike.refl U.vm) h.2.2.1, va_Zq.moved (u := U) (U := U.calling g mk a) (Vm.Alike.refl U.vm) h.2.2.2⟩
theorem s_stz_warm {A : Nat → Prop} {s U : State} {H : Heap} {locs : List Loc} (hW : s.WarmedH U.vm) (hU : U.heap = H) (hS : va_S A s.heap H locs) (h : s_stz A s s.heap) : s_stz A U U.heap := by
  refine ⟨?_, ?_⟩
  · rw [hU]
    exact (va_Z.moved hW.alike h.1).kept (fun a h3 h4 => hS.2.1 a h3 h4)
  · rw [hU]
    exact (va_Zq.moved hW.alike h.2).kept (fun a h3 h4 => hS.2.1 a h3 h4)
set_option maxHeartbeats 4000000 in
theorem j_latin (l : Launch) (A : Nat → Prop) (tv k n : Nat) (f : Nat → Int32) (hk : k < n) (hn : n < 2 ^ 31) (hc : narrow .char (.int (j_ch (f k))) = .int (j_ch (f k))) : Met l yJ1_charAt_3b067 (s_words yJ1_charAt_3b067 cJ1_charAt_3b067 2 (some .char)) { frames := 2, cells := 0, slots := 0, locals := 43 } (jPb [.ref tv, .int (nI k)] tv n f A) (jQ (j_ch (f k))) 0 0 (fun _ => False) := by
  refine Met.ofW (cc := cJ1_charAt_3b067) (maxL := 2) (ret := some .char) (by decide) rfl ?_
  intro p e s m args below meth c s₁ B hml hv
  obtain ⟨rfl, hT, hz⟩ := hv
  have hx := B.exec
  have hb := B.bytes
  have hr := B.returns
  have hts : ∀ w ∈ gT, w.before _ s = true := fun w hw => atoms_spec (ws := s_words yJ1_charAt_3b067 cJ1_charAt_3b067 2 (some .char)) B.pre w (List.mem_cons_of_mem _ hw)
  have hown : s.vm.findClass "java/lang/StringLatin1" = some m.cls := findClass_of_methodNamed B.named
  have hlocks := B.notSynchronized
  have hS : va_S A s.heap s.heap [] := va_S.rf
  have hl := lv_entry ([.ref tv, .int (nI k)]) (n := 2) (Nat.le_of_ble_eq_true rfl)
  rw [lg_entry_eq]
  generalize (lg_sl ([.ref tv, .int (nI k)]) ++ List.replicate (2 - (lg_sl ([.ref tv, .int (nI k)])).length) Slot.unset).toArray = ls at hl ⊢
  have hl : lv_has ls 2 [(0, .ref tv), (1, .int (nI k))] := hl
  refine lv_iload_n hx hb dJ1_charAt_3b067_0 rfl (lv_at hl 1 rfl) ?_
  refine lv_aload_n hx hb dJ1_charAt_3b067_1 rfl (lv_at hl 0 rfl) ?_
  refine va_tlen (v := nI n) hx hb hT hS rfl dJ1_charAt_3b067_2 ?_
  refine va_callv (A1 := fun _ => False) (va_runS (Ts := gT) (As := [.int (nI k), .int (nI n)]) (rest := []) ⟨hx, hb, hml, hown, hts⟩ (j_check0 l A k n hk hn) ⟨callB_of 2 hts (s_words_good hts (List.mem_of_getElem? (i := 393) (by decide +kernel))) rfl rfl rfl (hts (.initialized "java/lang/String") (gTi 71 (by decide +kernel) rfl)) (hts (.methodLink "java/lang/StringLatin1" 9 yJ0_checkIndex_df160) (gTi 391 (by decide +kernel) rfl)) ⟨by decide +kernel, by decide +kernel, by decide +kernel⟩ ⟨Nat.le_of_ble_eq_true rfl, Nat.le_of_ble_eq_true rfl⟩, hts (.static yJ0_checkIndex_df160) (gTi 392 (by decide +kernel) rfl)⟩ ⟨jPz_blind _ _, fun U hU hW => ⟨rfl, s_stz_warm hW hU hS hz⟩⟩ rfl rfl hl.1 rfl (lv_room (Nat.le_of_ble_eq_true rfl)) dJ1_charAt_3b067_3 ⟨Nat.le_of_ble_eq_true rfl, Nat.le_of_ble_eq_true rfl⟩) j_S0 (fun q _ h => h.elim) (fun q h => h.elim) (fun u t H1 locs1 ht hvm hp hB hz1 hk1 hS1 => ?_)
  refine lv_aload_n hx hb dJ1_charAt_3b067_6 rfl (lv_at hl 0 rfl) ?_
  refine lv_iload_n hx hb dJ1_charAt_3b067_7 rfl (lv_at hl 1 rfl) ?_
  refine va_tb (v := .int (f k)) hx hb hT (j_S hS1) (vp_in_nI hk hn) (by rw [nI_clamp (by omega)]) dJ1_charAt_3b067_8 ?_
  refine lv_sipush (v := 255) hx hb dJ1_charAt_3b067_9 (by decide) ?_
  refine lv_iand hx hb dJ1_charAt_3b067_12 ?_
  refine lv_i2c (v := j_ch (f k)) hx hb dJ1_charAt_3b067_13 rfl ?_
  exact W.zret hx hb hr hc (fun t ht _ => ⟨⟨_, (), rfl, rfl, trivial⟩, hS1.F ht⟩) hS1.2.2 dJ1_charAt_3b067_14
def vR (vs : sS) (k : Nat) : Nat := match s_nth vs k with
  | some (.ref v) => v
  | _ => 0
theorem j_len : ∀ i, i < 10 → s_len.getD i 0 < 7 ∧ nI (s_len.getD i 0) >>> ((0 : Int32) &&& 31) = nI (s_len.getD i 0) := by decide +kernel
theorem j_byt : ∀ i, i < 10 → ∀ j, j < s_len.getD i 0 → j_ch ((s_byt.getD i []).getD j 0) = (s_byt.getD i []).getD j 0 ∧ narrow .char (.int (j_ch ((s_byt.getD i []).getD j 0))) = .int (j_ch ((s_byt.getD i []).getD j 0)) := by decide +kernel
def c_J0_length_8abf5 : sCtr := ((yJ0_length_8abf5, cJ0_length_8abf5, 1, (some .int)), (100, 0, 1, 20), true,
  fun _ _ => [],
  fun vs L => ∃ i : Nat, i < 10 ∧ vs = [.ref (500 + i)] ∧ L = [],
  fun vs _ r _ => r = some (.int (nI (s_len.getD (vR vs 0 - 500) 0))))
theorem sta_J0_length_8abf5 : s_Sta c_J0_length_8abf5 := ⟨⟨by decide +kernel, by decide +kernel, by decide +kernel⟩, List.mem_of_getElem? (i := 373) (by decide +kernel), List.mem_of_getElem? (i := 71) (by decide +kernel), ⟨List.mem_of_getElem? (i := 371) (by decide +kernel), List.mem_of_getElem? (i := 372) (by decide +kernel), Or.inr ⟨rfl, rfl⟩⟩⟩

set_option maxHeartbeats 4000000 in
theorem ok_J0_length_8abf5 : s_Ok c_J0_length_8abf5 := by
  refine ⟨sta_J0_length_8abf5, fun l D cy ad sz vs L hpre => ?_⟩
  obtain ⟨i, hi, rfl, rfl⟩ := hpre
  refine Met.ofW (cc := cJ0_length_8abf5) (maxL := 1) (ret := some .int) (by decide) rfl ?_
  intro p e s m args below meth c s₁ B hml hv
  obtain ⟨rfl, hsz, hP, hK, hD0, hnst, hstr⟩ := hv
  subst hsz
  have hstr0 := hstr
  obtain ⟨adV, hvs, -, hz⟩ := hstr
  have hx := B.exec
  have hb := B.bytes
  have hr := B.returns
  have hts : ∀ w ∈ gT, w.before _ s = true := fun w hw => atoms_spec (ws := s_words yJ0_length_8abf5 cJ0_length_8abf5 1 (some .int)) B.pre w (List.mem_cons_of_mem _ hw)
  have hown : s.vm.findClass "java/lang/String" = some m.cls := findClass_of_methodNamed B.named
  have hlocks := B.notSynchronized
  have hS : va_S (va_A (s_rl cy ad []) s.heap.size) s.heap s.heap [] := va_S.rf
  have hl := lv_entry ([.ref (ad (500 + i))]) (n := 1) (Nat.le_of_ble_eq_true rfl)
  show W _ _ _ _ _ _ _ _ _ _ _ _ _ _ _ (entryFrame m ([.ref (ad (500 + i))] : List Value).toArray 1)
  rw [lg_entry_eq]
  generalize (lg_sl ([.ref (ad (500 + i))]) ++ List.replicate (1 - (lg_sl ([.ref (ad (500 + i))])).length) Slot.unset).toArray = ls at hl ⊢
  have hl : lv_has ls 1 [(0, .ref (ad (500 + i)))] := hl
  refine lv_aload_n hx hb dJ0_length_8abf5_0 rfl (lv_at hl 0 rfl) ?_
  refine vk_getf hx hb (hvs.1 i hi).2.2.1 hS hown (hts (.fieldLink "java/lang/String" 9 "java/lang/String" "value" "[B") (gTi 1252 (by decide +kernel) rfl)) (fun _ h => h) dJ0_length_8abf5_1 ?_
  refine va_tlen (v := nI (s_len.getD i 0)) hx hb (hvs.1 i hi).2.2.2 hS rfl dJ0_length_8abf5_4 ?_
  refine lv_aload_n hx hb dJ0_length_8abf5_5 rfl (lv_at hl 0 rfl) ?_
  refine va_calli (A1 := fun _ => False) (va_runV (Ts := gT) (As := []) (C := "java/lang/String") (b := ad (500 + i)) (rest := [.int (nI (s_len.getD i 0))]) ⟨hx, hb, hml, hown, hts⟩ (j_coder l ad (va_A (s_rl cy ad []) s.heap.size) i hi) ⟨callB_of 0 hts (s_words_good hts (List.mem_of_getElem? (i := 377) (by decide +kernel))) rfl rfl rfl (hts (.initialized "java/lang/String") (gTi 71 (by decide +kernel) rfl)) (hts (.methodLink "java/lang/String" 335 yJ0_coder_7d493) (gTi 374 (by decide +kernel) rfl)) ⟨by decide +kernel, by decide +kernel, by decide +kernel⟩ ⟨Nat.le_of_ble_eq_true rfl, Nat.le_of_ble_eq_true rfl⟩, hts (.instanceMethod yJ0_coder_7d493) (gTi 375 (by decide +kernel) rfl), hts (.selects "java/lang/String" yJ0_coder_7d493 yJ0_coder_7d493) (gTi 376 (by decide +kernel) rfl)⟩ ⟨jP_blind _ _ _, vk_recv (adK := fun i => ad (500 + i)) (i := i) hvs hi hS, fun U hU hW => ⟨rfl, s_str_warm hW hU hS (fun q h => h) hstr0⟩⟩ rfl rfl hl.1 rfl (lv_room (Nat.le_of_ble_eq_true rfl)) dJ0_length_8abf5_6 ⟨Nat.le_of_ble_eq_true rfl, Nat.le_of_ble_eq_true rfl⟩) j_S0 (fun q _ h => h.elim) (fun q h => h.elim) (fun r u t H1 locs1 ht hvm hp hB hz1 hk1 hS1 => ?_)
  have hp : r = 0 := hp
  subst hp
  refine lv_ishr hx hb dJ0_length_8abf5_9 ?_
  rw [(j_len i hi).2]
  have hS2 : va_S (va_A (s_rl cy ad []) s.heap.size) s.heap H1 locs1 := j_S hS1
  refine W.iret hx hb hr (fun t ht _ => ⟨⟨some (.int (nI (s_len.getD i 0))), [], rfl, ⟨?_, fun _ => rfl⟩, rfl, fun k q h => by cases h⟩, hS2.F ht⟩) hS2.2.2 dJ0_length_8abf5_10
  show some (Value.int _) = some (Value.int (nI (s_len.getD (500 + i - 500) 0)))
  rw [show 500 + i - 500 = i by omega]
def c_J0_charAt_5068e : sCtr := ((yJ0_charAt_5068e, cJ0_charAt_5068e, 2, (some .char)), (100, 1, 4, 85), true,
  fun _ _ => [],
  fun vs L => ∃ (i k : Nat) (x : Int32), i < 10 ∧ vs = [.ref (500 + i), .int x] ∧ L = [] ∧ x = nI k ∧ k < s_len.getD i 0,
  fun vs _ r _ => r = some (.int ((s_byt.getD (vR vs 0 - 500) []).getD (vI vs 1).toNatClampNeg 0)))
theorem sta_J0_charAt_5068e : s_Sta c_J0_charAt_5068e := ⟨⟨by decide +kernel, by decide +kernel, by decide +kernel⟩, List.mem_of_getElem? (i := 383) (by decide +kernel), List.mem_of_getElem? (i := 71) (by decide +kernel), ⟨List.mem_of_getElem? (i := 381) (by decide +kernel), List.mem_of_getElem? (i := 382) (by decide +kernel), Or.inr ⟨rfl, rfl⟩⟩⟩

set_option maxHeartbeats 4000000 in
theorem ok_J0_charAt_5068e : s_Ok c_J0_charAt_5068e := by
  refine ⟨sta_J0_charAt_5068e, fun l D cy ad sz vs L hpre => ?_⟩
  obtain ⟨i, k, x, hi, rfl, rfl, rfl, hk⟩ := hpre
  refine Met.ofW (cc := cJ0_charAt_5068e) (maxL := 2) (ret := some .char) (by decide) rfl ?_
  intro p e s m args below meth c s₁ B hml hv
  obtain ⟨rfl, hsz, hP, hK, hD0, hnst, hstr⟩ := hv
  subst hsz
  have hstr0 := hstr
  obtain ⟨adV, hvs, -, hz⟩ := hstr
  have hx := B.exec
  have hb := B.bytes
  have hr := B.returns
  have hts : ∀ w ∈ gT, w.before _ s = true := fun w hw => atoms_spec (ws := s_words yJ0_charAt_5068e cJ0_charAt_5068e 2 (some .char)) B.pre w (List.mem_cons_of_mem _ hw)
  have hown : s.vm.findClass "java/lang/String" = some m.cls := findClass_of_methodNamed B.named
  have hlocks := B.notSynchronized
  have hS : va_S (va_A (s_rl cy ad []) s.heap.size) s.heap s.heap [] := va_S.rf
  have hl := lv_entry ([.ref (ad (500 + i)), .int (nI k)]) (n := 2) (Nat.le_of_ble_eq_true rfl)
  show W _ _ _ _ _ _ _ _ _ _ _ _ _ _ _ (entryFrame m ([.ref (ad (500 + i)), .int (nI k)] : List Value).toArray 2)
  rw [lg_entry_eq]
  generalize (lg_sl ([.ref (ad (500 + i)), .int (nI k)]) ++ List.replicate (2 - (lg_sl ([.ref (ad (500 + i)), .int (nI k)])).length) Slot.unset).toArray = ls at hl ⊢
  have hl : lv_has ls 2 [(0, .ref (ad (500 + i))), (1, .int (nI k))] := hl
  have hlen := (j_len i hi).1
  refine lv_aload_n hx hb dJ0_charAt_5068e_0 rfl (lv_at hl 0 rfl) ?_
  refine va_calli (A1 := fun _ => False) (va_runV (Ts := gT) (As := []) (C := "java/lang/String") (b := ad (500 + i)) (rest := []) ⟨hx, hb, hml, hown, hts⟩ (j_isLatin1 l ad (va_A (s_rl cy ad []) s.heap.size) i hi) ⟨callB_of 0 hts (s_words_good hts (List.mem_of_getElem? (i := 387) (by decide +kernel))) rfl rfl rfl (hts (.initialized "java/lang/String") (gTi 71 (by decide +kernel) rfl)) (hts (.methodLink "java/lang/String" 492 yJ0_isLatin1_aae02) (gTi 384 (by decide +kernel) rfl)) ⟨by decide +kernel, by decide +kernel, by decide +kernel⟩ ⟨Nat.le_of_ble_eq_true rfl, Nat.le_of_ble_eq_true rfl⟩, hts (.instanceMethod yJ0_isLatin1_aae02) (gTi 385 (by decide +kernel) rfl), hts (.selects "java/lang/String" yJ0_isLatin1_aae02 yJ0_isLatin1_aae02) (gTi 386 (by decide +kernel) rfl)⟩ ⟨jP_blind _ _ _, vk_recv (adK := fun i => ad (500 + i)) (i := i) hvs hi hS, fun U hU hW => ⟨rfl, s_str_warm hW hU hS (fun q h => h) hstr0⟩⟩ rfl rfl hl.1 rfl (lv_room (Nat.le_of_ble_eq_true rfl)) dJ0_charAt_5068e_1 ⟨Nat.le_of_ble_eq_true rfl, Nat.le_of_ble_eq_true rfl⟩) j_S0 (fun q _ h => h.elim) (fun q h => h.elim) (fun r u t H1 locs1 ht hvm hp hB hz1 hk1 hS1 => ?_)
  have hp : r = 1 := hp
  subst hp
  refine lv_if_eq (tgt := 16) hx hb dJ0_charAt_5068e_4 rfl (fun q => absurd q (by decide)) (fun _ => ?_)
  refine lv_aload_n hx hb dJ0_charAt_5068e_7 rfl (lv_at hl 0 rfl) ?_
  refine vk_getf hx hb (hvs.1 i hi).2.2.1 (j_S hS1) hown (hts (.fieldLink "java/lang/String" 9 "java/lang/String" "value" "[B") (gTi 1252 (by decide +kernel) rfl)) (fun _ h => h) dJ0_charAt_5068e_8 ?_
  refine lv_iload_n hx hb dJ0_charAt_5068e_11 rfl (lv_at hl 1 rfl) ?_
  refine va_calli (A1 := fun _ => False) (va_runS (Ts := gT) (As := [.ref (adV i), .int (nI k)]) (rest := []) ⟨hx, hb, hml, hown, hts⟩ (j_latin l (va_A (s_rl cy ad []) s.heap.size) (adV i) k (s_len.getD i 0) (fun j => (s_byt.getD i []).getD j 0) hk (by omega) (j_byt i hi k hk).2) ⟨callB_of 2 hts (s_words_good hts (List.mem_of_getElem? (i := 390) (by decide +kernel))) rfl rfl rfl (hts (.initialized "java/lang/StringLatin1") (gTi 72 (by decide +kernel) rfl)) (hts (.methodLink "java/lang/String" 495 yJ1_charAt_3b067) (gTi 388 (by decide +kernel) rfl)) ⟨by decide +kernel, by decide +kernel, by decide +kernel⟩ ⟨Nat.le_of_ble_eq_true rfl, Nat.le_of_ble_eq_true rfl⟩, hts (.static yJ1_charAt_3b067) (gTi 389 (by decide +kernel) rfl)⟩ ⟨jPb_blind _ _ _ _ _, fun U hU hW => ⟨rfl, by rw [hU]; exact (va_T.moved hW.alike (hvs.1 i hi).2.2.2).kept (fun a h3 h4 => (j_S hS1).2.1 a h3 h4), s_stz_warm hW hU (j_S hS1) hz⟩⟩ rfl rfl hl.1 rfl (lv_room (Nat.le_of_ble_eq_true rfl)) dJ0_charAt_5068e_12 ⟨Nat.le_of_ble_eq_true rfl, Nat.le_of_ble_eq_true rfl⟩) hS1 (fun q _ h => h.elim) (fun q h => h.elim) (fun r u t H2 locs2 ht hvm hp hB hz1 hk1 hS3 => ?_)
  have hp : r = j_ch ((s_byt.getD i []).getD k 0) := hp
  have hS2 : va_S (va_A (s_rl cy ad []) s.heap.size) s.heap H2 locs2 := j_S hS3
  refine W.zret hx hb hr (by rw [hp]; exact (j_byt i hi k hk).2) (fun t ht _ => ⟨⟨some (.int r), [], rfl, ⟨?_, fun _ => rfl⟩, rfl, fun k q h => by cases h⟩, hS2.F ht⟩) hS2.2.2 dJ0_charAt_5068e_15
  show some (Value.int r) = some (Value.int ((s_byt.getD (500 + i - 500) []).getD (nI k).toNatClampNeg 0))
  rw [show 500 + i - 500 = i by omega, nI_clamp (by omega), hp, (j_byt i hi k hk).1]
