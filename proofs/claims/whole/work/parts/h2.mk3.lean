/-! ===== constructors: Tape, Book, Rows, Sheet ===== -/
theorem k_ari : Cond.arrayClass .int ∈ lw_tbl := (List.mem_of_getElem? (i := 211) (by decide +kernel))
theorem k_arb : Cond.arrayClass .byte ∈ lw_tbl := (List.mem_of_getElem? (i := 102) (by decide +kernel))
theorem k_arz : Cond.arrayClass .boolean ∈ lw_tbl := (List.mem_of_getElem? (i := 274) (by decide +kernel))
theorem dX4_init_0 : decode cX4_init 0 = .ok (.aload_n 0, 1) := by decide +kernel
theorem dX4_init_1 : decode cX4_init 1 = .ok (.invokespecial 3, 3) := by decide +kernel
theorem dX4_init_4 : decode cX4_init 4 = .ok (.aload_n 0, 1) := by decide +kernel
theorem dX4_init_5 : decode cX4_init 5 = .ok (.sipush 160, 3) := by decide +kernel
theorem dX4_init_8 : decode cX4_init 8 = .ok (.newarray .byte, 2) := by decide +kernel
theorem dX4_init_10 : decode cX4_init 10 = .ok (.putfield 9, 3) := by decide +kernel
theorem dX4_init_13 : decode cX4_init 13 = .ok (.return_, 1) := by decide +kernel
theorem st_X4 : kSt yX4_init cX4_init 1 0 := ⟨rfl, (List.mem_of_getElem? (i := 90) (by decide +kernel)), (List.mem_of_getElem? (i := 65) (by decide +kernel)), (List.mem_of_getElem? (i := 89) (by decide +kernel)), by decide +kernel, by decide +kernel, by decide +kernel⟩
set_option maxHeartbeats 4000000 in
set_option maxRecDepth 100000 in
theorem mk_X4 (l : Launch) (D : va_G) (cy : Nat → ClassId) (f : Nat → Nat) : kMet l D cy f yX4_init cX4_init 1 1 12 1 160 4 (k_new 4 2) [] ([.inr (.inr (4, [.ref 1, .int 0])), .inl (1, 160, fun _ => 0)]) (fun h0 ad => ad 0 = h0) := by
  refine k_of (by decide +kernel) rfl (Nat.le_of_ble_eq_true rfl) ?_
  intro p e s m args below meth c h0 hE hin hr ls hl
  refine k_al hE (i := 0) rfl (lv_at hl 0 rfl) dX4_init_0 ?_
  refine k_obj hE (List.mem_of_getElem? (i := 91) (by decide +kernel)) (Nat.le_of_ble_eq_true rfl) (Nat.le_of_ble_eq_true rfl) hl.1 dX4_init_1 ?_
  refine k_al hE (i := 0) rfl (lv_at hl 0 rfl) dX4_init_4 ?_
  refine k_si hE (v := 160) dX4_init_5 (by decide) ?_
  refine k_na hE (t := 1) (N := 160) rfl k_arb rfl rfl (by decide) (by decide) (by decide) (Nat.le_of_ble_eq_true rfl) (Nat.le_of_ble_eq_true rfl) dX4_init_8 (fun q1 => ?_)
  refine k_pF hE hin (ci := 4) (T := TX4) (N := 2) (k := 0) rfl (by decide) (List.mem_of_getElem? (i := 92) (by decide +kernel)) rfl rfl rfl rfl (Nat.le_of_ble_eq_true rfl) dX4_init_10 ?_
  exact k_rtn hE hr (k_pk [h0, q1] (fun _ => 0)) rfl [0, 1] (by decide) rfl (Nat.le_of_ble_eq_true rfl) (Nat.le_of_ble_eq_true rfl) dX4_init_13
theorem dX0_init_0 : decode cX0_init 0 = .ok (.aload_n 0, 1) := by decide +kernel
theorem dX0_init_1 : decode cX0_init 1 = .ok (.invokespecial 3, 3) := by decide +kernel
theorem dX0_init_4 : decode cX0_init 4 = .ok (.aload_n 0, 1) := by decide +kernel
theorem dX0_init_5 : decode cX0_init 5 = .ok (.bipush 8, 2) := by decide +kernel
theorem dX0_init_7 : decode cX0_init 7 = .ok (.newarray .int, 2) := by decide +kernel
theorem dX0_init_9 : decode cX0_init 9 = .ok (.putfield 9, 3) := by decide +kernel
theorem dX0_init_12 : decode cX0_init 12 = .ok (.aload_n 0, 1) := by decide +kernel
theorem dX0_init_13 : decode cX0_init 13 = .ok (.bipush 8, 2) := by decide +kernel
theorem dX0_init_15 : decode cX0_init 15 = .ok (.newarray .int, 2) := by decide +kernel
theorem dX0_init_17 : decode cX0_init 17 = .ok (.putfield 15, 3) := by decide +kernel
theorem dX0_init_20 : decode cX0_init 20 = .ok (.aload_n 0, 1) := by decide +kernel
theorem dX0_init_21 : decode cX0_init 21 = .ok (.bipush 8, 2) := by decide +kernel
theorem dX0_init_23 : decode cX0_init 23 = .ok (.newarray .int, 2) := by decide +kernel
theorem dX0_init_25 : decode cX0_init 25 = .ok (.putfield 18, 3) := by decide +kernel
theorem dX0_init_28 : decode cX0_init 28 = .ok (.aload_n 0, 1) := by decide +kernel
theorem dX0_init_29 : decode cX0_init 29 = .ok (.bipush 8, 2) := by decide +kernel
theorem dX0_init_31 : decode cX0_init 31 = .ok (.newarray .int, 2) := by decide +kernel
theorem dX0_init_33 : decode cX0_init 33 = .ok (.putfield 21, 3) := by decide +kernel
theorem dX0_init_36 : decode cX0_init 36 = .ok (.aload_n 0, 1) := by decide +kernel
theorem dX0_init_37 : decode cX0_init 37 = .ok (.bipush 8, 2) := by decide +kernel
theorem dX0_init_39 : decode cX0_init 39 = .ok (.newarray .int, 2) := by decide +kernel
theorem dX0_init_41 : decode cX0_init 41 = .ok (.putfield 24, 3) := by decide +kernel
theorem dX0_init_44 : decode cX0_init 44 = .ok (.aload_n 0, 1) := by decide +kernel
theorem dX0_init_45 : decode cX0_init 45 = .ok (.bipush 8, 2) := by decide +kernel
theorem dX0_init_47 : decode cX0_init 47 = .ok (.newarray .int, 2) := by decide +kernel
theorem dX0_init_49 : decode cX0_init 49 = .ok (.putfield 27, 3) := by decide +kernel
theorem dX0_init_52 : decode cX0_init 52 = .ok (.aload_n 0, 1) := by decide +kernel
theorem dX0_init_53 : decode cX0_init 53 = .ok (.bipush 8, 2) := by decide +kernel
theorem dX0_init_55 : decode cX0_init 55 = .ok (.newarray .int, 2) := by decide +kernel
theorem dX0_init_57 : decode cX0_init 57 = .ok (.putfield 30, 3) := by decide +kernel
theorem dX0_init_60 : decode cX0_init 60 = .ok (.aload_n 0, 1) := by decide +kernel
theorem dX0_init_61 : decode cX0_init 61 = .ok (.bipush 6, 2) := by decide +kernel
theorem dX0_init_63 : decode cX0_init 63 = .ok (.newarray .int, 2) := by decide +kernel
theorem dX0_init_65 : decode cX0_init 65 = .ok (.putfield 33, 3) := by decide +kernel
theorem dX0_init_68 : decode cX0_init 68 = .ok (.aload_n 0, 1) := by decide +kernel
theorem dX0_init_69 : decode cX0_init 69 = .ok (.bipush 8, 2) := by decide +kernel
theorem dX0_init_71 : decode cX0_init 71 = .ok (.newarray .int, 2) := by decide +kernel
theorem dX0_init_73 : decode cX0_init 73 = .ok (.putfield 36, 3) := by decide +kernel
theorem dX0_init_76 : decode cX0_init 76 = .ok (.return_, 1) := by decide +kernel
theorem st_X0 : kSt yX0_init cX0_init 1 0 := ⟨rfl, (List.mem_of_getElem? (i := 113) (by decide +kernel)), (List.mem_of_getElem? (i := 67) (by decide +kernel)), (List.mem_of_getElem? (i := 112) (by decide +kernel)), by decide +kernel, by decide +kernel, by decide +kernel⟩
set_option maxHeartbeats 4000000 in
set_option maxRecDepth 100000 in
theorem mk_X0 (l : Launch) (D : va_G) (cy : Nat → ClassId) (f : Nat → Nat) : kMet l D cy f yX0_init cX0_init 1 1 12 9 70 0 (k_new 0 19) [] (bkK 0 (fun _ => 0) (fun _ _ => 0)) (fun h0 ad => ad 0 = h0) := by
  refine k_of (by decide +kernel) rfl (Nat.le_of_ble_eq_true rfl) ?_
  intro p e s m args below meth c h0 hE hin hr ls hl
  refine k_al hE (i := 0) rfl (lv_at hl 0 rfl) dX0_init_0 ?_
  refine k_obj hE (List.mem_of_getElem? (i := 114) (by decide +kernel)) (Nat.le_of_ble_eq_true rfl) (Nat.le_of_ble_eq_true rfl) hl.1 dX0_init_1 ?_
  refine k_al hE (i := 0) rfl (lv_at hl 0 rfl) dX0_init_4 ?_
  refine k_bi hE (v := 8) dX0_init_5 (by decide) ?_
  refine k_na hE (t := 0) (N := 8) rfl k_ari rfl rfl (by decide) (by decide) (by decide) (Nat.le_of_ble_eq_true rfl) (Nat.le_of_ble_eq_true rfl) dX0_init_7 (fun q1 => ?_)
  refine k_pF hE hin (ci := 0) (T := TX0) (N := 19) (k := 7) rfl (by decide) (List.mem_of_getElem? (i := 138) (by decide +kernel)) rfl rfl rfl rfl (Nat.le_of_ble_eq_true rfl) dX0_init_9 ?_
  refine k_al hE (i := 0) rfl (lv_at hl 0 rfl) dX0_init_12 ?_
  refine k_bi hE (v := 8) dX0_init_13 (by decide) ?_
  refine k_na hE (t := 0) (N := 8) rfl k_ari rfl rfl (by decide) (by decide) (by decide) (Nat.le_of_ble_eq_true rfl) (Nat.le_of_ble_eq_true rfl) dX0_init_15 (fun q2 => ?_)
  refine k_pF hE hin (ci := 0) (T := TX0) (N := 19) (k := 8) rfl (by decide) (List.mem_of_getElem? (i := 141) (by decide +kernel)) rfl rfl rfl rfl (Nat.le_of_ble_eq_true rfl) dX0_init_17 ?_
  refine k_al hE (i := 0) rfl (lv_at hl 0 rfl) dX0_init_20 ?_
  refine k_bi hE (v := 8) dX0_init_21 (by decide) ?_
  refine k_na hE (t := 0) (N := 8) rfl k_ari rfl rfl (by decide) (by decide) (by decide) (Nat.le_of_ble_eq_true rfl) (Nat.le_of_ble_eq_true rfl) dX0_init_23 (fun q3 => ?_)
  refine k_pF hE hin (ci := 0) (T := TX0) (N := 19) (k := 9) rfl (by decide) (List.mem_of_getElem? (i := 145) (by decide +kernel)) rfl rfl rfl rfl (Nat.le_of_ble_eq_true rfl) dX0_init_25 ?_
  refine k_al hE (i := 0) rfl (lv_at hl 0 rfl) dX0_init_28 ?_
  refine k_bi hE (v := 8) dX0_init_29 (by decide) ?_
  refine k_na hE (t := 0) (N := 8) rfl k_ari rfl rfl (by decide) (by decide) (by decide) (Nat.le_of_ble_eq_true rfl) (Nat.le_of_ble_eq_true rfl) dX0_init_31 (fun q4 => ?_)
  refine k_pF hE hin (ci := 0) (T := TX0) (N := 19) (k := 10) rfl (by decide) (List.mem_of_getElem? (i := 148) (by decide +kernel)) rfl rfl rfl rfl (Nat.le_of_ble_eq_true rfl) dX0_init_33 ?_
  refine k_al hE (i := 0) rfl (lv_at hl 0 rfl) dX0_init_36 ?_
  refine k_bi hE (v := 8) dX0_init_37 (by decide) ?_
  refine k_na hE (t := 0) (N := 8) rfl k_ari rfl rfl (by decide) (by decide) (by decide) (Nat.le_of_ble_eq_true rfl) (Nat.le_of_ble_eq_true rfl) dX0_init_39 (fun q5 => ?_)
  refine k_pF hE hin (ci := 0) (T := TX0) (N := 19) (k := 11) rfl (by decide) (List.mem_of_getElem? (i := 151) (by decide +kernel)) rfl rfl rfl rfl (Nat.le_of_ble_eq_true rfl) dX0_init_41 ?_
  refine k_al hE (i := 0) rfl (lv_at hl 0 rfl) dX0_init_44 ?_
  refine k_bi hE (v := 8) dX0_init_45 (by decide) ?_
  refine k_na hE (t := 0) (N := 8) rfl k_ari rfl rfl (by decide) (by decide) (by decide) (Nat.le_of_ble_eq_true rfl) (Nat.le_of_ble_eq_true rfl) dX0_init_47 (fun q6 => ?_)
  refine k_pF hE hin (ci := 0) (T := TX0) (N := 19) (k := 12) rfl (by decide) (List.mem_of_getElem? (i := 154) (by decide +kernel)) rfl rfl rfl rfl (Nat.le_of_ble_eq_true rfl) dX0_init_49 ?_
  refine k_al hE (i := 0) rfl (lv_at hl 0 rfl) dX0_init_52 ?_
  refine k_bi hE (v := 8) dX0_init_53 (by decide) ?_
  refine k_na hE (t := 0) (N := 8) rfl k_ari rfl rfl (by decide) (by decide) (by decide) (Nat.le_of_ble_eq_true rfl) (Nat.le_of_ble_eq_true rfl) dX0_init_55 (fun q7 => ?_)
  refine k_pF hE hin (ci := 0) (T := TX0) (N := 19) (k := 13) rfl (by decide) (List.mem_of_getElem? (i := 157) (by decide +kernel)) rfl rfl rfl rfl (Nat.le_of_ble_eq_true rfl) dX0_init_57 ?_
  refine k_al hE (i := 0) rfl (lv_at hl 0 rfl) dX0_init_60 ?_
  refine k_bi hE (v := 6) dX0_init_61 (by decide) ?_
  refine k_na hE (t := 0) (N := 6) rfl k_ari rfl rfl (by decide) (by decide) (by decide) (Nat.le_of_ble_eq_true rfl) (Nat.le_of_ble_eq_true rfl) dX0_init_63 (fun q8 => ?_)
  refine k_pF hE hin (ci := 0) (T := TX0) (N := 19) (k := 14) rfl (by decide) (List.mem_of_getElem? (i := 160) (by decide +kernel)) rfl rfl rfl rfl (Nat.le_of_ble_eq_true rfl) dX0_init_65 ?_
  refine k_al hE (i := 0) rfl (lv_at hl 0 rfl) dX0_init_68 ?_
  refine k_bi hE (v := 8) dX0_init_69 (by decide) ?_
  refine k_na hE (t := 0) (N := 8) rfl k_ari rfl rfl (by decide) (by decide) (by decide) (Nat.le_of_ble_eq_true rfl) (Nat.le_of_ble_eq_true rfl) dX0_init_71 (fun q9 => ?_)
  refine k_pF hE hin (ci := 0) (T := TX0) (N := 19) (k := 16) rfl (by decide) (List.mem_of_getElem? (i := 166) (by decide +kernel)) rfl rfl rfl rfl (Nat.le_of_ble_eq_true rfl) dX0_init_73 ?_
  exact k_rtn hE hr (k_pk [h0, q1, q2, q3, q4, q5, q6, q7, q8, q9] (fun _ => 0)) rfl [0, 1, 2, 3, 4, 5, 6, 7, 8, 9] (by decide) rfl (Nat.le_of_ble_eq_true rfl) (Nat.le_of_ble_eq_true rfl) dX0_init_76
theorem dX2_init_0 : decode cX2_init 0 = .ok (.aload_n 0, 1) := by decide +kernel
theorem dX2_init_1 : decode cX2_init 1 = .ok (.invokespecial 3, 3) := by decide +kernel
theorem dX2_init_4 : decode cX2_init 4 = .ok (.aload_n 0, 1) := by decide +kernel
theorem dX2_init_5 : decode cX2_init 5 = .ok (.sipush 256, 3) := by decide +kernel
theorem dX2_init_8 : decode cX2_init 8 = .ok (.newarray .int, 2) := by decide +kernel
theorem dX2_init_10 : decode cX2_init 10 = .ok (.putfield 9, 3) := by decide +kernel
theorem dX2_init_13 : decode cX2_init 13 = .ok (.aload_n 0, 1) := by decide +kernel
theorem dX2_init_14 : decode cX2_init 14 = .ok (.sipush 256, 3) := by decide +kernel
theorem dX2_init_17 : decode cX2_init 17 = .ok (.newarray .int, 2) := by decide +kernel
theorem dX2_init_19 : decode cX2_init 19 = .ok (.putfield 15, 3) := by decide +kernel
theorem dX2_init_22 : decode cX2_init 22 = .ok (.aload_n 0, 1) := by decide +kernel
theorem dX2_init_23 : decode cX2_init 23 = .ok (.sipush 256, 3) := by decide +kernel
theorem dX2_init_26 : decode cX2_init 26 = .ok (.newarray .int, 2) := by decide +kernel
theorem dX2_init_28 : decode cX2_init 28 = .ok (.putfield 18, 3) := by decide +kernel
theorem dX2_init_31 : decode cX2_init 31 = .ok (.aload_n 0, 1) := by decide +kernel
theorem dX2_init_32 : decode cX2_init 32 = .ok (.sipush 256, 3) := by decide +kernel
theorem dX2_init_35 : decode cX2_init 35 = .ok (.newarray .boolean, 2) := by decide +kernel
theorem dX2_init_37 : decode cX2_init 37 = .ok (.putfield 21, 3) := by decide +kernel
theorem dX2_init_40 : decode cX2_init 40 = .ok (.return_, 1) := by decide +kernel
theorem st_X2 : kSt yX2_init cX2_init 1 0 := ⟨rfl, (List.mem_of_getElem? (i := 253) (by decide +kernel)), (List.mem_of_getElem? (i := 68) (by decide +kernel)), (List.mem_of_getElem? (i := 252) (by decide +kernel)), by decide +kernel, by decide +kernel, by decide +kernel⟩
set_option maxHeartbeats 4000000 in
set_option maxRecDepth 100000 in
theorem mk_X2 (l : Launch) (D : va_G) (cy : Nat → ClassId) (f : Nat → Nat) : kMet l D cy f yX2_init cX2_init 1 1 12 4 1024 2 (k_new 2 6) [] ([.inr (.inr (2, [.ref 1, .ref 2, .ref 3, .ref 4, .int 0, .int 0])), .inl (0, 256, fun _ => 0), .inl (0, 256, fun _ => 0), .inl (0, 256, fun _ => 0), .inl (2, 256, fun _ => 0)]) (fun h0 ad => ad 0 = h0) := by
  refine k_of (by decide +kernel) rfl (Nat.le_of_ble_eq_true rfl) ?_
  intro p e s m args below meth c h0 hE hin hr ls hl
  refine k_al hE (i := 0) rfl (lv_at hl 0 rfl) dX2_init_0 ?_
  refine k_obj hE (List.mem_of_getElem? (i := 254) (by decide +kernel)) (Nat.le_of_ble_eq_true rfl) (Nat.le_of_ble_eq_true rfl) hl.1 dX2_init_1 ?_
  refine k_al hE (i := 0) rfl (lv_at hl 0 rfl) dX2_init_4 ?_
  refine k_si hE (v := 256) dX2_init_5 (by decide) ?_
  refine k_na hE (t := 0) (N := 256) rfl k_ari rfl rfl (by decide) (by decide) (by decide) (Nat.le_of_ble_eq_true rfl) (Nat.le_of_ble_eq_true rfl) dX2_init_8 (fun q1 => ?_)
  refine k_pF hE hin (ci := 2) (T := TX2) (N := 6) (k := 0) rfl (by decide) (List.mem_of_getElem? (i := 255) (by decide +kernel)) rfl rfl rfl rfl (Nat.le_of_ble_eq_true rfl) dX2_init_10 ?_
  refine k_al hE (i := 0) rfl (lv_at hl 0 rfl) dX2_init_13 ?_
  refine k_si hE (v := 256) dX2_init_14 (by decide) ?_
  refine k_na hE (t := 0) (N := 256) rfl k_ari rfl rfl (by decide) (by decide) (by decide) (Nat.le_of_ble_eq_true rfl) (Nat.le_of_ble_eq_true rfl) dX2_init_17 (fun q2 => ?_)
  refine k_pF hE hin (ci := 2) (T := TX2) (N := 6) (k := 1) rfl (by decide) (List.mem_of_getElem? (i := 256) (by decide +kernel)) rfl rfl rfl rfl (Nat.le_of_ble_eq_true rfl) dX2_init_19 ?_
  refine k_al hE (i := 0) rfl (lv_at hl 0 rfl) dX2_init_22 ?_
  refine k_si hE (v := 256) dX2_init_23 (by decide) ?_
  refine k_na hE (t := 0) (N := 256) rfl k_ari rfl rfl (by decide) (by decide) (by decide) (Nat.le_of_ble_eq_true rfl) (Nat.le_of_ble_eq_true rfl) dX2_init_26 (fun q3 => ?_)
  refine k_pF hE hin (ci := 2) (T := TX2) (N := 6) (k := 2) rfl (by decide) (List.mem_of_getElem? (i := 257) (by decide +kernel)) rfl rfl rfl rfl (Nat.le_of_ble_eq_true rfl) dX2_init_28 ?_
  refine k_al hE (i := 0) rfl (lv_at hl 0 rfl) dX2_init_31 ?_
  refine k_si hE (v := 256) dX2_init_32 (by decide) ?_
  refine k_na hE (t := 2) (N := 256) rfl k_arz rfl rfl (by decide) (by decide) (by decide) (Nat.le_of_ble_eq_true rfl) (Nat.le_of_ble_eq_true rfl) dX2_init_35 (fun q4 => ?_)
  refine k_pF hE hin (ci := 2) (T := TX2) (N := 6) (k := 3) rfl (by decide) (List.mem_of_getElem? (i := 258) (by decide +kernel)) rfl rfl rfl rfl (Nat.le_of_ble_eq_true rfl) dX2_init_37 ?_
  exact k_rtn hE hr (k_pk [h0, q1, q2, q3, q4] (fun _ => 0)) rfl [0, 1, 2, 3, 4] (by decide) rfl (Nat.le_of_ble_eq_true rfl) (Nat.le_of_ble_eq_true rfl) dX2_init_40
theorem dX3_init_0 : decode cX3_init 0 = .ok (.aload_n 0, 1) := by decide +kernel
theorem dX3_init_1 : decode cX3_init 1 = .ok (.invokespecial 3, 3) := by decide +kernel
theorem dX3_init_4 : decode cX3_init 4 = .ok (.aload_n 0, 1) := by decide +kernel
theorem dX3_init_5 : decode cX3_init 5 = .ok (.bipush 40, 2) := by decide +kernel
theorem dX3_init_7 : decode cX3_init 7 = .ok (.newarray .int, 2) := by decide +kernel
theorem dX3_init_9 : decode cX3_init 9 = .ok (.putfield 9, 3) := by decide +kernel
theorem dX3_init_12 : decode cX3_init 12 = .ok (.aload_n 0, 1) := by decide +kernel
theorem dX3_init_13 : decode cX3_init 13 = .ok (.iconst (-1), 1) := by decide +kernel
theorem dX3_init_14 : decode cX3_init 14 = .ok (.putfield 15, 3) := by decide +kernel
theorem dX3_init_17 : decode cX3_init 17 = .ok (.return_, 1) := by decide +kernel
theorem st_X3 : kSt yX3_init cX3_init 1 0 := ⟨rfl, (List.mem_of_getElem? (i := 283) (by decide +kernel)), (List.mem_of_getElem? (i := 69) (by decide +kernel)), (List.mem_of_getElem? (i := 282) (by decide +kernel)), by decide +kernel, by decide +kernel, by decide +kernel⟩
set_option maxHeartbeats 4000000 in
set_option maxRecDepth 100000 in
theorem mk_X3 (l : Launch) (D : va_G) (cy : Nat → ClassId) (f : Nat → Nat) : kMet l D cy f yX3_init cX3_init 1 1 12 1 40 3 (k_new 3 3) [] ([.inr (.inr (3, [.ref 1, .int (-1), .int 0])), .inl (0, 40, fun _ => 0)]) (fun h0 ad => ad 0 = h0) := by
  refine k_of (by decide +kernel) rfl (Nat.le_of_ble_eq_true rfl) ?_
  intro p e s m args below meth c h0 hE hin hr ls hl
  refine k_al hE (i := 0) rfl (lv_at hl 0 rfl) dX3_init_0 ?_
  refine k_obj hE (List.mem_of_getElem? (i := 284) (by decide +kernel)) (Nat.le_of_ble_eq_true rfl) (Nat.le_of_ble_eq_true rfl) hl.1 dX3_init_1 ?_
  refine k_al hE (i := 0) rfl (lv_at hl 0 rfl) dX3_init_4 ?_
  refine k_bi hE (v := 40) dX3_init_5 (by decide) ?_
  refine k_na hE (t := 0) (N := 40) rfl k_ari rfl rfl (by decide) (by decide) (by decide) (Nat.le_of_ble_eq_true rfl) (Nat.le_of_ble_eq_true rfl) dX3_init_7 (fun q1 => ?_)
  refine k_pF hE hin (ci := 3) (T := TX3) (N := 3) (k := 0) rfl (by decide) (List.mem_of_getElem? (i := 285) (by decide +kernel)) rfl rfl rfl rfl (Nat.le_of_ble_eq_true rfl) dX3_init_9 ?_
  refine k_al hE (i := 0) rfl (lv_at hl 0 rfl) dX3_init_12 ?_
  refine k_ic hE (v := -1) dX3_init_13 (by decide) ?_
  refine k_pV hE (ci := 3) (T := TX3) (N := 3) (k := 1) rfl (by decide) (List.mem_of_getElem? (i := 287) (by decide +kernel)) rfl rfl rfl rfl (Nat.le_of_ble_eq_true rfl) dX3_init_14 ?_
  exact k_rtn hE hr (k_pk [h0, q1] (fun _ => 0)) rfl [0, 1] (by decide) rfl (Nat.le_of_ble_eq_true rfl) (Nat.le_of_ble_eq_true rfl) dX3_init_17
