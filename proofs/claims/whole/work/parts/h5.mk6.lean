/-! ===== constructors: WishClerkModel ===== -/
def mB0 : Nat → Nat → Int32 := va_up (fun _ _ => 0) 14 (upd (upd (upd (upd (fun _ => 0) (0 : Int32).toNatClampNeg (-4)) (0 + 1 : Int32).toNatClampNeg (-4)) (0 + 1 + 1 : Int32).toNatClampNeg (-4)) (0 + 1 + 1 + 1 : Int32).toNatClampNeg (-4))
def mS1 : Nat → Int32 := q_fd (fun _ => 0)
def mA1 : Nat → Nat → Int32 := va_up mB0 5 (q_zk (mB0 5) 0 53)
def mS0 : Nat → Int32 := q_kdS mS1
def mA0 : Nat → Nat → Int32 := q_kd mA1 (mS1 8).toNatClampNeg
def k_X6_init : List sBk := [
  (0, false, [true, false], []),
  (136, false, [true, false], [oK 136 (.iconst 0) (.int 0), o0 137 (.istore_n 1), oN 138 .nop [2]]),
  (138, false, [true, true], [o0 138 (.iload_n 1), oK 139 (.iconst 4) (.int 4), oN 140 (.if_icmp .ge 17) [3], o0 143 (.aload_n 0), oN 144 (.getfield 50) [6, 27, 849], o0 147 (.iload_n 1), oK 148 (.bipush (-4)) (.int (-4)), o0 150 .iastore, oK 151 (.iinc 1 1) (.int 1), oN 154 (.goto (-16)) [2]]),
  (157, false, [true, false], [o0 157 (.aload_n 0), oC 158 (.invokevirtual 59) [814] c_X6_firstDraft, o0 161 (.aload_n 0), oC 162 (.invokevirtual 62) [818] c_X6_keepDraft, o0 165 .return_])]
set_option maxRecDepth 100000 in
theorem ck_X6_init : s_ck RX6 cX6_init 2 1 21 k_X6_init = true := by decide +kernel
theorem okb_X6_init : s_okb k_X6_init := And.intro ok_X6_firstDraft (And.intro ok_X6_keepDraft trivial)
set_option maxHeartbeats 4000000 in
set_option maxRecDepth 100000 in
theorem run_X6 (G : Nat → sK) (hG : s_Clo none k_X6_init G (fun r L => r = none ∧ L = mdW mS0 mA0) false) : G 1 [some (.ref 0), none] [] (mdW (fun _ => 0) (fun _ _ => 0)) := by
  refine hG 1 _ _ _ ?_
  refine And.intro (fun _ => ?_) (fun h => (h (by decide)).elim)
  refine And.intro (show ¬ ((0 : Int32) < 0 ∨ 4 ≤ (0 : Int32).toNatClampNeg) by decide) ?_
  refine And.intro (fun _ => ?_) (fun h => (h (by decide)).elim)
  refine And.intro (show ¬ ((0 + 1 : Int32) < 0 ∨ 4 ≤ (0 + 1 : Int32).toNatClampNeg) by decide) ?_
  refine And.intro (fun _ => ?_) (fun h => (h (by decide)).elim)
  refine And.intro (show ¬ ((0 + 1 + 1 : Int32) < 0 ∨ 4 ≤ (0 + 1 + 1 : Int32).toNatClampNeg) by decide) ?_
  refine And.intro (fun _ => ?_) (fun h => (h (by decide)).elim)
  refine And.intro (show ¬ ((0 + 1 + 1 + 1 : Int32) < 0 ∨ 4 ≤ (0 + 1 + 1 + 1 : Int32).toNatClampNeg) by decide) ?_
  refine And.intro (fun h => absurd h (by decide)) (fun _ => ?_)
  refine And.intro ⟨fun _ => 0, mB0, rfl, rfl⟩ ?_
  rintro r L' ⟨rfl, hL⟩
  obtain rfl : L' = mdW mS1 mA1 := hL
  refine And.intro ⟨mS1, mA1, 0, rfl, rfl, by decide, by decide⟩ ?_
  rintro r L' ⟨rfl, hL⟩
  obtain rfl : L' = mdW mS0 mA0 := hL
  exact ⟨rfl, rfl⟩
theorem k_pk_out {l : List Nat} {f : Nat → Nat} {k : Nat} (h : l.length ≤ k) : k_pk l f k = f k := by
  unfold k_pk
  rw [s_nth_eq, List.getElem?_eq_none h]
theorem dX6_init_0 : decode cX6_init 0 = .ok (.aload_n 0, 1) := by decide +kernel
theorem dX6_init_1 : decode cX6_init 1 = .ok (.invokespecial 1, 3) := by decide +kernel
theorem dX6_init_4 : decode cX6_init 4 = .ok (.aload_n 0, 1) := by decide +kernel
theorem dX6_init_5 : decode cX6_init 5 = .ok (.sipush 159, 3) := by decide +kernel
theorem dX6_init_8 : decode cX6_init 8 = .ok (.newarray .int, 2) := by decide +kernel
theorem dX6_init_10 : decode cX6_init 10 = .ok (.putfield 7, 3) := by decide +kernel
theorem dX6_init_13 : decode cX6_init 13 = .ok (.aload_n 0, 1) := by decide +kernel
theorem dX6_init_14 : decode cX6_init 14 = .ok (.iconst 2, 1) := by decide +kernel
theorem dX6_init_15 : decode cX6_init 15 = .ok (.newarray .boolean, 2) := by decide +kernel
theorem dX6_init_17 : decode cX6_init 17 = .ok (.putfield 13, 3) := by decide +kernel
theorem dX6_init_20 : decode cX6_init 20 = .ok (.aload_n 0, 1) := by decide +kernel
theorem dX6_init_21 : decode cX6_init 21 = .ok (.bipush 8, 2) := by decide +kernel
theorem dX6_init_23 : decode cX6_init 23 = .ok (.newarray .int, 2) := by decide +kernel
theorem dX6_init_25 : decode cX6_init 25 = .ok (.putfield 17, 3) := by decide +kernel
theorem dX6_init_28 : decode cX6_init 28 = .ok (.aload_n 0, 1) := by decide +kernel
theorem dX6_init_29 : decode cX6_init 29 = .ok (.bipush 8, 2) := by decide +kernel
theorem dX6_init_31 : decode cX6_init 31 = .ok (.newarray .int, 2) := by decide +kernel
theorem dX6_init_33 : decode cX6_init 33 = .ok (.putfield 20, 3) := by decide +kernel
theorem dX6_init_36 : decode cX6_init 36 = .ok (.aload_n 0, 1) := by decide +kernel
theorem dX6_init_37 : decode cX6_init 37 = .ok (.bipush 53, 2) := by decide +kernel
theorem dX6_init_39 : decode cX6_init 39 = .ok (.newarray .int, 2) := by decide +kernel
theorem dX6_init_41 : decode cX6_init 41 = .ok (.putfield 23, 3) := by decide +kernel
theorem dX6_init_44 : decode cX6_init 44 = .ok (.aload_n 0, 1) := by decide +kernel
theorem dX6_init_45 : decode cX6_init 45 = .ok (.bipush 8, 2) := by decide +kernel
theorem dX6_init_47 : decode cX6_init 47 = .ok (.newarray .int, 2) := by decide +kernel
theorem dX6_init_49 : decode cX6_init 49 = .ok (.putfield 26, 3) := by decide +kernel
theorem dX6_init_52 : decode cX6_init 52 = .ok (.aload_n 0, 1) := by decide +kernel
theorem dX6_init_53 : decode cX6_init 53 = .ok (.bipush 8, 2) := by decide +kernel
theorem dX6_init_55 : decode cX6_init 55 = .ok (.newarray .int, 2) := by decide +kernel
theorem dX6_init_57 : decode cX6_init 57 = .ok (.putfield 29, 3) := by decide +kernel
theorem dX6_init_60 : decode cX6_init 60 = .ok (.aload_n 0, 1) := by decide +kernel
theorem dX6_init_61 : decode cX6_init 61 = .ok (.sipush 160, 3) := by decide +kernel
theorem dX6_init_64 : decode cX6_init 64 = .ok (.newarray .int, 2) := by decide +kernel
theorem dX6_init_66 : decode cX6_init 66 = .ok (.putfield 32, 3) := by decide +kernel
theorem dX6_init_69 : decode cX6_init 69 = .ok (.aload_n 0, 1) := by decide +kernel
theorem dX6_init_70 : decode cX6_init 70 = .ok (.sipush 256, 3) := by decide +kernel
theorem dX6_init_73 : decode cX6_init 73 = .ok (.newarray .int, 2) := by decide +kernel
theorem dX6_init_75 : decode cX6_init 75 = .ok (.putfield 35, 3) := by decide +kernel
theorem dX6_init_78 : decode cX6_init 78 = .ok (.aload_n 0, 1) := by decide +kernel
theorem dX6_init_79 : decode cX6_init 79 = .ok (.sipush 256, 3) := by decide +kernel
theorem dX6_init_82 : decode cX6_init 82 = .ok (.newarray .int, 2) := by decide +kernel
theorem dX6_init_84 : decode cX6_init 84 = .ok (.putfield 38, 3) := by decide +kernel
theorem dX6_init_87 : decode cX6_init 87 = .ok (.aload_n 0, 1) := by decide +kernel
theorem dX6_init_88 : decode cX6_init 88 = .ok (.sipush 256, 3) := by decide +kernel
theorem dX6_init_91 : decode cX6_init 91 = .ok (.newarray .int, 2) := by decide +kernel
theorem dX6_init_93 : decode cX6_init 93 = .ok (.putfield 41, 3) := by decide +kernel
theorem dX6_init_96 : decode cX6_init 96 = .ok (.aload_n 0, 1) := by decide +kernel
theorem dX6_init_97 : decode cX6_init 97 = .ok (.sipush 256, 3) := by decide +kernel
theorem dX6_init_100 : decode cX6_init 100 = .ok (.newarray .int, 2) := by decide +kernel
theorem dX6_init_102 : decode cX6_init 102 = .ok (.putfield 44, 3) := by decide +kernel
theorem dX6_init_105 : decode cX6_init 105 = .ok (.aload_n 0, 1) := by decide +kernel
theorem dX6_init_106 : decode cX6_init 106 = .ok (.bipush 8, 2) := by decide +kernel
theorem dX6_init_108 : decode cX6_init 108 = .ok (.newarray .int, 2) := by decide +kernel
theorem dX6_init_110 : decode cX6_init 110 = .ok (.putfield 47, 3) := by decide +kernel
theorem dX6_init_113 : decode cX6_init 113 = .ok (.aload_n 0, 1) := by decide +kernel
theorem dX6_init_114 : decode cX6_init 114 = .ok (.iconst 4, 1) := by decide +kernel
theorem dX6_init_115 : decode cX6_init 115 = .ok (.newarray .int, 2) := by decide +kernel
theorem dX6_init_117 : decode cX6_init 117 = .ok (.putfield 50, 3) := by decide +kernel
theorem dX6_init_120 : decode cX6_init 120 = .ok (.aload_n 0, 1) := by decide +kernel
theorem dX6_init_121 : decode cX6_init 121 = .ok (.iconst 4, 1) := by decide +kernel
theorem dX6_init_122 : decode cX6_init 122 = .ok (.newarray .int, 2) := by decide +kernel
theorem dX6_init_124 : decode cX6_init 124 = .ok (.putfield 53, 3) := by decide +kernel
theorem dX6_init_127 : decode cX6_init 127 = .ok (.aload_n 0, 1) := by decide +kernel
theorem dX6_init_128 : decode cX6_init 128 = .ok (.sipush 160, 3) := by decide +kernel
theorem dX6_init_131 : decode cX6_init 131 = .ok (.newarray .int, 2) := by decide +kernel
theorem dX6_init_133 : decode cX6_init 133 = .ok (.putfield 56, 3) := by decide +kernel
theorem dX6_init_136 : decode cX6_init 136 = .ok (.iconst 0, 1) := by decide +kernel
theorem dX6_init_137 : decode cX6_init 137 = .ok (.istore_n 1, 1) := by decide +kernel
theorem dX6_init_138 : decode cX6_init 138 = .ok (.iload_n 1, 1) := by decide +kernel
theorem dX6_init_139 : decode cX6_init 139 = .ok (.iconst 4, 1) := by decide +kernel
theorem dX6_init_140 : decode cX6_init 140 = .ok (.if_icmp .ge 17, 3) := by decide +kernel
theorem dX6_init_143 : decode cX6_init 143 = .ok (.aload_n 0, 1) := by decide +kernel
theorem dX6_init_144 : decode cX6_init 144 = .ok (.getfield 50, 3) := by decide +kernel
theorem dX6_init_147 : decode cX6_init 147 = .ok (.iload_n 1, 1) := by decide +kernel
theorem dX6_init_148 : decode cX6_init 148 = .ok (.bipush (-4), 2) := by decide +kernel
theorem dX6_init_150 : decode cX6_init 150 = .ok (.iastore, 1) := by decide +kernel
theorem dX6_init_151 : decode cX6_init 151 = .ok (.iinc 1 1, 3) := by decide +kernel
theorem dX6_init_154 : decode cX6_init 154 = .ok (.goto (-16), 3) := by decide +kernel
theorem dX6_init_157 : decode cX6_init 157 = .ok (.aload_n 0, 1) := by decide +kernel
theorem dX6_init_158 : decode cX6_init 158 = .ok (.invokevirtual 59, 3) := by decide +kernel
theorem dX6_init_161 : decode cX6_init 161 = .ok (.aload_n 0, 1) := by decide +kernel
theorem dX6_init_162 : decode cX6_init 162 = .ok (.invokevirtual 62, 3) := by decide +kernel
theorem dX6_init_165 : decode cX6_init 165 = .ok (.return_, 1) := by decide +kernel
theorem st_X6 : kSt yX6_init cX6_init 2 0 := ⟨rfl, (List.mem_of_getElem? (i := 812) (by decide +kernel)), (List.mem_of_getElem? (i := 70) (by decide +kernel)), (List.mem_of_getElem? (i := 811) (by decide +kernel)), by decide +kernel, by decide +kernel, by decide +kernel⟩
set_option maxHeartbeats 4000000 in
set_option maxRecDepth 100000 in
theorem mk_X6 (l : Launch) (D : va_G) (cy : Nat → ClassId) (f : Nat → Nat) : kMet l D cy f yX6_init cX6_init 2 1 21 16 1606 6 (k_new 6 31) [] (mdW mS0 mA0) (fun h0 ad => ad 0 = h0) := by
  refine k_of (by decide +kernel) rfl (Nat.le_of_ble_eq_true rfl) ?_
  intro p e s m args below meth c h0 hE hin hr ls hl
  refine k_al hE (i := 0) rfl (lv_at hl 0 rfl) dX6_init_0 ?_
  refine k_obj hE (List.mem_of_getElem? (i := 813) (by decide +kernel)) (Nat.le_of_ble_eq_true rfl) (Nat.le_of_ble_eq_true rfl) hl.1 dX6_init_1 ?_
  refine k_al hE (i := 0) rfl (lv_at hl 0 rfl) dX6_init_4 ?_
  refine k_si hE (v := 159) dX6_init_5 (by decide) ?_
  refine k_na hE (t := 0) (N := 159) rfl k_ari rfl rfl (by decide) (by decide) (by decide) (Nat.le_of_ble_eq_true rfl) (Nat.le_of_ble_eq_true rfl) dX6_init_8 (fun q1 => ?_)
  refine k_pF hE hin (ci := 6) (T := TX6) (N := 31) (k := 0) rfl (by decide) (List.mem_of_getElem? (i := 822) (by decide +kernel)) rfl rfl rfl rfl (Nat.le_of_ble_eq_true rfl) dX6_init_10 ?_
  refine k_al hE (i := 0) rfl (lv_at hl 0 rfl) dX6_init_13 ?_
  refine k_ic hE (v := 2) dX6_init_14 (by decide) ?_
  refine k_na hE (t := 2) (N := 2) rfl k_arz rfl rfl (by decide) (by decide) (by decide) (Nat.le_of_ble_eq_true rfl) (Nat.le_of_ble_eq_true rfl) dX6_init_15 (fun q2 => ?_)
  refine k_pF hE hin (ci := 6) (T := TX6) (N := 31) (k := 1) rfl (by decide) (List.mem_of_getElem? (i := 823) (by decide +kernel)) rfl rfl rfl rfl (Nat.le_of_ble_eq_true rfl) dX6_init_17 ?_
  refine k_al hE (i := 0) rfl (lv_at hl 0 rfl) dX6_init_20 ?_
  refine k_bi hE (v := 8) dX6_init_21 (by decide) ?_
  refine k_na hE (t := 0) (N := 8) rfl k_ari rfl rfl (by decide) (by decide) (by decide) (Nat.le_of_ble_eq_true rfl) (Nat.le_of_ble_eq_true rfl) dX6_init_23 (fun q3 => ?_)
  refine k_pF hE hin (ci := 6) (T := TX6) (N := 31) (k := 4) rfl (by decide) (List.mem_of_getElem? (i := 826) (by decide +kernel)) rfl rfl rfl rfl (Nat.le_of_ble_eq_true rfl) dX6_init_25 ?_
  refine k_al hE (i := 0) rfl (lv_at hl 0 rfl) dX6_init_28 ?_
  refine k_bi hE (v := 8) dX6_init_29 (by decide) ?_
  refine k_na hE (t := 0) (N := 8) rfl k_ari rfl rfl (by decide) (by decide) (by decide) (Nat.le_of_ble_eq_true rfl) (Nat.le_of_ble_eq_true rfl) dX6_init_31 (fun q4 => ?_)
  refine k_pF hE hin (ci := 6) (T := TX6) (N := 31) (k := 5) rfl (by decide) (List.mem_of_getElem? (i := 827) (by decide +kernel)) rfl rfl rfl rfl (Nat.le_of_ble_eq_true rfl) dX6_init_33 ?_
  refine k_al hE (i := 0) rfl (lv_at hl 0 rfl) dX6_init_36 ?_
  refine k_bi hE (v := 53) dX6_init_37 (by decide) ?_
  refine k_na hE (t := 0) (N := 53) rfl k_ari rfl rfl (by decide) (by decide) (by decide) (Nat.le_of_ble_eq_true rfl) (Nat.le_of_ble_eq_true rfl) dX6_init_39 (fun q5 => ?_)
  refine k_pF hE hin (ci := 6) (T := TX6) (N := 31) (k := 6) rfl (by decide) (List.mem_of_getElem? (i := 828) (by decide +kernel)) rfl rfl rfl rfl (Nat.le_of_ble_eq_true rfl) dX6_init_41 ?_
  refine k_al hE (i := 0) rfl (lv_at hl 0 rfl) dX6_init_44 ?_
  refine k_bi hE (v := 8) dX6_init_45 (by decide) ?_
  refine k_na hE (t := 0) (N := 8) rfl k_ari rfl rfl (by decide) (by decide) (by decide) (Nat.le_of_ble_eq_true rfl) (Nat.le_of_ble_eq_true rfl) dX6_init_47 (fun q6 => ?_)
  refine k_pF hE hin (ci := 6) (T := TX6) (N := 31) (k := 9) rfl (by decide) (List.mem_of_getElem? (i := 831) (by decide +kernel)) rfl rfl rfl rfl (Nat.le_of_ble_eq_true rfl) dX6_init_49 ?_
  refine k_al hE (i := 0) rfl (lv_at hl 0 rfl) dX6_init_52 ?_
  refine k_bi hE (v := 8) dX6_init_53 (by decide) ?_
  refine k_na hE (t := 0) (N := 8) rfl k_ari rfl rfl (by decide) (by decide) (by decide) (Nat.le_of_ble_eq_true rfl) (Nat.le_of_ble_eq_true rfl) dX6_init_55 (fun q7 => ?_)
  refine k_pF hE hin (ci := 6) (T := TX6) (N := 31) (k := 10) rfl (by decide) (List.mem_of_getElem? (i := 832) (by decide +kernel)) rfl rfl rfl rfl (Nat.le_of_ble_eq_true rfl) dX6_init_57 ?_
  refine k_al hE (i := 0) rfl (lv_at hl 0 rfl) dX6_init_60 ?_
  refine k_si hE (v := 160) dX6_init_61 (by decide) ?_
  refine k_na hE (t := 0) (N := 160) rfl k_ari rfl rfl (by decide) (by decide) (by decide) (Nat.le_of_ble_eq_true rfl) (Nat.le_of_ble_eq_true rfl) dX6_init_64 (fun q8 => ?_)
  refine k_pF hE hin (ci := 6) (T := TX6) (N := 31) (k := 14) rfl (by decide) (List.mem_of_getElem? (i := 836) (by decide +kernel)) rfl rfl rfl rfl (Nat.le_of_ble_eq_true rfl) dX6_init_66 ?_
  refine k_al hE (i := 0) rfl (lv_at hl 0 rfl) dX6_init_69 ?_
  refine k_si hE (v := 256) dX6_init_70 (by decide) ?_
  refine k_na hE (t := 0) (N := 256) rfl k_ari rfl rfl (by decide) (by decide) (by decide) (Nat.le_of_ble_eq_true rfl) (Nat.le_of_ble_eq_true rfl) dX6_init_73 (fun q9 => ?_)
  refine k_pF hE hin (ci := 6) (T := TX6) (N := 31) (k := 22) rfl (by decide) (List.mem_of_getElem? (i := 844) (by decide +kernel)) rfl rfl rfl rfl (Nat.le_of_ble_eq_true rfl) dX6_init_75 ?_
  refine k_al hE (i := 0) rfl (lv_at hl 0 rfl) dX6_init_78 ?_
  refine k_si hE (v := 256) dX6_init_79 (by decide) ?_
  refine k_na hE (t := 0) (N := 256) rfl k_ari rfl rfl (by decide) (by decide) (by decide) (Nat.le_of_ble_eq_true rfl) (Nat.le_of_ble_eq_true rfl) dX6_init_82 (fun q10 => ?_)
  refine k_pF hE hin (ci := 6) (T := TX6) (N := 31) (k := 23) rfl (by decide) (List.mem_of_getElem? (i := 845) (by decide +kernel)) rfl rfl rfl rfl (Nat.le_of_ble_eq_true rfl) dX6_init_84 ?_
  refine k_al hE (i := 0) rfl (lv_at hl 0 rfl) dX6_init_87 ?_
  refine k_si hE (v := 256) dX6_init_88 (by decide) ?_
  refine k_na hE (t := 0) (N := 256) rfl k_ari rfl rfl (by decide) (by decide) (by decide) (Nat.le_of_ble_eq_true rfl) (Nat.le_of_ble_eq_true rfl) dX6_init_91 (fun q11 => ?_)
  refine k_pF hE hin (ci := 6) (T := TX6) (N := 31) (k := 24) rfl (by decide) (List.mem_of_getElem? (i := 846) (by decide +kernel)) rfl rfl rfl rfl (Nat.le_of_ble_eq_true rfl) dX6_init_93 ?_
  refine k_al hE (i := 0) rfl (lv_at hl 0 rfl) dX6_init_96 ?_
  refine k_si hE (v := 256) dX6_init_97 (by decide) ?_
  refine k_na hE (t := 0) (N := 256) rfl k_ari rfl rfl (by decide) (by decide) (by decide) (Nat.le_of_ble_eq_true rfl) (Nat.le_of_ble_eq_true rfl) dX6_init_100 (fun q12 => ?_)
  refine k_pF hE hin (ci := 6) (T := TX6) (N := 31) (k := 25) rfl (by decide) (List.mem_of_getElem? (i := 847) (by decide +kernel)) rfl rfl rfl rfl (Nat.le_of_ble_eq_true rfl) dX6_init_102 ?_
  refine k_al hE (i := 0) rfl (lv_at hl 0 rfl) dX6_init_105 ?_
  refine k_bi hE (v := 8) dX6_init_106 (by decide) ?_
  refine k_na hE (t := 0) (N := 8) rfl k_ari rfl rfl (by decide) (by decide) (by decide) (Nat.le_of_ble_eq_true rfl) (Nat.le_of_ble_eq_true rfl) dX6_init_108 (fun q13 => ?_)
  refine k_pF hE hin (ci := 6) (T := TX6) (N := 31) (k := 26) rfl (by decide) (List.mem_of_getElem? (i := 848) (by decide +kernel)) rfl rfl rfl rfl (Nat.le_of_ble_eq_true rfl) dX6_init_110 ?_
  refine k_al hE (i := 0) rfl (lv_at hl 0 rfl) dX6_init_113 ?_
  refine k_ic hE (v := 4) dX6_init_114 (by decide) ?_
  refine k_na hE (t := 0) (N := 4) rfl k_ari rfl rfl (by decide) (by decide) (by decide) (Nat.le_of_ble_eq_true rfl) (Nat.le_of_ble_eq_true rfl) dX6_init_115 (fun q14 => ?_)
  refine k_pF hE hin (ci := 6) (T := TX6) (N := 31) (k := 27) rfl (by decide) (List.mem_of_getElem? (i := 849) (by decide +kernel)) rfl rfl rfl rfl (Nat.le_of_ble_eq_true rfl) dX6_init_117 ?_
  refine k_al hE (i := 0) rfl (lv_at hl 0 rfl) dX6_init_120 ?_
  refine k_ic hE (v := 4) dX6_init_121 (by decide) ?_
  refine k_na hE (t := 0) (N := 4) rfl k_ari rfl rfl (by decide) (by decide) (by decide) (Nat.le_of_ble_eq_true rfl) (Nat.le_of_ble_eq_true rfl) dX6_init_122 (fun q15 => ?_)
  refine k_pF hE hin (ci := 6) (T := TX6) (N := 31) (k := 28) rfl (by decide) (List.mem_of_getElem? (i := 850) (by decide +kernel)) rfl rfl rfl rfl (Nat.le_of_ble_eq_true rfl) dX6_init_124 ?_
  refine k_al hE (i := 0) rfl (lv_at hl 0 rfl) dX6_init_127 ?_
  refine k_si hE (v := 160) dX6_init_128 (by decide) ?_
  refine k_na hE (t := 0) (N := 160) rfl k_ari rfl rfl (by decide) (by decide) (by decide) (Nat.le_of_ble_eq_true rfl) (Nat.le_of_ble_eq_true rfl) dX6_init_131 (fun q16 => ?_)
  refine k_pF hE hin (ci := 6) (T := TX6) (N := 31) (k := 29) rfl (by decide) (List.mem_of_getElem? (i := 851) (by decide +kernel)) rfl rfl rfl rfl (Nat.le_of_ble_eq_true rfl) dX6_init_133 ?_
  obtain ⟨⟨hx, hb, hml, hown, hts⟩, hK, hA, hX⟩ := id hE
  have hEn : s_Env p { frames := 1, cells := 16, slots := 1606, locals := 21 } s m args c D cy (k_pk [h0, q1, q2, q3, q4, q5, q6, q7, q8, q9, q10, q11, q12, q13, q14, q15, q16] f) (va_A [(h0, .inr (6, k_new 6 31))] s.heap.size) none RX6 cX6_init 2 16 1606 := ⟨hx, hb, hml, hown, hts, hK, hX.2.1, s_str_ren (fun i hi => k_pk_out (by simp only [List.length_cons, List.length_nil]; omega)) hX.2.2, hA, trivial, Nat.le_refl _, Nat.le_refl _⟩
  have hret : s_Ret p l e { frames := 1, cells := 16, slots := 1606, locals := 21 } s m args below meth c D cy (k_pk [h0, q1, q2, q3, q4, q5, q6, q7, q8, q9, q10, q11, q12, q13, q14, q15, q16] f) (va_A [(h0, .inr (6, k_new 6 31))] s.heap.size) (MQ below (kQc D cy 6 (k_new 6 31) (mdW mS0 mA0) (fun h0 ad => ad 0 = h0) h0 s.heap.size) args s 16 1606 (va_A [(h0, .inr (6, k_new 6 31))] s.heap.size)) cX6_init 17 16 1606 (fun r L => r = none ∧ L = mdW mS0 mA0) false := by
    intro pc L H locs lr hlen hP hD hS
    refine ⟨fun hdg v _ hp => ?_, fun hdg v hp => ?_, fun hdg hp => ?_⟩
    · cases hp.1
    · cases hp.1
    · obtain ⟨-, rfl⟩ := hp
      rw [← k_rl_eq] at hP hD
      exact W.vret hx hb hr.1 (fun t ht _ => ⟨⟨_, rfl, rfl, by rw [ht]; exact hP, hD⟩, hS.F ht⟩) hS.2.2 hdg hr.2
  have hclo := s_clo_ok hEn hret (Nat.le_refl 1) (Nat.le_refl 21) ck_X6_init okb_X6_init
  exact k_Gp (run_X6 _ hclo 136 rfl) rfl hl rfl [0, 1, 2, 3, 4, 5, 6, 7, 8, 9, 10, 11, 12, 13, 14, 15, 16] (by decide) rfl
