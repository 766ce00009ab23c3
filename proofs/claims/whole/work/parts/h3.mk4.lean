/-! ===== constructors: Reader ===== -/
section SMake
variable {p : Program} {l : Launch} {e : Env} {R : Room} {s : State} {m : MethodId} {args : Array Value} {below : List Frame} {meth : Method} {c : Code} {D : va_G} {cy : Nat → ClassId} {f : Nat → Nat} {A : Nat → Prop} {Q : State → Prop} {own : String} {cc : ByteArray} {nL cl sl : Nat} {ls : Array Slot} {rest : List Value} {pc : Nat} {ws : va_W}
theorem k_g0 (hE : kE p s m args c D cy f A own cc nL) {ci N ix k h0 : Nat} {T : u_T} {fs : List Value} {v : Value} (he : ws[0]? = some (h0, .inr (ci, fs))) (hc : vwCl[ci]? = some (own, T, N)) (hk : k < N) (hlk : Cond.fieldLink own ix own (T k).2.1 (T k).2.2.1 ∈ lw_tbl) (hdecl : (T k).1 = own) (hv : fs[k]? = some v) (hdg : decode cc pc = .ok (.getfield ix, 3))
    (kk : kG p l e R s m args below meth c D A Q (pc + 3) ls (v :: rest) ws cl sl) : kG p l e R s m args below meth c D A Q pc ls (.ref h0 :: rest) ws cl sl := by
  obtain ⟨⟨hx, hb, hml, hown, hts⟩, hK, hA, hX⟩ := hE
  intro H locs hP hD hS
  exact va_get hx hb hts (s_in ci _ hc) hown hK hP 0 he hc k hk (hts _ (gT_of hlk rfl)) (fun x h => by rw [hdecl] at h; exact h) hv hdg (kk H locs hP hD hS)
end SMake
theorem dX1_init_0 : decode cX1_init 0 = .ok (.aload_n 0, 1) := by decide +kernel
theorem dX1_init_1 : decode cX1_init 1 = .ok (.invokespecial 3, 3) := by decide +kernel
theorem dX1_init_4 : decode cX1_init 4 = .ok (.aload_n 0, 1) := by decide +kernel
theorem dX1_init_5 : decode cX1_init 5 = .ok (.new 9, 3) := by decide +kernel
theorem dX1_init_8 : decode cX1_init 8 = .ok (.dup, 1) := by decide +kernel
theorem dX1_init_9 : decode cX1_init 9 = .ok (.invokespecial 11, 3) := by decide +kernel
theorem dX1_init_12 : decode cX1_init 12 = .ok (.putfield 12, 3) := by decide +kernel
theorem dX1_init_15 : decode cX1_init 15 = .ok (.aload_n 0, 1) := by decide +kernel
theorem dX1_init_16 : decode cX1_init 16 = .ok (.aload_n 1, 1) := by decide +kernel
theorem dX1_init_17 : decode cX1_init 17 = .ok (.putfield 18, 3) := by decide +kernel
theorem dX1_init_20 : decode cX1_init 20 = .ok (.return_, 1) := by decide +kernel
theorem st_X1 : kSt yX1_init cX1_init 2 1 := ⟨rfl, (List.mem_of_getElem? (i := 107) (by decide +kernel)), (List.mem_of_getElem? (i := 66) (by decide +kernel)), (List.mem_of_getElem? (i := 106) (by decide +kernel)), by decide +kernel, by decide +kernel, by decide +kernel⟩
set_option maxHeartbeats 4000000 in
set_option maxRecDepth 100000 in
theorem mk_X1 (l : Launch) (D : va_G) (cy : Nat → ClassId) (f : Nat → Nat) (x1 : Nat) : kMet l D cy f yX1_init cX1_init 2 2 32 10 89 1 (k_new 1 11) [.ref x1] (rdO 1 11 (0, 0, 0, 0, 0, 0, 0, 0, 0) :: bkK 1 (fun _ => 0) (fun _ _ => 0)) (fun h0 ad => ad 0 = h0 ∧ ad 11 = x1) := by
  refine k_of (by decide +kernel) rfl (Nat.le_of_ble_eq_true rfl) ?_
  intro p e s m args below meth c h0 hE hin hr ls hl
  refine k_al hE (i := 0) rfl (lv_at hl 0 rfl) dX1_init_0 ?_
  refine k_obj hE (List.mem_of_getElem? (i := 108) (by decide +kernel)) (Nat.le_of_ble_eq_true rfl) (Nat.le_of_ble_eq_true rfl) hl.1 dX1_init_1 ?_
  refine k_al hE (i := 0) rfl (lv_at hl 0 rfl) dX1_init_4 ?_
  refine k_nw hE (ci := 0) (C := RX0) (T := TX0) (N := 19) rfl (List.mem_of_getElem? (i := 109) (by decide +kernel)) (List.mem_of_getElem? (i := 110) (by decide +kernel)) (List.mem_of_getElem? (i := 67) (by decide +kernel)) (Nat.le_of_ble_eq_true rfl) (Nat.le_of_ble_eq_true rfl) dX1_init_5 (fun q1 => ?_)
  refine k_du hE dX1_init_8 ?_
  refine k_in hE (rest := [.ref q1, .ref h0]) (mk_X0 l D cy f) st_X0 (Or.inr (List.mem_of_getElem? (i := 1) (by decide +kernel))) ⟨(Nat.le_of_ble_eq_true rfl), (Nat.le_of_ble_eq_true rfl)⟩ (Nat.le_of_ble_eq_true rfl) (Nat.le_of_ble_eq_true rfl) hl.1 (Nat.le_of_ble_eq_true rfl) rfl dX1_init_9 (fun a1 ea1 => ?_)
  subst ea1
  refine k_pV hE (ci := 1) (T := TX1) (N := 11) (k := 0) rfl (by decide) (List.mem_of_getElem? (i := 212) (by decide +kernel)) rfl rfl rfl rfl (Nat.le_of_ble_eq_true rfl) dX1_init_12 ?_
  refine k_al hE (i := 0) rfl (lv_at hl 0 rfl) dX1_init_15 ?_
  refine k_al hE (i := 1) rfl (lv_at hl 1 rfl) dX1_init_16 ?_
  refine k_pF hE hin (ci := 1) (T := TX1) (N := 11) (k := 3) rfl (by decide) (List.mem_of_getElem? (i := 218) (by decide +kernel)) rfl rfl rfl rfl (Nat.le_of_ble_eq_true rfl) dX1_init_17 ?_
  exact k_rtn hE hr (k_pk [h0, a1 0, a1 1, a1 2, a1 3, a1 4, a1 5, a1 6, a1 7, a1 8, a1 9, x1] (fun _ => 0)) ⟨rfl, rfl⟩ [0, 1, 2, 3, 4, 5, 6, 7, 8, 9, 10] (by decide) rfl (Nat.le_of_ble_eq_true rfl) (Nat.le_of_ble_eq_true rfl) dX1_init_20
