/-! ===== constructors: WishClerk ===== -/
section SMake
variable {p : Program} {l : Launch} {e : Env} {R : Room} {s : State} {m : MethodId} {args : Array Value} {below : List Frame} {meth : Method} {c : Code} {D : va_G} {cy : Nat → ClassId} {f : Nat → Nat} {A : Nat → Prop} {Q : State → Prop} {own : String} {cc : ByteArray} {nL cl sl : Nat} {ls : Array Slot} {rest st : List Value} {pc : Nat}
/-- the same cells in another order -/
theorem k_reix {ws w' : va_W} (g : Nat → Nat) (hg : ∀ k q, w'[k]? = some q → ws[g k]? = some q) (hi : ∀ i j, i < w'.length → j < w'.length → g i = g j → i = j) (kk : kG p l e R s m args below meth c D A Q pc ls st w' cl sl) : kG p l e R s m args below meth c D A Q pc ls st ws cl sl := by
  intro H locs hP hD hS
  refine kk H locs (fun k q hq => hP _ q (hg k q hq)) ⟨fun i j x y hx hy hxy => ?_, fun k q hq => hD.2 _ q (hg k q hq)⟩ hS
  exact hi i j (List.getElem?_eq_some_iff.mp hx).1 (List.getElem?_eq_some_iff.mp hy).1 (hD.1 _ _ x y (hg i x hx) (hg j y hy) hxy)
theorem k_mv1 {C I : Nat × va_E} {w : va_W} (kk : kG p l e R s m args below meth c D A Q pc ls st (C :: I :: w) cl sl) : kG p l e R s m args below meth c D A Q pc ls st (C :: (w ++ [I])) cl sl := by
  refine k_reix (fun k => match k with
    | 0 => 0
    | 1 => w.length + 1
    | k + 2 => k + 1) (fun k q hq => ?_) (fun i j hi hj hij => ?_) kk
  · match k, hq with
    | 0, hq => exact hq
    | 1, hq => simpa using hq
    | k + 2, hq =>
      have hq : w[k]? = some q := hq
      show (w ++ [I])[k]? = some q
      rw [List.getElem?_append_left (List.getElem?_eq_some_iff.mp hq).1]
      exact hq
  · simp only [List.length_cons] at hi hj
    match i, j, hij with
    | 0, 0, _ => rfl
    | 0, 1, h => exact absurd h (by simp)
    | 0, j + 2, h => exact absurd h (by simp)
    | 1, 0, h => exact absurd h (by simp)
    | 1, 1, _ => rfl
    | 1, j + 2, h => have h : w.length + 1 = j + 1 := h; omega
    | i + 2, 0, h => exact absurd h (by simp)
    | i + 2, 1, h => have h : i + 1 = w.length + 1 := h; omega
    | i + 2, j + 2, h => have h : i + 1 = j + 1 := h; omega
theorem k_mv2 {C I J : Nat × va_E} {w : va_W} (kk : kG p l e R s m args below meth c D A Q pc ls st (C :: I :: J :: w) cl sl) : kG p l e R s m args below meth c D A Q pc ls st (C :: I :: (w ++ [J])) cl sl := by
  refine k_reix (fun k => match k with
    | 0 => 0
    | 1 => 1
    | 2 => w.length + 2
    | k + 3 => k + 2) (fun k q hq => ?_) (fun i j hi hj hij => ?_) kk
  · match k, hq with
    | 0, hq => exact hq
    | 1, hq => exact hq
    | 2, hq => simpa using hq
    | k + 3, hq =>
      have hq : w[k]? = some q := hq
      show (w ++ [J])[k]? = some q
      rw [List.getElem?_append_left (List.getElem?_eq_some_iff.mp hq).1]
      exact hq
  · simp only [List.length_cons] at hi hj
    match i, j, hij with
    | 0, 0, _ => rfl
    | 0, 1, h => exact absurd h (by simp)
    | 0, 2, h => exact absurd h (by simp)
    | 0, j + 3, h => exact absurd h (by simp)
    | 1, 0, h => exact absurd h (by simp)
    | 1, 1, _ => rfl
    | 1, 2, h => exact absurd h (by simp)
    | 1, j + 3, h => exact absurd h (by simp)
    | 2, 0, h => exact absurd h (by simp)
    | 2, 1, h => exact absurd h (by simp)
    | 2, 2, _ => rfl
    | 2, j + 3, h => have h : w.length + 2 = j + 2 := h; omega
    | i + 3, 0, h => exact absurd h (by simp)
    | i + 3, 1, h => exact absurd h (by simp)
    | i + 3, 2, h => have h : i + 2 = w.length + 2 := h; omega
    | i + 3, j + 3, h => have h : i + 2 = j + 2 := h; omega
theorem k_st1 (hE : kE p s m args c D cy f A own cc nL) {t ci a v N : Nat} {r : vw_C} {fs : List Value} {g : List (Option Nat)} {i : Int32} {C J : Nat × va_E} {wr : va_W} {ad : Nat → Nat} {L0 L1 : sH} (hL : L0 = .inr (.inr (ci, fs)) :: L1) (hv : ad 0 = v) (ht : (s_tys cy)[t]? = some (cy t, .object r.1)) (hc : vwCl[ci]? = some r) (hin : vp_in i N) (hg : i.toNatClampNeg < g.length) (hdg : decode cc pc = .ok (.aastore, 1))
    (kk : kG p l e R s m args below meth c D A Q (pc + 1) ls rest (C :: (a, .inl (cy t, (N, .inr (.inr (.inr (.inr (k_rf (g.set i.toNatClampNeg (some v))))))))) :: J :: (wr ++ k_rl cy ad 0 L0)) cl sl) : kG p l e R s m args below meth c D A Q pc ls (.ref v :: .int i :: .ref a :: rest) ((C :: (a, .inl (cy t, (N, .inr (.inr (.inr (.inr (k_rf g))))))) :: J :: wr) ++ k_rl cy ad 0 L0) cl sl := by
  subst hL hv
  refine k_aa hE 1 (C :: (a, .inl (cy t, (N, .inr (.inr (.inr (.inr (k_rf g))))))) :: J :: wr).length (g := g) (vs := fs.map (s_rv ad)) rfl ht ?_ hc hin hg hdg kk
  rw [List.getElem?_append_right (Nat.le_refl _), Nat.sub_self]
  rfl
theorem k_st2 (hE : kE p s m args c D cy f A own cc nL) {t ci a v N : Nat} {r : vw_C} {fs : List Value} {g : List (Option Nat)} {i : Int32} {C J : Nat × va_E} {wr : va_W} {ad : Nat → Nat} {L0 L1 : sH} (hL : L0 = .inr (.inr (ci, fs)) :: L1) (hv : ad 0 = v) (ht : (s_tys cy)[t]? = some (cy t, .object r.1)) (hc : vwCl[ci]? = some r) (hin : vp_in i N) (hg : i.toNatClampNeg < g.length) (hdg : decode cc pc = .ok (.aastore, 1))
    (kk : kG p l e R s m args below meth c D A Q (pc + 1) ls rest (C :: J :: (a, .inl (cy t, (N, .inr (.inr (.inr (.inr (k_rf (g.set i.toNatClampNeg (some v))))))))) :: (wr ++ k_rl cy ad 0 L0)) cl sl) : kG p l e R s m args below meth c D A Q pc ls (.ref v :: .int i :: .ref a :: rest) ((C :: J :: (a, .inl (cy t, (N, .inr (.inr (.inr (.inr (k_rf g))))))) :: wr) ++ k_rl cy ad 0 L0) cl sl := by
  subst hL hv
  refine k_aa hE 2 (C :: J :: (a, .inl (cy t, (N, .inr (.inr (.inr (.inr (k_rf g))))))) :: wr).length (g := g) (vs := fs.map (s_rv ad)) rfl ht ?_ hc hin hg hdg kk
  rw [List.getElem?_append_right (Nat.le_refl _), Nat.sub_self]
  rfl
end SMake
def lC0 : sH := .inr (.inr (5, [.ref 1, .ref 3, .ref 14, .ref 19, .ref 40, .ref 49, .ref 50, .int 0, .int 0, .int 0])) :: .inr (.inr (4, [.ref 2, .int 0])) :: .inl (1, 160, fun _ => 0) :: rdO 4 1 (0, 0, 0, 0, 0, 0, 0, 0, 0) :: (bkK 4 (fun _ => 0) (fun _ _ => 0) ++ .inr (.inr (2, [.ref 15, .ref 16, .ref 17, .ref 18, .int 0, .int 0])) :: .inl (0, 256, fun _ => 0) :: .inl (0, 256, fun _ => 0) :: .inl (0, 256, fun _ => 0) :: .inl (2, 256, fun _ => 0) :: .inr (.inl (3, [some 20, some 30])) :: (bkK 20 (fun _ => 0) (fun _ _ => 0) ++ (bkK 30 (fun _ => 0) (fun _ _ => 0) ++ .inr (.inl (4, [some 41, some 43, some 45, some 47])) :: (shs 41 (fun _ => -1) (fun _ => 0) (fun _ _ => 0) ++ .inl (0, 8, fun _ => 0) :: bkK 50 (fun _ => 0) (fun _ _ => 0)))))
theorem dX5_init_0 : decode cX5_init 0 = .ok (.aload_n 0, 1) := by decide +kernel
theorem dX5_init_1 : decode cX5_init 1 = .ok (.invokespecial 3, 3) := by decide +kernel
theorem dX5_init_4 : decode cX5_init 4 = .ok (.aload_n 0, 1) := by decide +kernel
theorem dX5_init_5 : decode cX5_init 5 = .ok (.new 9, 3) := by decide +kernel
theorem dX5_init_8 : decode cX5_init 8 = .ok (.dup, 1) := by decide +kernel
theorem dX5_init_9 : decode cX5_init 9 = .ok (.invokespecial 11, 3) := by decide +kernel
theorem dX5_init_12 : decode cX5_init 12 = .ok (.putfield 12, 3) := by decide +kernel
theorem dX5_init_15 : decode cX5_init 15 = .ok (.aload_n 0, 1) := by decide +kernel
theorem dX5_init_16 : decode cX5_init 16 = .ok (.new 16, 3) := by decide +kernel
theorem dX5_init_19 : decode cX5_init 19 = .ok (.dup, 1) := by decide +kernel
theorem dX5_init_20 : decode cX5_init 20 = .ok (.aload_n 0, 1) := by decide +kernel
theorem dX5_init_21 : decode cX5_init 21 = .ok (.getfield 12, 3) := by decide +kernel
theorem dX5_init_24 : decode cX5_init 24 = .ok (.invokespecial 18, 3) := by decide +kernel
theorem dX5_init_27 : decode cX5_init 27 = .ok (.putfield 21, 3) := by decide +kernel
theorem dX5_init_30 : decode cX5_init 30 = .ok (.aload_n 0, 1) := by decide +kernel
theorem dX5_init_31 : decode cX5_init 31 = .ok (.new 25, 3) := by decide +kernel
theorem dX5_init_34 : decode cX5_init 34 = .ok (.dup, 1) := by decide +kernel
theorem dX5_init_35 : decode cX5_init 35 = .ok (.invokespecial 27, 3) := by decide +kernel
theorem dX5_init_38 : decode cX5_init 38 = .ok (.putfield 28, 3) := by decide +kernel
theorem dX5_init_41 : decode cX5_init 41 = .ok (.aload_n 0, 1) := by decide +kernel
theorem dX5_init_42 : decode cX5_init 42 = .ok (.iconst 2, 1) := by decide +kernel
theorem dX5_init_43 : decode cX5_init 43 = .ok (.anewarray 32, 3) := by decide +kernel
theorem dX5_init_46 : decode cX5_init 46 = .ok (.putfield 34, 3) := by decide +kernel
theorem dX5_init_49 : decode cX5_init 49 = .ok (.aload_n 0, 1) := by decide +kernel
theorem dX5_init_50 : decode cX5_init 50 = .ok (.iconst 4, 1) := by decide +kernel
theorem dX5_init_51 : decode cX5_init 51 = .ok (.anewarray 38, 3) := by decide +kernel
theorem dX5_init_54 : decode cX5_init 54 = .ok (.putfield 40, 3) := by decide +kernel
theorem dX5_init_57 : decode cX5_init 57 = .ok (.aload_n 0, 1) := by decide +kernel
theorem dX5_init_58 : decode cX5_init 58 = .ok (.bipush 8, 2) := by decide +kernel
theorem dX5_init_60 : decode cX5_init 60 = .ok (.newarray .int, 2) := by decide +kernel
theorem dX5_init_62 : decode cX5_init 62 = .ok (.putfield 44, 3) := by decide +kernel
theorem dX5_init_65 : decode cX5_init 65 = .ok (.aload_n 0, 1) := by decide +kernel
theorem dX5_init_66 : decode cX5_init 66 = .ok (.new 32, 3) := by decide +kernel
theorem dX5_init_69 : decode cX5_init 69 = .ok (.dup, 1) := by decide +kernel
theorem dX5_init_70 : decode cX5_init 70 = .ok (.invokespecial 48, 3) := by decide +kernel
theorem dX5_init_73 : decode cX5_init 73 = .ok (.putfield 49, 3) := by decide +kernel
theorem dX5_init_76 : decode cX5_init 76 = .ok (.iconst 0, 1) := by decide +kernel
theorem dX5_init_77 : decode cX5_init 77 = .ok (.istore_n 1, 1) := by decide +kernel
theorem dX5_init_78 : decode cX5_init 78 = .ok (.iload_n 1, 1) := by decide +kernel
theorem dX5_init_79 : decode cX5_init 79 = .ok (.iconst 2, 1) := by decide +kernel
theorem dX5_init_80 : decode cX5_init 80 = .ok (.if_icmp .ge 22, 3) := by decide +kernel
theorem dX5_init_83 : decode cX5_init 83 = .ok (.aload_n 0, 1) := by decide +kernel
theorem dX5_init_84 : decode cX5_init 84 = .ok (.getfield 34, 3) := by decide +kernel
theorem dX5_init_87 : decode cX5_init 87 = .ok (.iload_n 1, 1) := by decide +kernel
theorem dX5_init_88 : decode cX5_init 88 = .ok (.new 32, 3) := by decide +kernel
theorem dX5_init_91 : decode cX5_init 91 = .ok (.dup, 1) := by decide +kernel
theorem dX5_init_92 : decode cX5_init 92 = .ok (.invokespecial 48, 3) := by decide +kernel
theorem dX5_init_95 : decode cX5_init 95 = .ok (.aastore, 1) := by decide +kernel
theorem dX5_init_96 : decode cX5_init 96 = .ok (.iinc 1 1, 3) := by decide +kernel
theorem dX5_init_99 : decode cX5_init 99 = .ok (.goto (-21), 3) := by decide +kernel
theorem dX5_init_102 : decode cX5_init 102 = .ok (.iconst 0, 1) := by decide +kernel
theorem dX5_init_103 : decode cX5_init 103 = .ok (.istore_n 1, 1) := by decide +kernel
theorem dX5_init_104 : decode cX5_init 104 = .ok (.iload_n 1, 1) := by decide +kernel
theorem dX5_init_105 : decode cX5_init 105 = .ok (.iconst 4, 1) := by decide +kernel
theorem dX5_init_106 : decode cX5_init 106 = .ok (.if_icmp .ge 22, 3) := by decide +kernel
theorem dX5_init_109 : decode cX5_init 109 = .ok (.aload_n 0, 1) := by decide +kernel
theorem dX5_init_110 : decode cX5_init 110 = .ok (.getfield 40, 3) := by decide +kernel
theorem dX5_init_113 : decode cX5_init 113 = .ok (.iload_n 1, 1) := by decide +kernel
theorem dX5_init_114 : decode cX5_init 114 = .ok (.new 38, 3) := by decide +kernel
theorem dX5_init_117 : decode cX5_init 117 = .ok (.dup, 1) := by decide +kernel
theorem dX5_init_118 : decode cX5_init 118 = .ok (.invokespecial 53, 3) := by decide +kernel
theorem dX5_init_121 : decode cX5_init 121 = .ok (.aastore, 1) := by decide +kernel
theorem dX5_init_122 : decode cX5_init 122 = .ok (.iinc 1 1, 3) := by decide +kernel
theorem dX5_init_125 : decode cX5_init 125 = .ok (.goto (-21), 3) := by decide +kernel
theorem dX5_init_128 : decode cX5_init 128 = .ok (.return_, 1) := by decide +kernel
theorem st_X5 : kSt yX5_init cX5_init 2 0 := ⟨rfl, (List.mem_of_getElem? (i := 82) (by decide +kernel)), (List.mem_of_getElem? (i := 64) (by decide +kernel)), (List.mem_of_getElem? (i := 81) (by decide +kernel)), by decide +kernel, by decide +kernel, by decide +kernel⟩
set_option maxHeartbeats 4000000 in
set_option maxRecDepth 100000 in
theorem mk_X5 (l : Launch) (D : va_G) (cy : Nat → ClassId) (f : Nat → Nat) : kMet l D cy f yX5_init cX5_init 2 3 53 59 1745 5 (k_new 5 10) [] (lC0) (fun h0 ad => ad 0 = h0) := by
  refine k_of (by decide +kernel) rfl (Nat.le_of_ble_eq_true rfl) ?_
  intro p e s m args below meth c h0 hE hin hr ls hl
  refine k_al hE (i := 0) rfl (lv_at hl 0 rfl) dX5_init_0 ?_
  refine k_obj hE (List.mem_of_getElem? (i := 83) (by decide +kernel)) (Nat.le_of_ble_eq_true rfl) (Nat.le_of_ble_eq_true rfl) hl.1 dX5_init_1 ?_
  refine k_al hE (i := 0) rfl (lv_at hl 0 rfl) dX5_init_4 ?_
  refine k_nw hE (ci := 4) (C := RX4) (T := TX4) (N := 2) rfl (List.mem_of_getElem? (i := 86) (by decide +kernel)) (List.mem_of_getElem? (i := 87) (by decide +kernel)) (List.mem_of_getElem? (i := 65) (by decide +kernel)) (Nat.le_of_ble_eq_true rfl) (Nat.le_of_ble_eq_true rfl) dX5_init_5 (fun q1 => ?_)
  refine k_du hE dX5_init_8 ?_
  refine k_in hE (rest := [.ref q1, .ref h0]) (mk_X4 l D cy f) st_X4 (Or.inr (List.mem_of_getElem? (i := 0) (by decide +kernel))) ⟨(Nat.le_of_ble_eq_true rfl), (Nat.le_of_ble_eq_true rfl)⟩ (Nat.le_of_ble_eq_true rfl) (Nat.le_of_ble_eq_true rfl) hl.1 (Nat.le_of_ble_eq_true rfl) rfl dX5_init_9 (fun a1 ea1 => ?_)
  subst ea1
  refine k_pF hE hin (ci := 5) (T := TX5) (N := 10) (k := 0) rfl (by decide) (List.mem_of_getElem? (i := 298) (by decide +kernel)) rfl rfl rfl rfl (Nat.le_of_ble_eq_true rfl) dX5_init_12 ?_
  refine k_al hE (i := 0) rfl (lv_at hl 0 rfl) dX5_init_15 ?_
  refine k_nw hE (ci := 1) (C := RX1) (T := TX1) (N := 11) rfl (List.mem_of_getElem? (i := 103) (by decide +kernel)) (List.mem_of_getElem? (i := 104) (by decide +kernel)) (List.mem_of_getElem? (i := 66) (by decide +kernel)) (Nat.le_of_ble_eq_true rfl) (Nat.le_of_ble_eq_true rfl) dX5_init_16 (fun q2 => ?_)
  refine k_du hE dX5_init_19 ?_
  refine k_al hE (i := 0) rfl (lv_at hl 0 rfl) dX5_init_20 ?_
  refine k_g0 hE (ci := 5) (T := TX5) (N := 10) (k := 0) (v := .ref (a1 0)) rfl rfl (by decide) (List.mem_of_getElem? (i := 298) (by decide +kernel)) rfl rfl dX5_init_21 ?_
  refine k_in hE (rest := [.ref q2, .ref h0]) (mk_X1 l D cy f (a1 0)) st_X1 (Or.inl (List.mem_of_getElem? (i := 105) (by decide +kernel))) ⟨(Nat.le_of_ble_eq_true rfl), (Nat.le_of_ble_eq_true rfl)⟩ (Nat.le_of_ble_eq_true rfl) (Nat.le_of_ble_eq_true rfl) hl.1 (Nat.le_of_ble_eq_true rfl) rfl dX5_init_24 (fun a2 ea2 => ?_)
  obtain ⟨ea2, ea2t⟩ := ea2
  subst ea2
  have ha2 : k_rl cy a2 0 (rdO 1 11 (0, 0, 0, 0, 0, 0, 0, 0, 0) :: bkK 1 (fun _ => 0) (fun _ _ => 0)) = (a2 0, .inr (1, [.ref (a2 1), .int 0, .int 0, .ref (a1 0), .int 0, .int 0, .int 0, .int 0, .int 0, .int 0, .int 0])) :: k_rl cy a2 1 (bkK 1 (fun _ => 0) (fun _ _ => 0)) := by
    show (a2 0, .inr (1, [.ref (a2 1), .int 0, .int 0, .ref (a2 11), .int 0, .int 0, .int 0, .int 0, .int 0, .int 0, .int 0])) :: k_rl cy a2 1 (bkK 1 (fun _ => 0) (fun _ _ => 0)) = _
    rw [ea2t]
  rw [ha2]
  refine k_pF hE hin (ci := 5) (T := TX5) (N := 10) (k := 1) rfl (by decide) (List.mem_of_getElem? (i := 299) (by decide +kernel)) rfl rfl rfl rfl (Nat.le_of_ble_eq_true rfl) dX5_init_27 ?_
  refine k_al hE (i := 0) rfl (lv_at hl 0 rfl) dX5_init_30 ?_
  refine k_nw hE (ci := 2) (C := RX2) (T := TX2) (N := 6) rfl (List.mem_of_getElem? (i := 249) (by decide +kernel)) (List.mem_of_getElem? (i := 250) (by decide +kernel)) (List.mem_of_getElem? (i := 68) (by decide +kernel)) (Nat.le_of_ble_eq_true rfl) (Nat.le_of_ble_eq_true rfl) dX5_init_31 (fun q3 => ?_)
  refine k_du hE dX5_init_34 ?_
  refine k_in hE (rest := [.ref q3, .ref h0]) (mk_X2 l D cy f) st_X2 (Or.inr (List.mem_of_getElem? (i := 2) (by decide +kernel))) ⟨(Nat.le_of_ble_eq_true rfl), (Nat.le_of_ble_eq_true rfl)⟩ (Nat.le_of_ble_eq_true rfl) (Nat.le_of_ble_eq_true rfl) hl.1 (Nat.le_of_ble_eq_true rfl) rfl dX5_init_35 (fun a3 ea3 => ?_)
  subst ea3
  refine k_pF hE hin (ci := 5) (T := TX5) (N := 10) (k := 2) rfl (by decide) (List.mem_of_getElem? (i := 300) (by decide +kernel)) rfl rfl rfl rfl (Nat.le_of_ble_eq_true rfl) dX5_init_38 ?_
  refine k_al hE (i := 0) rfl (lv_at hl 0 rfl) dX5_init_41 ?_
  refine k_ic hE (v := 2) dX5_init_42 (by decide) ?_
  refine k_nq hE (t := 3) (N := 2) (C := "WishClerk$Book") rfl (List.mem_of_getElem? (i := 275) (by decide +kernel)) hE.2.2.2.1.2.1 (by decide) (by decide) (by decide) (Nat.le_of_ble_eq_true rfl) (Nat.le_of_ble_eq_true rfl) dX5_init_43 (fun q4 => ?_)
  refine k_pF hE hin (ci := 5) (T := TX5) (N := 10) (k := 3) rfl (by decide) (List.mem_of_getElem? (i := 301) (by decide +kernel)) rfl rfl rfl rfl (Nat.le_of_ble_eq_true rfl) dX5_init_46 ?_
  refine k_mv1 ?_
  refine k_al hE (i := 0) rfl (lv_at hl 0 rfl) dX5_init_49 ?_
  refine k_ic hE (v := 4) dX5_init_50 (by decide) ?_
  refine k_nq hE (t := 4) (N := 4) (C := "WishClerk$Sheet") rfl (List.mem_of_getElem? (i := 277) (by decide +kernel)) hE.2.2.2.1.2.2 (by decide) (by decide) (by decide) (Nat.le_of_ble_eq_true rfl) (Nat.le_of_ble_eq_true rfl) dX5_init_51 (fun q5 => ?_)
  refine k_pF hE hin (ci := 5) (T := TX5) (N := 10) (k := 4) rfl (by decide) (List.mem_of_getElem? (i := 302) (by decide +kernel)) rfl rfl rfl rfl (Nat.le_of_ble_eq_true rfl) dX5_init_54 ?_
  refine k_mv2 ?_
  refine k_al hE (i := 0) rfl (lv_at hl 0 rfl) dX5_init_57 ?_
  refine k_bi hE (v := 8) dX5_init_58 (by decide) ?_
  refine k_na hE (t := 0) (N := 8) rfl k_ari rfl rfl (by decide) (by decide) (by decide) (Nat.le_of_ble_eq_true rfl) (Nat.le_of_ble_eq_true rfl) dX5_init_60 (fun q6 => ?_)
  refine k_pF hE hin (ci := 5) (T := TX5) (N := 10) (k := 5) rfl (by decide) (List.mem_of_getElem? (i := 303) (by decide +kernel)) rfl rfl rfl rfl (Nat.le_of_ble_eq_true rfl) dX5_init_62 ?_
  refine k_al hE (i := 0) rfl (lv_at hl 0 rfl) dX5_init_65 ?_
  refine k_nw hE (ci := 0) (C := RX0) (T := TX0) (N := 19) rfl (List.mem_of_getElem? (i := 275) (by decide +kernel)) (List.mem_of_getElem? (i := 110) (by decide +kernel)) (List.mem_of_getElem? (i := 67) (by decide +kernel)) (Nat.le_of_ble_eq_true rfl) (Nat.le_of_ble_eq_true rfl) dX5_init_66 (fun q7 => ?_)
  refine k_du hE dX5_init_69 ?_
  refine k_in hE (rest := [.ref q7, .ref h0]) (mk_X0 l D cy f) st_X0 (Or.inr (List.mem_of_getElem? (i := 3) (by decide +kernel))) ⟨(Nat.le_of_ble_eq_true rfl), (Nat.le_of_ble_eq_true rfl)⟩ (Nat.le_of_ble_eq_true rfl) (Nat.le_of_ble_eq_true rfl) hl.1 (Nat.le_of_ble_eq_true rfl) rfl dX5_init_70 (fun a7 ea7 => ?_)
  subst ea7
  refine k_pV hE (ci := 5) (T := TX5) (N := 10) (k := 6) rfl (by decide) (List.mem_of_getElem? (i := 304) (by decide +kernel)) rfl rfl rfl rfl (Nat.le_of_ble_eq_true rfl) dX5_init_73 ?_
  refine k_ic hE (v := 0) dX5_init_76 (by decide) ?_
  refine k_is hE (i := 1) (lv' := [(1, .int 0), (0, .ref h0)]) dX5_init_77 rfl hl (by decide) rfl (fun ls hl => ?_)
  refine k_il hE (i := 1) rfl (lv_at hl 0 rfl) dX5_init_78 ?_
  refine k_ic hE (v := 2) dX5_init_79 (by decide) ?_
  refine k_ge hE (tgt := 102) dX5_init_80 (by decide) (fun h => absurd h (by decide)) (fun _ => ?_)
  refine k_al hE (i := 0) rfl (lv_at hl 1 rfl) dX5_init_83 ?_
  refine k_g0 hE (ci := 5) (T := TX5) (N := 10) (k := 3) (v := .ref q4) rfl rfl (by decide) (List.mem_of_getElem? (i := 301) (by decide +kernel)) rfl rfl dX5_init_84 ?_
  refine k_il hE (i := 1) rfl (lv_at hl 0 rfl) dX5_init_87 ?_
  refine k_nw hE (ci := 0) (C := RX0) (T := TX0) (N := 19) rfl (List.mem_of_getElem? (i := 275) (by decide +kernel)) (List.mem_of_getElem? (i := 110) (by decide +kernel)) (List.mem_of_getElem? (i := 67) (by decide +kernel)) (Nat.le_of_ble_eq_true rfl) (Nat.le_of_ble_eq_true rfl) dX5_init_88 (fun q8 => ?_)
  refine k_du hE dX5_init_91 ?_
  refine k_in hE (rest := [.ref q8, .int 0, .ref q4]) (mk_X0 l D cy f) st_X0 (Or.inr (List.mem_of_getElem? (i := 3) (by decide +kernel))) ⟨(Nat.le_of_ble_eq_true rfl), (Nat.le_of_ble_eq_true rfl)⟩ (Nat.le_of_ble_eq_true rfl) (Nat.le_of_ble_eq_true rfl) hl.1 (Nat.le_of_ble_eq_true rfl) rfl dX5_init_92 (fun a8 ea8 => ?_)
  subst ea8
  refine k_st1 hE (t := 3) (ci := 0) rfl rfl rfl rfl (show ¬ ((0 : Int32) < 0 ∨ 2 ≤ (0 : Int32).toNatClampNeg) by decide) (Nat.le_of_ble_eq_true rfl) dX5_init_95 ?_
  refine k_inc hE (i := 1) (k := 0) (v := 1) (lv' := [(1, .int 1), (0, .ref h0)]) dX5_init_96 hl rfl (by decide) (by decide) rfl (fun ls hl => ?_)
  refine k_go hE (tgt := 78) dX5_init_99 (by decide) ?_
  refine k_il hE (i := 1) rfl (lv_at hl 0 rfl) dX5_init_78 ?_
  refine k_ic hE (v := 2) dX5_init_79 (by decide) ?_
  refine k_ge hE (tgt := 102) dX5_init_80 (by decide) (fun h => absurd h (by decide)) (fun _ => ?_)
  refine k_al hE (i := 0) rfl (lv_at hl 1 rfl) dX5_init_83 ?_
  refine k_g0 hE (ci := 5) (T := TX5) (N := 10) (k := 3) (v := .ref q4) rfl rfl (by decide) (List.mem_of_getElem? (i := 301) (by decide +kernel)) rfl rfl dX5_init_84 ?_
  refine k_il hE (i := 1) rfl (lv_at hl 0 rfl) dX5_init_87 ?_
  refine k_nw hE (ci := 0) (C := RX0) (T := TX0) (N := 19) rfl (List.mem_of_getElem? (i := 275) (by decide +kernel)) (List.mem_of_getElem? (i := 110) (by decide +kernel)) (List.mem_of_getElem? (i := 67) (by decide +kernel)) (Nat.le_of_ble_eq_true rfl) (Nat.le_of_ble_eq_true rfl) dX5_init_88 (fun q9 => ?_)
  refine k_du hE dX5_init_91 ?_
  refine k_in hE (rest := [.ref q9, .int 1, .ref q4]) (mk_X0 l D cy f) st_X0 (Or.inr (List.mem_of_getElem? (i := 3) (by decide +kernel))) ⟨(Nat.le_of_ble_eq_true rfl), (Nat.le_of_ble_eq_true rfl)⟩ (Nat.le_of_ble_eq_true rfl) (Nat.le_of_ble_eq_true rfl) hl.1 (Nat.le_of_ble_eq_true rfl) rfl dX5_init_92 (fun a9 ea9 => ?_)
  subst ea9
  refine k_st1 hE (t := 3) (ci := 0) rfl rfl rfl rfl (show ¬ ((1 : Int32) < 0 ∨ 2 ≤ (1 : Int32).toNatClampNeg) by decide) (Nat.le_of_ble_eq_true rfl) dX5_init_95 ?_
  refine k_inc hE (i := 1) (k := 0) (v := 2) (lv' := [(1, .int 2), (0, .ref h0)]) dX5_init_96 hl rfl (by decide) (by decide) rfl (fun ls hl => ?_)
  refine k_go hE (tgt := 78) dX5_init_99 (by decide) ?_
  refine k_il hE (i := 1) rfl (lv_at hl 0 rfl) dX5_init_78 ?_
  refine k_ic hE (v := 2) dX5_init_79 (by decide) ?_
  refine k_ge hE (tgt := 102) dX5_init_80 (by decide) (fun _ => ?_) (fun h => absurd (show (2 : Int32) ≤ 2 by decide) h)
  refine k_ic hE (v := 0) dX5_init_102 (by decide) ?_
  refine k_is hE (i := 1) (lv' := [(1, .int 0), (0, .ref h0)]) dX5_init_103 rfl hl (by decide) rfl (fun ls hl => ?_)
  refine k_il hE (i := 1) rfl (lv_at hl 0 rfl) dX5_init_104 ?_
  refine k_ic hE (v := 4) dX5_init_105 (by decide) ?_
  refine k_ge hE (tgt := 128) dX5_init_106 (by decide) (fun h => absurd h (by decide)) (fun _ => ?_)
  refine k_al hE (i := 0) rfl (lv_at hl 1 rfl) dX5_init_109 ?_
  refine k_g0 hE (ci := 5) (T := TX5) (N := 10) (k := 4) (v := .ref q5) rfl rfl (by decide) (List.mem_of_getElem? (i := 302) (by decide +kernel)) rfl rfl dX5_init_110 ?_
  refine k_il hE (i := 1) rfl (lv_at hl 0 rfl) dX5_init_113 ?_
  refine k_nw hE (ci := 3) (C := RX3) (T := TX3) (N := 3) rfl (List.mem_of_getElem? (i := 277) (by decide +kernel)) (List.mem_of_getElem? (i := 280) (by decide +kernel)) (List.mem_of_getElem? (i := 69) (by decide +kernel)) (Nat.le_of_ble_eq_true rfl) (Nat.le_of_ble_eq_true rfl) dX5_init_114 (fun q10 => ?_)
  refine k_du hE dX5_init_117 ?_
  refine k_in hE (rest := [.ref q10, .int 0, .ref q5]) (mk_X3 l D cy f) st_X3 (Or.inr (List.mem_of_getElem? (i := 4) (by decide +kernel))) ⟨(Nat.le_of_ble_eq_true rfl), (Nat.le_of_ble_eq_true rfl)⟩ (Nat.le_of_ble_eq_true rfl) (Nat.le_of_ble_eq_true rfl) hl.1 (Nat.le_of_ble_eq_true rfl) rfl dX5_init_118 (fun a10 ea10 => ?_)
  subst ea10
  refine k_st2 hE (t := 4) (ci := 3) rfl rfl rfl rfl (show ¬ ((0 : Int32) < 0 ∨ 4 ≤ (0 : Int32).toNatClampNeg) by decide) (Nat.le_of_ble_eq_true rfl) dX5_init_121 ?_
  refine k_inc hE (i := 1) (k := 0) (v := 1) (lv' := [(1, .int 1), (0, .ref h0)]) dX5_init_122 hl rfl (by decide) (by decide) rfl (fun ls hl => ?_)
  refine k_go hE (tgt := 104) dX5_init_125 (by decide) ?_
  refine k_il hE (i := 1) rfl (lv_at hl 0 rfl) dX5_init_104 ?_
  refine k_ic hE (v := 4) dX5_init_105 (by decide) ?_
  refine k_ge hE (tgt := 128) dX5_init_106 (by decide) (fun h => absurd h (by decide)) (fun _ => ?_)
  refine k_al hE (i := 0) rfl (lv_at hl 1 rfl) dX5_init_109 ?_
  refine k_g0 hE (ci := 5) (T := TX5) (N := 10) (k := 4) (v := .ref q5) rfl rfl (by decide) (List.mem_of_getElem? (i := 302) (by decide +kernel)) rfl rfl dX5_init_110 ?_
  refine k_il hE (i := 1) rfl (lv_at hl 0 rfl) dX5_init_113 ?_
  refine k_nw hE (ci := 3) (C := RX3) (T := TX3) (N := 3) rfl (List.mem_of_getElem? (i := 277) (by decide +kernel)) (List.mem_of_getElem? (i := 280) (by decide +kernel)) (List.mem_of_getElem? (i := 69) (by decide +kernel)) (Nat.le_of_ble_eq_true rfl) (Nat.le_of_ble_eq_true rfl) dX5_init_114 (fun q11 => ?_)
  refine k_du hE dX5_init_117 ?_
  refine k_in hE (rest := [.ref q11, .int 1, .ref q5]) (mk_X3 l D cy f) st_X3 (Or.inr (List.mem_of_getElem? (i := 4) (by decide +kernel))) ⟨(Nat.le_of_ble_eq_true rfl), (Nat.le_of_ble_eq_true rfl)⟩ (Nat.le_of_ble_eq_true rfl) (Nat.le_of_ble_eq_true rfl) hl.1 (Nat.le_of_ble_eq_true rfl) rfl dX5_init_118 (fun a11 ea11 => ?_)
  subst ea11
  refine k_st2 hE (t := 4) (ci := 3) rfl rfl rfl rfl (show ¬ ((1 : Int32) < 0 ∨ 4 ≤ (1 : Int32).toNatClampNeg) by decide) (Nat.le_of_ble_eq_true rfl) dX5_init_121 ?_
  refine k_inc hE (i := 1) (k := 0) (v := 2) (lv' := [(1, .int 2), (0, .ref h0)]) dX5_init_122 hl rfl (by decide) (by decide) rfl (fun ls hl => ?_)
  refine k_go hE (tgt := 104) dX5_init_125 (by decide) ?_
  refine k_il hE (i := 1) rfl (lv_at hl 0 rfl) dX5_init_104 ?_
  refine k_ic hE (v := 4) dX5_init_105 (by decide) ?_
  refine k_ge hE (tgt := 128) dX5_init_106 (by decide) (fun h => absurd h (by decide)) (fun _ => ?_)
  refine k_al hE (i := 0) rfl (lv_at hl 1 rfl) dX5_init_109 ?_
  refine k_g0 hE (ci := 5) (T := TX5) (N := 10) (k := 4) (v := .ref q5) rfl rfl (by decide) (List.mem_of_getElem? (i := 302) (by decide +kernel)) rfl rfl dX5_init_110 ?_
  refine k_il hE (i := 1) rfl (lv_at hl 0 rfl) dX5_init_113 ?_
  refine k_nw hE (ci := 3) (C := RX3) (T := TX3) (N := 3) rfl (List.mem_of_getElem? (i := 277) (by decide +kernel)) (List.mem_of_getElem? (i := 280) (by decide +kernel)) (List.mem_of_getElem? (i := 69) (by decide +kernel)) (Nat.le_of_ble_eq_true rfl) (Nat.le_of_ble_eq_true rfl) dX5_init_114 (fun q12 => ?_)
  refine k_du hE dX5_init_117 ?_
  refine k_in hE (rest := [.ref q12, .int 2, .ref q5]) (mk_X3 l D cy f) st_X3 (Or.inr (List.mem_of_getElem? (i := 4) (by decide +kernel))) ⟨(Nat.le_of_ble_eq_true rfl), (Nat.le_of_ble_eq_true rfl)⟩ (Nat.le_of_ble_eq_true rfl) (Nat.le_of_ble_eq_true rfl) hl.1 (Nat.le_of_ble_eq_true rfl) rfl dX5_init_118 (fun a12 ea12 => ?_)
  subst ea12
  refine k_st2 hE (t := 4) (ci := 3) rfl rfl rfl rfl (show ¬ ((2 : Int32) < 0 ∨ 4 ≤ (2 : Int32).toNatClampNeg) by decide) (Nat.le_of_ble_eq_true rfl) dX5_init_121 ?_
  refine k_inc hE (i := 1) (k := 0) (v := 3) (lv' := [(1, .int 3), (0, .ref h0)]) dX5_init_122 hl rfl (by decide) (by decide) rfl (fun ls hl => ?_)
  refine k_go hE (tgt := 104) dX5_init_125 (by decide) ?_
  refine k_il hE (i := 1) rfl (lv_at hl 0 rfl) dX5_init_104 ?_
  refine k_ic hE (v := 4) dX5_init_105 (by decide) ?_
  refine k_ge hE (tgt := 128) dX5_init_106 (by decide) (fun h => absurd h (by decide)) (fun _ => ?_)
  refine k_al hE (i := 0) rfl (lv_at hl 1 rfl) dX5_init_109 ?_
  refine k_g0 hE (ci := 5) (T := TX5) (N := 10) (k := 4) (v := .ref q5) rfl rfl (by decide) (List.mem_of_getElem? (i := 302) (by decide +kernel)) rfl rfl dX5_init_110 ?_
  refine k_il hE (i := 1) rfl (lv_at hl 0 rfl) dX5_init_113 ?_
  refine k_nw hE (ci := 3) (C := RX3) (T := TX3) (N := 3) rfl (List.mem_of_getElem? (i := 277) (by decide +kernel)) (List.mem_of_getElem? (i := 280) (by decide +kernel)) (List.mem_of_getElem? (i := 69) (by decide +kernel)) (Nat.le_of_ble_eq_true rfl) (Nat.le_of_ble_eq_true rfl) dX5_init_114 (fun q13 => ?_)
  refine k_du hE dX5_init_117 ?_
  refine k_in hE (rest := [.ref q13, .int 3, .ref q5]) (mk_X3 l D cy f) st_X3 (Or.inr (List.mem_of_getElem? (i := 4) (by decide +kernel))) ⟨(Nat.le_of_ble_eq_true rfl), (Nat.le_of_ble_eq_true rfl)⟩ (Nat.le_of_ble_eq_true rfl) (Nat.le_of_ble_eq_true rfl) hl.1 (Nat.le_of_ble_eq_true rfl) rfl dX5_init_118 (fun a13 ea13 => ?_)
  subst ea13
  refine k_st2 hE (t := 4) (ci := 3) rfl rfl rfl rfl (show ¬ ((3 : Int32) < 0 ∨ 4 ≤ (3 : Int32).toNatClampNeg) by decide) (Nat.le_of_ble_eq_true rfl) dX5_init_121 ?_
  refine k_inc hE (i := 1) (k := 0) (v := 4) (lv' := [(1, .int 4), (0, .ref h0)]) dX5_init_122 hl rfl (by decide) (by decide) rfl (fun ls hl => ?_)
  refine k_go hE (tgt := 104) dX5_init_125 (by decide) ?_
  refine k_il hE (i := 1) rfl (lv_at hl 0 rfl) dX5_init_104 ?_
  refine k_ic hE (v := 4) dX5_init_105 (by decide) ?_
  refine k_ge hE (tgt := 128) dX5_init_106 (by decide) (fun _ => ?_) (fun h => absurd (show (4 : Int32) ≤ 4 by decide) h)
  exact k_rtn hE hr (k_pk [h0, a1 0, a1 1, a2 0, a2 1, a2 2, a2 3, a2 4, a2 5, a2 6, a2 7, a2 8, a2 9, a2 10, a3 0, a3 1, a3 2, a3 3, a3 4, q4, a8 0, a8 1, a8 2, a8 3, a8 4, a8 5, a8 6, a8 7, a8 8, a8 9, a9 0, a9 1, a9 2, a9 3, a9 4, a9 5, a9 6, a9 7, a9 8, a9 9, q5, a10 0, a10 1, a11 0, a11 1, a12 0, a12 1, a13 0, a13 1, q6, a7 0, a7 1, a7 2, a7 3, a7 4, a7 5, a7 6, a7 7, a7 8, a7 9] (fun _ => 0)) rfl [0, 3, 4, 5, 6, 7, 8, 9, 10, 11, 12, 13, 14, 15, 16, 17, 18, 19, 20, 1, 32, 33, 34, 35, 36, 37, 38, 39, 40, 41, 42, 43, 44, 45, 46, 47, 48, 49, 50, 51, 2, 52, 53, 54, 55, 56, 57, 58, 59, 21, 22, 23, 24, 25, 26, 27, 28, 29, 30, 31] (by decide) rfl (Nat.le_of_ble_eq_true rfl) (Nat.le_of_ble_eq_true rfl) dX5_init_128
