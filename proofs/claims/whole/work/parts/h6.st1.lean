/-! ===== the law's entry: classes, arrays, constants ===== -/
theorem k_arP {args : Array Value} {s : State} {ty : FieldType} (h : (Cond.arrayClass ty).before args s = true) (hr : ∀ c : ClassId, s.vm.findClass ("[" ++ ty.toString) = some c → va_RA s c ty) : ∃ c : ClassId, ArrOfT s c ty ∧ va_RA s c ty := by
  obtain ⟨c, k, comp, h1, h2, h3⟩ := Cond.arrayClass_spec h
  exact ⟨c, fun n z => ⟨fun k h => (by cases h), k, h2, comp, h3⟩, hr c h1⟩
theorem k_arO {s : State} {C : String} (h : va_AO C s) : ∃ c : ClassId, ArrOfT s c (.object C) ∧ va_RA s c (.object C) := by
  obtain ⟨comp, c, k, h1, h2, h3, h4, h5⟩ := Cond.arrayOver_spec h
  exact ⟨c, fun n z => ⟨fun k h => (by cases h), k, h3, comp, h4⟩, k, comp, h3, h4, h1, h5⟩
theorem k_AO {args : Array Value} {s : State} (hts : ∀ w ∈ lw_tbl, w.before args s = true) : va_AO "WishClerk$Book" s ∧ va_AO "WishClerk$Sheet" s :=
  ⟨va_AO.of (hts _ (List.mem_of_getElem? (i := 276) (by decide +kernel))), va_AO.of (hts _ (List.mem_of_getElem? (i := 278) (by decide +kernel)))⟩
theorem k_K {args : Array Value} {s : State} (hts : ∀ w ∈ lw_tbl, w.before args s = true) : ∃ (D : va_G) (cy : Nat → ClassId), va_K D vwCl (s_tys cy) s := by
  obtain ⟨c0, i0, h0⟩ := u_known (C := RX0) (T := TX0) (N := 19) (n := 19) hts inX0 (hts (.instantiable RX0 19) (List.mem_of_getElem? (i := 110) (by decide +kernel)))
  obtain ⟨c1, i1, h1⟩ := u_known (C := RX1) (T := TX1) (N := 11) (n := 11) hts inX1 (hts (.instantiable RX1 11) (List.mem_of_getElem? (i := 104) (by decide +kernel)))
  obtain ⟨c2, i2, h2⟩ := u_known (C := RX2) (T := TX2) (N := 6) (n := 6) hts inX2 (hts (.instantiable RX2 6) (List.mem_of_getElem? (i := 250) (by decide +kernel)))
  obtain ⟨c3, i3, h3⟩ := u_known (C := RX3) (T := TX3) (N := 3) (n := 3) hts inX3 (hts (.instantiable RX3 3) (List.mem_of_getElem? (i := 280) (by decide +kernel)))
  obtain ⟨c4, i4, h4⟩ := u_known (C := RX4) (T := TX4) (N := 2) (n := 2) hts inX4 (hts (.instantiable RX4 2) (List.mem_of_getElem? (i := 87) (by decide +kernel)))
  obtain ⟨c5, i5, h5⟩ := u_known (C := RX5) (T := TX5) (N := 10) (n := 10) hts inX5 (hts (.instantiable RX5 10) (List.mem_of_getElem? (i := 79) (by decide +kernel)))
  obtain ⟨c6, i6, h6⟩ := u_known (C := RX6) (T := TX6) (N := 31) (n := 31) hts inX6 (hts (.instantiable RX6 31) (List.mem_of_getElem? (i := 809) (by decide +kernel)))
  obtain ⟨y0, z0⟩ := k_arP (ty := .int) (hts _ k_ari) (fun _ h => h)
  obtain ⟨y1, z1⟩ := k_arP (ty := .byte) (hts _ k_arb) (fun _ h => h)
  obtain ⟨y2, z2⟩ := k_arP (ty := .boolean) (hts _ k_arz) (fun _ h => h)
  obtain ⟨y3, z3⟩ := k_arO (k_AO hts).1
  obtain ⟨y4, z4⟩ := k_arO (k_AO hts).2
  refine ⟨(fun k => match k with
    | 0 => c0
    | 1 => c1
    | 2 => c2
    | 3 => c3
    | 4 => c4
    | 5 => c5
    | _ => c6, fun k => match k with
    | 0 => i0
    | 1 => i1
    | 2 => i2
    | 3 => i3
    | 4 => i4
    | 5 => i5
    | _ => i6), fun k => match k with
    | 0 => y0
    | 1 => y1
    | 2 => y2
    | 3 => y3
    | _ => y4, fun k q hq => ?_, fun k q hq => ?_⟩
  · match k, hq with
    | 0, hq => cases hq; exact h0
    | 1, hq => cases hq; exact h1
    | 2, hq => cases hq; exact h2
    | 3, hq => cases hq; exact h3
    | 4, hq => cases hq; exact h4
    | 5, hq => cases hq; exact h5
    | 6, hq => cases hq; exact h6
    | n + 7, hq => simp [vwCl] at hq
  · match k, hq with
    | 0, hq => cases hq; exact z0
    | 1, hq => cases hq; exact z1
    | 2, hq => cases hq; exact z2
    | 3, hq => cases hq; exact z3
    | 4, hq => cases hq; exact z4
    | n + 5, hq => simp [s_tys] at hq
def tmS (i : Nat) : Term := .string "WishClerk$Reader" ([96, 105, 110, 115, 120, 125, 130, 135, 137, 139].getD i 0)
abbrev flN : List Cond := flatC (Jvm.Cond.and given_1 narrow_1)
set_option maxRecDepth 100000 in
theorem fl_ex : ∀ i : Nat, i < 10 → Cond.exactly (tmS i) "java/lang/String" ∈ flN := by decide +kernel
set_option maxRecDepth 100000 in
theorem fl_co : ∀ i : Nat, i < 10 → Cond.eq (.field (tmS i) "java/lang/String" "coder" "B") (.int 0) ∈ flN := by decide +kernel
set_option maxRecDepth 100000 in
theorem fl_ar : ∀ i : Nat, i < 10 → Cond.arrayOf (.field (tmS i) "java/lang/String" "value" "[B") .byte ∈ flN := by decide +kernel
set_option maxRecDepth 100000 in
theorem fl_le : ∀ i : Nat, i < 10 → Cond.eq (.length (.field (tmS i) "java/lang/String" "value" "[B")) (.int (Int32.ofNat (s_len.getD i 0))) ∈ flN := by decide +kernel
set_option maxRecDepth 100000 in
theorem fl_el : ∀ i : Nat, i < 10 → ∀ j : Nat, j < s_len.getD i 0 → Cond.eq (.elem (.field (tmS i) "java/lang/String" "value" "[B") (.int (Int32.ofNat j))) (.int ((s_byt.getD i []).getD j 0)) ∈ flN := by decide +kernel
set_option maxRecDepth 100000 in
theorem fl_ne : ∀ i : Nat, i < 10 → ∀ j : Nat, j < 10 → i ≠ j → Cond.not (Cond.eq (tmS i) (tmS j)) ∈ flN ∨ Cond.not (Cond.eq (tmS j) (tmS i)) ∈ flN := by decide +kernel
set_option maxRecDepth 100000 in
theorem fl_st : Cond.eq (.static "java/lang/String" "COMPACT_STRINGS" "Z") (.int 1) ∈ flN ∧ Cond.isRef (.static "jdk/internal/util/Preconditions" "SIOOBE_FORMATTER" "Ljava/util/function/BiFunction;") ∈ flN := by decide +kernel
set_option maxHeartbeats 4000000 in
theorem k_str {b : Nat} {s : State} (hts : ∀ w ∈ lw_tbl, w.before #[Value.ref b] s = true) (hgv : (Jvm.Cond.and given_1 narrow_1).before #[Value.ref b] s = true) : ∃ adK : Nat → Nat, s_str (fun k => adK (k - 500)) (fun q => s.heap.size ≤ q) s s.heap := by
  have hs := flat_of_before _ hgv
  have hA : ∀ a : Nat, a < s.heap.size → ¬ (fun q : Nat => s.heap.size ≤ q) a := fun a h => Nat.not_le.mpr h
  obtain ⟨adK, adV, hS, hev⟩ := vk_Sof (N := 10) (tm := tmS) (len := s_len) (byt := s_byt) (A := fun q : Nat => s.heap.size ≤ q) (by decide) (fun i hi => hs _ (fl_ex i hi)) (fun i hi => hs _ (fl_co i hi)) (fun i hi => hs _ (fl_ar i hi)) (fun i hi => hs _ (fl_le i hi)) (fun i hi j hj => hs _ (fl_el i hi j hj)) (fun i j hi hj hij => (fl_ne i hi j hj hij).imp (fun h => hs _ h) (fun h => hs _ h)) hA
  have e : (fun i => adK (500 + i - 500)) = adK := funext fun i => by rw [Nat.add_sub_cancel_left]
  refine ⟨adK, adV, ?_, fun i q hq => ?_, ?_, ?_⟩
  · show vk_S 10 s_len s_byt (fun i => adK (500 + i - 500)) adV _ s s.heap
    rw [e]
    exact hS
  · show vk_R "WishClerk$Reader" q.1 q.2 (adK (500 + i - 500)) s
    rw [Nat.add_sub_cancel_left]
    match i, hq with
    | 0, hq => cases hq; exact vk_R.of (hts (.stringRef "WishClerk$Reader" 96 "one") (List.mem_of_getElem? (i := 365) (by decide +kernel))) (hev 0 (by decide))
    | 1, hq => cases hq; exact vk_R.of (hts (.stringRef "WishClerk$Reader" 105 "wish") (List.mem_of_getElem? (i := 432) (by decide +kernel))) (hev 1 (by decide))
    | 2, hq => cases hq; exact vk_R.of (hts (.stringRef "WishClerk$Reader" 110 "needs") (List.mem_of_getElem? (i := 448) (by decide +kernel))) (hev 2 (by decide))
    | 3, hq => cases hq; exact vk_R.of (hts (.stringRef "WishClerk$Reader" 115 "clash") (List.mem_of_getElem? (i := 453) (by decide +kernel))) (hev 3 (by decide))
    | 4, hq => cases hq; exact vk_R.of (hts (.stringRef "WishClerk$Reader" 120 "list") (List.mem_of_getElem? (i := 458) (by decide +kernel))) (hev 4 (by decide))
    | 5, hq => cases hq; exact vk_R.of (hts (.stringRef "WishClerk$Reader" 125 "depth") (List.mem_of_getElem? (i := 463) (by decide +kernel))) (hev 5 (by decide))
    | 6, hq => cases hq; exact vk_R.of (hts (.stringRef "WishClerk$Reader" 130 "plan") (List.mem_of_getElem? (i := 468) (by decide +kernel))) (hev 6 (by decide))
    | 7, hq => cases hq; exact vk_R.of (hts (.stringRef "WishClerk$Reader" 135 "alive") (List.mem_of_getElem? (i := 422) (by decide +kernel))) (hev 7 (by decide))
    | 8, hq => cases hq; exact vk_R.of (hts (.stringRef "WishClerk$Reader" 137 "barred") (List.mem_of_getElem? (i := 423) (by decide +kernel))) (hev 8 (by decide))
    | 9, hq => cases hq; exact vk_R.of (hts (.stringRef "WishClerk$Reader" 139 "dead") (List.mem_of_getElem? (i := 424) (by decide +kernel))) (hev 9 (by decide))
    | n + 10, hq => simp [s_lit] at hq
  · exact va_Zof (hts _ (List.mem_of_getElem? (i := 379) (by decide +kernel))) (hts _ (List.mem_of_getElem? (i := 71) (by decide +kernel))) (va_eqt (hs _ fl_st.1)) hA
  · exact va_Zqof (hts _ (List.mem_of_getElem? (i := 395) (by decide +kernel))) (hts _ (List.mem_of_getElem? (i := 73) (by decide +kernel))) (hs _ fl_st.2) hA
theorem k_nw1 : ∀ q ∈ k_nests, Cond.methodLinkNest q.1 q.2.1 q.2.2 "WishClerk" ∈ lw_tbl := by decide +kernel
theorem k_nw2 : ∀ q ∈ s_nests, Cond.methodLinkNest q.1 q.2.1 q.2.2 "WishClerk" ∈ lw_tbl := by decide +kernel
theorem k_kX {b : Nat} {s : State} (hts : ∀ w ∈ lw_tbl, w.before #[Value.ref b] s = true) {f : Nat → Nat} (h : s_str f (fun q => s.heap.size ≤ q) s s.heap) : kX f (fun q => s.heap.size ≤ q) s :=
  ⟨⟨fun q hq => va_Nw.of rfl (hts _ (k_nw1 q hq)), k_AO hts⟩, fun q hq => va_Nw.of rfl (hts _ (k_nw2 q hq)), h⟩
section SMake
variable {p : Program} {l : Launch} {e : Env} {R : Room} {s : State} {m : MethodId} {args : Array Value} {below : List Frame} {meth : Method} {c : Code} {D : va_G} {cy : Nat → ClassId} {A : Nat → Prop} {Q : State → Prop} {nL cl sl pc : Nat} {ws : va_W}
theorem k_GpE {ad : Nat → Nat} {n0 : Nat} {ls0 : sL} {st : sS} {L : sH} (h : s_Gp p l e R s m args below meth c D cy ad A Q nL n0 cl sl pc ls0 st L) (hn0 : L.length = n0) {lr : Array Slot} (hl : lv_has lr nL (s_as ad 0 ls0)) {st' : List Value} (hst : st' = st.map (s_rv ad)) (his : ws = k_rl cy ad 0 L) : kG p l e R s m args below meth c D A Q pc lr st' ws cl sl := by
  intro H locs hP hD hS
  rw [his, k_rl_eq] at hP hD
  subst hst
  exact h hn0 H locs lr hP hD hS hl
end SMake
theorem li_zero : LIx 0 0 0 0 0 0 0 (fun _ => 0) (fun _ => 0) (fun _ _ => 0) (fun _ => 0) (fun _ _ => 0) (fun _ => -1) (fun _ => 0) (fun _ _ => 0) (fun _ => 0) (fun _ _ => 0) mS0 mA0 :=
  li_start (by decide +kernel) (by decide +kernel) rfl (by decide +kernel) (by decide +kernel) (by decide +kernel) (by decide +kernel) (by decide +kernel) (by decide +kernel) (by decide +kernel)
