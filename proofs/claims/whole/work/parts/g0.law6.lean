/-! ===== the law: the head of its loop ===== -/
theorem st_rd0 {N : Nat} {xs : Nat → Int32} {jmp : Nat → sK} {P : sP} {z : Bool} {p1 p2 p5 : Nat} {x1 x2 x5 : sX} {r : List sOp} {x : Int32} {st : sS} {L : sH} (hL : s_nth L 599 = none) (hv : vp_in x N) (h : s_wp (some (N, xs)) jmp P z r (lL x) (.int (xs x.toNatClampNeg) :: st) L) : s_wp (some (N, xs)) jmp P z ((p1, .aload_n 0, x1) :: (p2, .iload_n 3, x2) :: (p5, .iaload, x5) :: r) (lL x) st L := by
  show (match s_nth L 599 with
    | some (.inl (0, n, f)) => vp_in x n ∧ s_wp (some (N, xs)) jmp P z r (lL x) (.int (f x.toNatClampNeg) :: st) L
    | some _ => False
    | none => vp_in x N ∧ s_wp (some (N, xs)) jmp P z r (lL x) (.int (xs x.toNatClampNeg) :: st) L)
  rw [hL]
  exact ⟨hv, h⟩
set_option maxRecDepth 100000 in
set_option maxHeartbeats 1000000 in
theorem st_head {N : Nat} {xs : Nat → Int32} {G : Nat → sK} {x : Int32} {L : sH} (hL : s_nth L 599 = none) (hv : ¬ nI N - 5 < x → vp_in x N) (hc : ¬ nI N - 5 < x → ∀ b ∈ [2, 3, 4, 5, 6, 7, 8, 9, 14, 19, 24, 25, 30, 35, 40, 41, 42, 43, 44, 45, 46, 47, 48, 49, 50, 51, 52, 53, 54, 55, 56, 61, 62, 63, 64, 65, 66, 67, 68, 69, 70, 71], wJ (s_go (some (N, xs)) k_L_law G lP true 99) b (lL x) [] L) (hd : ¬ nI N - 5 < x → G 1 (lL (x + 5)) [] L) : s_run (some (N, xs)) k_L_law G lP true 1 (lL x) [] L := by
  refine And.intro (fun c => ⟨Or.inr rfl, rfl⟩) (fun c => ?_)
  have hc := hc c
  refine st_rd0 hL (hv c) ?_
  refine And.intro ⟨fun _ => (hc 2 (by decide)).2, fun _ => (hc 3 (by decide)).2, fun _ => (hc 4 (by decide)).2, fun _ => (hc 5 (by decide)).2, fun _ => (hc 6 (by decide)).2, fun _ => (hc 7 (by decide)).2, fun _ => (hc 8 (by decide)).2, fun _ => (hc 9 (by decide)).2, fun _ => (hc 14 (by decide)).2, fun _ => (hc 19 (by decide)).2, fun _ => (hc 24 (by decide)).2, fun _ => (hc 25 (by decide)).2, fun _ => (hc 30 (by decide)).2, fun _ => (hc 35 (by decide)).2, fun _ => (hc 40 (by decide)).2, fun _ => (hc 41 (by decide)).2, fun _ => (hc 42 (by decide)).2, fun _ => (hc 43 (by decide)).2, fun _ => (hc 44 (by decide)).2, fun _ => (hc 45 (by decide)).2, fun _ => (hc 46 (by decide)).2, fun _ => (hc 47 (by decide)).2, fun _ => (hc 48 (by decide)).2, fun _ => (hc 49 (by decide)).2, fun _ => (hc 50 (by decide)).2, fun _ => (hc 51 (by decide)).2, fun _ => (hc 52 (by decide)).2, fun _ => (hc 53 (by decide)).2, fun _ => (hc 54 (by decide)).2, fun _ => (hc 55 (by decide)).2, fun _ => (hc 56 (by decide)).2, fun _ => (hc 61 (by decide)).2, fun _ => (hc 62 (by decide)).2, fun _ => (hc 63 (by decide)).2, fun _ => (hc 64 (by decide)).2, fun _ => (hc 65 (by decide)).2, fun _ => (hc 66 (by decide)).2, fun _ => (hc 67 (by decide)).2, fun _ => (hc 68 (by decide)).2, fun _ => (hc 69 (by decide)).2, fun _ => (hc 70 (by decide)).2, fun _ => (hc 71 (by decide)).2, trivial⟩ (fun _ => hd c)
set_option maxRecDepth 100000 in
set_option maxHeartbeats 1000000 in
theorem law_step {N i : Nat} {xs : Nat → Int32} {G : Nat → sK} {x : Int32} (hG : s_Clo (some (N, xs)) k_L_law G lP true) (hN : N ≤ 320) (hx : x = nI i) (hi : i ≤ 330) {P n t : Nat} {y7 y8 y9 ln : Int32} {ta : Nat → Int32} {e : eT} {s1 : Nat → Int32} {F1 : Nat → Nat → Int32} {a b : Int32} {M : Nat → Nat → Int32} {s2 : Nat → Int32} {F2 : Nat → Nat → Int32} {s3 : Nat → Int32} {F3 : Nat → Nat → Int32} {sl sz : Nat → Int32} {cf : Nat → Nat → Int32} {dt s : Nat → Int32} {F : Nat → Nat → Int32} {ms : Nat → Int32} {A : Nat → Nat → Int32} (h : LIx P n t y7 y8 y9 ln ta s2 F2 s3 F3 sl sz cf s F ms A) (K : i + 5 ≤ N → lK G x) (K2 : i + 5 ≤ N → lK2 G x) : G 1 (lL x) [] (lW y7 y8 y9 ln ta e s1 F1 a b M s2 F2 s3 F3 sl sz cf dt s F ms A) := by
  refine hG 1 _ _ _ ?_
  have hlt : ¬ nI N - 5 < x → i + 5 ≤ N := fun c => by
    rw [hx, Int32.lt_iff_toInt_lt, Int32.toInt_sub, nI_toInt (by omega), nI_toInt (by omega), show (5 : Int32).toInt = 5 from rfl, Int.bmod_def] at c
    omega
  refine st_head nW (fun c => ?_) (fun c => ?_) (fun c => K (hlt c) P n t y7 y8 y9 ln ta e s1 F1 a b M s2 F2 s3 F3 sl sz cf dt s F ms A h)
  · have := hlt c
    rw [hx]
    exact vp_in_nI (by omega) (by omega)
  · have hX : lX x N := ⟨i, hx, hlt c, hN⟩
    have k1 := K (hlt c)
    have k2 := K2 (hlt c)
    exact List.forall_mem_cons.mpr ⟨cs_feed hX k1 h, List.forall_mem_cons.mpr ⟨cs_end hX k1 h, List.forall_mem_cons.mpr ⟨cs_text k1 k2 h, List.forall_mem_cons.mpr ⟨cs_fault hX k1 h, List.forall_mem_cons.mpr ⟨cs_rule hX k1 h, List.forall_mem_cons.mpr ⟨cs_wish hX k1 h, List.forall_mem_cons.mpr ⟨cs_plan hX k1 h, List.forall_mem_cons.mpr ⟨cs_live hX k1 h, List.forall_mem_cons.mpr ⟨cs_bar hX k1 h, List.forall_mem_cons.mpr ⟨cs_list hX k1 h, List.forall_mem_cons.mpr ⟨cs_depth hX k1 h, List.forall_mem_cons.mpr ⟨cs_asks hX k1 h, List.forall_mem_cons.mpr ⟨cs_needs hX k1 h, List.forall_mem_cons.mpr ⟨cs_clash hX k1 h, List.forall_mem_cons.mpr ⟨cs_plans hX k1 h, List.forall_mem_cons.mpr ⟨cs_cut hX k1 h, List.forall_mem_cons.mpr ⟨cs_looks hX k1 h, List.forall_mem_cons.mpr ⟨cs_refuses hX k1 h, List.forall_mem_cons.mpr ⟨cs_ask hX k1 h, List.forall_mem_cons.mpr ⟨cs_take hX k1 h, List.forall_mem_cons.mpr ⟨cs_clashes hX k1 h, List.forall_mem_cons.mpr ⟨cs_broken hX k1 h, List.forall_mem_cons.mpr ⟨cs_row hX k1 h, List.forall_mem_cons.mpr ⟨cs_cheap hX k1 h, List.forall_mem_cons.mpr ⟨cs_deep hX k1 h, List.forall_mem_cons.mpr ⟨cs_fewest hX k1 h, List.forall_mem_cons.mpr ⟨cs_all hX k1 h, List.forall_mem_cons.mpr ⟨cs_set hX k1 h, List.forall_mem_cons.mpr ⟨cs_rid hX k1 h, List.forall_mem_cons.mpr ⟨cs_date hX k1 h, List.forall_mem_cons.mpr ⟨cs_see hX k1 h, List.forall_mem_cons.mpr ⟨cs_forget hX k1 h, List.forall_mem_cons.mpr ⟨cs_fits hX k1 h, List.forall_mem_cons.mpr ⟨cs_odds hX k1 h, List.forall_mem_cons.mpr ⟨cs_wild hX k1 h, List.forall_mem_cons.mpr ⟨cs_keep hX k1 h, List.forall_mem_cons.mpr ⟨cs_back hX k1 h, List.forall_mem_cons.mpr ⟨cs_sheet hX k1 h, List.forall_mem_cons.mpr ⟨cs_lay hX k1 h, List.forall_mem_cons.mpr ⟨cs_read hX k1 h, List.forall_mem_cons.mpr ⟨cs_torn hX k1 h, List.forall_mem_cons.mpr ⟨cs_count hX k1 h, fun q hq => by cases hq⟩⟩⟩⟩⟩⟩⟩⟩⟩⟩⟩⟩⟩⟩⟩⟩⟩⟩⟩⟩⟩⟩⟩⟩⟩⟩⟩⟩⟩⟩⟩⟩⟩⟩⟩⟩⟩⟩⟩⟩⟩⟩

