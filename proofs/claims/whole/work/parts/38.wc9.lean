/-! ===== WishClerk: sheets, images, counts ===== -/
/-- four sheets from the cell k on -/
def shs (k : Nat) (ln sz : Nat → Int32) (cf : Nat → Nat → Int32) : sH := [.inr (.inr (3, [.ref (k + 1), .int (ln 0), .int (sz 0)])), .inl (0, 40, cf 0), .inr (.inr (3, [.ref (k + 3), .int (ln 1), .int (sz 1)])), .inl (0, 40, cf 1), .inr (.inr (3, [.ref (k + 5), .int (ln 2), .int (sz 2)])), .inl (0, 40, cf 2), .inr (.inr (3, [.ref (k + 7), .int (ln 3), .int (sz 3)])), .inl (0, 40, cf 3)]
def w4 (x0 x1 x2 x3 x5 x6 : Nat) (y7 y8 y9 : Int32) (ln sz : Nat → Int32) (cf : Nat → Nat → Int32) : sH := .inr (.inr (5, [.ref x0, .ref x1, .ref x2, .ref x3, .ref 1, .ref x5, .ref x6, .int y7, .int y8, .int y9])) :: .inr (.inl (4, [some 2, some 4, some 6, some 8])) :: shs 2 ln sz cf
def s_ra (L : sH) (a j : Nat) : Nat := match s_nth L a with
  | some (.inr (.inl (_, l))) => match s_nth l j with
    | some (some q) => q
    | _ => 0
  | _ => 0
def shP (L : sH) (a : Nat) : List Nat := [a, s_ra L a 0, s_rf L (s_ra L a 0) 0, s_ra L a 1, s_rf L (s_ra L a 1) 0, s_ra L a 2, s_rf L (s_ra L a 2) 0, s_ra L a 3, s_rf L (s_ra L a 3) 0]
def w4fp (vs : sS) (L : sH) : List Nat := match vs with
  | .ref b :: _ => b :: shP L (s_rf L b 4)
  | _ => []
/-- lane, size, cells of sheet j of the four that begin at the cell k -/
def shL (k : Nat) (L : sH) (j : Nat) : Int32 := oI L (k + 2 * j) 1
def shZ (k : Nat) (L : sH) (j : Nat) : Int32 := oI L (k + 2 * j) 2
def shF (k : Nat) (L : sH) (j : Nat) : Nat → Int32 := bF L (k + 2 * j + 1)
def r_sheet (k l n : Int32) : Int32 := if k < 0 then -1 else if k < 4 then (if l < 0 then -1 else if l < 3 then (if 40 < n then -1 else if n < 0 then -14 else 1) else -1) else -1
def q_shL (k l n : Int32) (ln : Nat → Int32) : Nat → Int32 := fun j => if r_sheet k l n = 1 then upd ln k.toNatClampNeg l j else ln j
def q_shZ (k l n : Int32) (sz : Nat → Int32) : Nat → Int32 := fun j => if r_sheet k l n = 1 then upd sz k.toNatClampNeg n j else sz j
def q_shF (k l n : Int32) (cf : Nat → Nat → Int32) : Nat → Nat → Int32 := fun j => if r_sheet k l n = 1 then va_up cf k.toNatClampNeg (p_fi (fun _ => 0) (cf k.toNatClampNeg) n.toNatClampNeg) j else cf j
theorem in4 {k : Int32} (h : ¬ k < 0) (h2 : k < 4) : k = nI 0 ∨ k = nI 1 ∨ k = nI 2 ∨ k = nI 3 := by
  obtain ⟨j, hj, rfl⟩ := nI_of h
  have := (nI_ltI (b := 4) hj (by omega)).mp h2
  rcases (show j = 0 ∨ j = 1 ∨ j = 2 ∨ j = 3 by omega) with rfl | rfl | rfl | rfl <;> simp
def c_X5_sheet : sCtr := ((yX5_sheet, cX5_sheet, 4, (some .int)), (6, 3, 1, 23), false,
  w4fp,
  fun vs L => ∃ (x0 x1 x2 x3 x5 x6 : Nat) (y7 y8 y9 : Int32) (ln sz : Nat → Int32) (cf : Nat → Nat → Int32) (k l n : Int32), vs = [.ref 0, .int k, .int l, .int n] ∧ L = w4 x0 x1 x2 x3 x5 x6 y7 y8 y9 ln sz cf,
  fun vs L r L' => r = some (.int (r_sheet (vI vs 1) (vI vs 2) (vI vs 3))) ∧ L' = s_hd L :: .inr (.inl (4, [some 2, some 4, some 6, some 8])) :: shs 2 (q_shL (vI vs 1) (vI vs 2) (vI vs 3) (shL 2 L)) (q_shZ (vI vs 1) (vI vs 2) (vI vs 3) (shZ 2 L)) (q_shF (vI vs 1) (vI vs 2) (vI vs 3) (shF 2 L)))
theorem sta_X5_sheet : s_Sta c_X5_sheet := ⟨⟨by decide +kernel, by decide +kernel, by decide +kernel⟩, List.mem_of_getElem? (i := 773) (by decide +kernel), List.mem_of_getElem? (i := 64) (by decide +kernel), ⟨List.mem_of_getElem? (i := 771) (by decide +kernel), List.mem_of_getElem? (i := 772) (by decide +kernel), Or.inl ⟨_, rfl, rfl⟩⟩⟩

def k_X5_sheet : List sBk := [
  (0, false, [true, true, true, true], [o0 0 (.iload_n 1), oN 1 (.ifCond .lt 23) [1], o0 4 (.iload_n 1), oK 5 (.iconst 4) (.int 4), oN 6 (.if_icmp .ge 18) [1], o0 9 (.iload_n 2), oN 10 (.ifCond .lt 14) [1], o0 13 (.iload_n 2), oK 14 (.iconst 3) (.int 3), oN 15 (.if_icmp .ge 9) [1], o0 18 (.iload_n 3), oK 19 (.bipush 40) (.int 40), oN 21 (.if_icmp .le 5) [2], oN 24 .nop [1]]),
  (24, false, [false, false, false, false], [oK 24 (.iconst (-1)) (.int (-1)), o0 25 .ireturn]),
  (26, false, [true, true, true, true], [o0 26 (.iload_n 3), oN 27 (.ifCond .ge 6) [3], oK 30 (.bipush (-14)) (.int (-14)), o0 32 .ireturn]),
  (33, false, [true, true, true, true], [o0 33 (.aload_n 0), oN 34 (.getfield 40) [5, 4, 302], o0 37 (.iload_n 1), o0 38 .aaload, o0 39 (.iload_n 2), o0 40 (.iload_n 3), oC 41 (.invokevirtual 254) [774] c_X3_makeNew, oK 44 (.iconst 1) (.int 1), o0 45 .ireturn])]
set_option maxRecDepth 100000 in
theorem ck_X5_sheet : s_ck RX5 cX5_sheet 4 1 23 k_X5_sheet = true := by decide +kernel

set_option maxRecDepth 100000 in
set_option maxHeartbeats 1000000 in
theorem ok_X5_sheet : s_Ok c_X5_sheet := by
  refine s_ok_of k_X5_sheet (by decide +kernel) sta_X5_sheet ck_X5_sheet (And.intro ok_X3_makeNew trivial) ?_
  rintro vs L ⟨x0, x1, x2, x3, x5, x6, y7, y8, y9, ln, sz, cf, k, l, n, rfl, rfl⟩
  refine ⟨rfl, fun G hG => ?_⟩
  have bad : ∀ a : Int32, a = r_sheet k l n → ¬ r_sheet k l n = 1 → s_PP (some .int) false c_X5_sheet.2.2.2.2.2 [.ref 0, .int k, .int l, .int n] (w4 x0 x1 x2 x3 x5 x6 y7 y8 y9 ln sz cf) (some (.int a)) (w4 x0 x1 x2 x3 x5 x6 y7 y8 y9 ln sz cf) := by
    intro a ha hb
    refine ⟨rfl, ⟨by rw [ha]; rfl, ?_⟩, fun h => by cases h⟩
    show w4 x0 x1 x2 x3 x5 x6 y7 y8 y9 ln sz cf = s_hd (w4 x0 x1 x2 x3 x5 x6 y7 y8 y9 ln sz cf) :: .inr (.inl (4, [some 2, some 4, some 6, some 8])) :: shs 2 (q_shL k l n (shL 2 (w4 x0 x1 x2 x3 x5 x6 y7 y8 y9 ln sz cf))) (q_shZ k l n (shZ 2 (w4 x0 x1 x2 x3 x5 x6 y7 y8 y9 ln sz cf))) (q_shF k l n (shF 2 (w4 x0 x1 x2 x3 x5 x6 y7 y8 y9 ln sz cf)))
    rw [show q_shL k l n (shL 2 (w4 x0 x1 x2 x3 x5 x6 y7 y8 y9 ln sz cf)) = shL 2 (w4 x0 x1 x2 x3 x5 x6 y7 y8 y9 ln sz cf) by funext j; rw [q_shL, if_neg hb], show q_shZ k l n (shZ 2 (w4 x0 x1 x2 x3 x5 x6 y7 y8 y9 ln sz cf)) = shZ 2 (w4 x0 x1 x2 x3 x5 x6 y7 y8 y9 ln sz cf) by funext j; rw [q_shZ, if_neg hb], show q_shF k l n (shF 2 (w4 x0 x1 x2 x3 x5 x6 y7 y8 y9 ln sz cf)) = shF 2 (w4 x0 x1 x2 x3 x5 x6 y7 y8 y9 ln sz cf) by funext j; rw [q_shF, if_neg hb]]
    rfl
  have nb : ∀ a : Int32, a = -1 ∨ a = -14 → ¬ a = 1 := by rintro a (rfl | rfl) <;> decide
  refine hG 0 _ _ _ (And.intro (fun h => ?_) (fun h => ?_))
  · have e : r_sheet k l n = -1 := by rw [r_sheet, if_pos h]
    exact bad _ e.symm (nb _ (Or.inl e))
  refine And.intro (fun h2 => ?_) (fun h2 => ?_)
  rotate_left
  · have e : r_sheet k l n = -1 := by rw [r_sheet, if_neg h, if_neg h2]
    exact bad _ e.symm (nb _ (Or.inl e))
  refine And.intro (fun h3 => ?_) (fun h3 => ?_)
  · have e : r_sheet k l n = -1 := by rw [r_sheet, if_neg h, if_pos h2, if_pos h3]
    exact bad _ e.symm (nb _ (Or.inl e))
  refine And.intro (fun h4 => ?_) (fun h4 => ?_)
  rotate_left
  · have e : r_sheet k l n = -1 := by rw [r_sheet, if_neg h, if_pos h2, if_neg h3, if_neg h4]
    exact bad _ e.symm (nb _ (Or.inl e))
  refine And.intro (fun h5 => ?_) (fun h5 => ?_)
  · have e : r_sheet k l n = -1 := by rw [r_sheet, if_neg h, if_pos h2, if_neg h3, if_pos h4, if_pos h5]
    exact bad _ e.symm (nb _ (Or.inl e))
  refine And.intro (fun h6 => ?_) (fun h6 => ?_)
  · have e : r_sheet k l n = -14 := by rw [r_sheet, if_neg h, if_pos h2, if_neg h3, if_pos h4, if_neg h5, if_pos h6]
    exact bad _ e.symm (nb _ (Or.inr e))
  have e : r_sheet k l n = 1 := by rw [r_sheet, if_neg h, if_pos h2, if_neg h3, if_pos h4, if_neg h5, if_neg h6]
  obtain ⟨N, hN31, hN⟩ := nI_of h6
  have hN40 : N ≤ 40 := by
    rcases Nat.lt_or_ge 40 N with q | q
    · exact absurd (by rw [hN]; exact (nI_ltI (a := 40) (by omega) hN31).mpr q) h5
    · exact q
  have fin : ∀ L2 : sH, L2 = s_hd (w4 x0 x1 x2 x3 x5 x6 y7 y8 y9 ln sz cf) :: .inr (.inl (4, [some 2, some 4, some 6, some 8])) :: shs 2 (upd (shL 2 (w4 x0 x1 x2 x3 x5 x6 y7 y8 y9 ln sz cf)) k.toNatClampNeg l) (upd (shZ 2 (w4 x0 x1 x2 x3 x5 x6 y7 y8 y9 ln sz cf)) k.toNatClampNeg n) (va_up (shF 2 (w4 x0 x1 x2 x3 x5 x6 y7 y8 y9 ln sz cf)) k.toNatClampNeg (p_fi (fun _ => 0) (shF 2 (w4 x0 x1 x2 x3 x5 x6 y7 y8 y9 ln sz cf) k.toNatClampNeg) n.toNatClampNeg)) → s_PP (some .int) false c_X5_sheet.2.2.2.2.2 [.ref 0, .int k, .int l, .int n] (w4 x0 x1 x2 x3 x5 x6 y7 y8 y9 ln sz cf) (some (.int 1)) L2 := by
    intro L2 hL
    refine ⟨rfl, ⟨?_, ?_⟩, fun h => by cases h⟩
    · show some (Value.int 1) = some (Value.int (r_sheet k l n))
      rw [e]
    · rw [hL]
      show _ = s_hd (w4 x0 x1 x2 x3 x5 x6 y7 y8 y9 ln sz cf) :: .inr (.inl (4, [some 2, some 4, some 6, some 8])) :: shs 2 (q_shL k l n (shL 2 (w4 x0 x1 x2 x3 x5 x6 y7 y8 y9 ln sz cf))) (q_shZ k l n (shZ 2 (w4 x0 x1 x2 x3 x5 x6 y7 y8 y9 ln sz cf))) (q_shF k l n (shF 2 (w4 x0 x1 x2 x3 x5 x6 y7 y8 y9 ln sz cf)))
      rw [show q_shL k l n (shL 2 (w4 x0 x1 x2 x3 x5 x6 y7 y8 y9 ln sz cf)) = upd (shL 2 (w4 x0 x1 x2 x3 x5 x6 y7 y8 y9 ln sz cf)) k.toNatClampNeg l by funext j; rw [q_shL, if_pos e], show q_shZ k l n (shZ 2 (w4 x0 x1 x2 x3 x5 x6 y7 y8 y9 ln sz cf)) = upd (shZ 2 (w4 x0 x1 x2 x3 x5 x6 y7 y8 y9 ln sz cf)) k.toNatClampNeg n by funext j; rw [q_shZ, if_pos e], show q_shF k l n (shF 2 (w4 x0 x1 x2 x3 x5 x6 y7 y8 y9 ln sz cf)) = va_up (shF 2 (w4 x0 x1 x2 x3 x5 x6 y7 y8 y9 ln sz cf)) k.toNatClampNeg (p_fi (fun _ => 0) (shF 2 (w4 x0 x1 x2 x3 x5 x6 y7 y8 y9 ln sz cf) k.toNatClampNeg) n.toNatClampNeg) by funext j; rw [q_shF, if_pos e]]
  rcases in4 h h2 with rfl | rfl | rfl | rfl
  all_goals
    refine And.intro (vp_in_nI (by decide) (by decide)) (And.intro ⟨_, _, _, _, _, N, rfl, rfl, hN, hN40⟩ ?_)
    rintro r L' ⟨rfl, rfl⟩
    exact fin _ rfl
def r_lay (ln sz : Nat → Int32) (k i : Int32) : Int32 := if k < 0 then -1 else if k < 4 then (if p_fa (ln k.toNatClampNeg) (sz k.toNatClampNeg) (ln k.toNatClampNeg) i = 0 then 1 else -10 - p_fa (ln k.toNatClampNeg) (sz k.toNatClampNeg) (ln k.toNatClampNeg) i) else -1
def q_lay (ln sz : Nat → Int32) (k i v : Int32) (cf : Nat → Nat → Int32) : Nat → Nat → Int32 := fun j => if k < 0 then cf j else if k < 4 then (if p_fa (ln k.toNatClampNeg) (sz k.toNatClampNeg) (ln k.toNatClampNeg) i = 0 then va_up cf k.toNatClampNeg (upd (cf k.toNatClampNeg) i.toNatClampNeg (p_lw (ln k.toNatClampNeg) v)) j else cf j) else cf j
theorem p_fa_0 {ln sz as i : Int32} {N : Nat} (hs : sz = nI N) (hN : N ≤ 40) (h : p_fa ln sz as i = 0) : vp_in i 40 ∧ ¬ i < 0 ∧ i < sz ∧ as = ln ∧ ¬ ln = -1 := by
  unfold p_fa at h
  by_cases h1 : ln = -1
  · rw [if_pos h1] at h; exact absurd h (by decide)
  rw [if_neg h1] at h
  by_cases h2 : as = ln
  · rw [if_pos h2] at h
    by_cases h3 : i < 0
    · rw [if_pos h3] at h; exact absurd h (by decide)
    rw [if_neg h3] at h
    by_cases h4 : i < sz
    · obtain ⟨j, hj, rfl⟩ := nI_of h3
      have h5 := h4
      rw [hs] at h5
      have := (nI_ltI hj (by omega)).mp h5
      exact ⟨vp_in_nI (by omega) (by omega), h3, h4, h2, h1⟩
    · rw [if_neg h4] at h; exact absurd h (by decide)
  · rw [if_neg h2] at h; exact absurd h (by decide)
def c_X5_lay : sCtr := ((yX5_lay, cX5_lay, 6, (some .int)), (6, 3, 2, 42), false,
  w4fp,
  fun vs L => ∃ (x0 x1 x2 x3 x5 x6 : Nat) (y7 y8 y9 : Int32) (ln sz : Nat → Int32) (cf : Nat → Nat → Int32) (k i v : Int32), vs = [.ref 0, .int k, .int i, .int v] ∧ L = w4 x0 x1 x2 x3 x5 x6 y7 y8 y9 ln sz cf ∧ ∀ j, j < 4 → ∃ N, sz j = nI N ∧ N ≤ 40,
  fun vs L r L' => r = some (.int (r_lay (shL 2 L) (shZ 2 L) (vI vs 1) (vI vs 2))) ∧ L' = s_hd L :: .inr (.inl (4, [some 2, some 4, some 6, some 8])) :: shs 2 (shL 2 L) (shZ 2 L) (q_lay (shL 2 L) (shZ 2 L) (vI vs 1) (vI vs 2) (vI vs 3) (shF 2 L)))
theorem sta_X5_lay : s_Sta c_X5_lay := ⟨⟨by decide +kernel, by decide +kernel, by decide +kernel⟩, List.mem_of_getElem? (i := 781) (by decide +kernel), List.mem_of_getElem? (i := 64) (by decide +kernel), ⟨List.mem_of_getElem? (i := 779) (by decide +kernel), List.mem_of_getElem? (i := 780) (by decide +kernel), Or.inl ⟨_, rfl, rfl⟩⟩⟩

def k_X5_lay : List sBk := [
  (0, false, [true, true, true, true, false, false], [o0 0 (.iload_n 1), oN 1 (.ifCond .lt 8) [1], o0 4 (.iload_n 1), oK 5 (.iconst 4) (.int 4), oN 6 (.if_icmp .lt 5) [2], oN 9 .nop [1]]),
  (9, false, [false, false, false, false, false, false], [oK 9 (.iconst (-1)) (.int (-1)), o0 10 .ireturn]),
  (11, false, [true, true, true, true, false, false], [o0 11 (.aload_n 0), oN 12 (.getfield 40) [5, 4, 302], o0 15 (.iload_n 1), o0 16 .aaload, o0 17 (.astore 4), o0 19 (.aload 4), o0 21 (.aload 4), oN 23 (.getfield 258) [3, 1, 288], o0 26 (.iload_n 2), oC 27 (.invokevirtual 261) [782] c_X3_faultAt, o0 30 (.istore 5), o0 32 (.iload 5), oN 34 (.ifCond .eq 9) [3], oK 37 (.bipush (-10)) (.int (-10)), o0 39 (.iload 5), o0 41 .isub, o0 42 .ireturn]),
  (43, false, [false, false, true, true, true, false], [o0 43 (.aload 4), o0 45 (.iload_n 2), o0 46 (.iload_n 3), oC 47 (.invokevirtual 264) [790] c_X3_write, oK 50 (.iconst 1) (.int 1), o0 51 .ireturn])]
set_option maxRecDepth 100000 in
theorem ck_X5_lay : s_ck RX5 cX5_lay 6 2 42 k_X5_lay = true := by decide +kernel

set_option maxRecDepth 100000 in
set_option maxHeartbeats 1000000 in
theorem ok_X5_lay : s_Ok c_X5_lay := by
  refine s_ok_of k_X5_lay (by decide +kernel) sta_X5_lay ck_X5_lay (And.intro ok_X3_faultAt (And.intro ok_X3_write trivial)) ?_
  rintro vs L ⟨x0, x1, x2, x3, x5, x6, y7, y8, y9, ln, sz, cf, k, i, v, rfl, rfl, hsz⟩
  refine ⟨rfl, fun G hG => ?_⟩
  have fin : ∀ (a : Int32) (L2 : sH), a = r_lay (shL 2 (w4 x0 x1 x2 x3 x5 x6 y7 y8 y9 ln sz cf)) (shZ 2 (w4 x0 x1 x2 x3 x5 x6 y7 y8 y9 ln sz cf)) k i → L2 = s_hd (w4 x0 x1 x2 x3 x5 x6 y7 y8 y9 ln sz cf) :: .inr (.inl (4, [some 2, some 4, some 6, some 8])) :: shs 2 (shL 2 (w4 x0 x1 x2 x3 x5 x6 y7 y8 y9 ln sz cf)) (shZ 2 (w4 x0 x1 x2 x3 x5 x6 y7 y8 y9 ln sz cf)) (q_lay (shL 2 (w4 x0 x1 x2 x3 x5 x6 y7 y8 y9 ln sz cf)) (shZ 2 (w4 x0 x1 x2 x3 x5 x6 y7 y8 y9 ln sz cf)) k i v (shF 2 (w4 x0 x1 x2 x3 x5 x6 y7 y8 y9 ln sz cf))) → s_PP (some .int) false c_X5_lay.2.2.2.2.2 [.ref 0, .int k, .int i, .int v] (w4 x0 x1 x2 x3 x5 x6 y7 y8 y9 ln sz cf) (some (.int a)) L2 := fun a L2 ha hL => ⟨rfl, ⟨by rw [ha]; rfl, hL⟩, fun h => by cases h⟩
  refine hG 0 _ _ _ (And.intro (fun h => ?_) (fun h => ?_))
  · exact fin _ _ (by rw [r_lay, if_pos h]) (by rw [show ∀ cf2, q_lay (shL 2 (w4 x0 x1 x2 x3 x5 x6 y7 y8 y9 ln sz cf)) (shZ 2 (w4 x0 x1 x2 x3 x5 x6 y7 y8 y9 ln sz cf)) k i v cf2 = cf2 from fun cf2 => by funext j; rw [q_lay, if_pos h]]; rfl)
  refine And.intro (fun h2 => ?_) (fun h2 => ?_)
  rotate_left
  · exact fin _ _ (by rw [r_lay, if_neg h, if_neg h2]) (by rw [show ∀ cf2, q_lay (shL 2 (w4 x0 x1 x2 x3 x5 x6 y7 y8 y9 ln sz cf)) (shZ 2 (w4 x0 x1 x2 x3 x5 x6 y7 y8 y9 ln sz cf)) k i v cf2 = cf2 from fun cf2 => by funext j; rw [q_lay, if_neg h, if_neg h2]]; rfl)
  have step : ∀ (K : Nat), K < 4 → k = nI K → ∀ fa : Int32, fa = p_fa (shL 2 (w4 x0 x1 x2 x3 x5 x6 y7 y8 y9 ln sz cf) K) (shZ 2 (w4 x0 x1 x2 x3 x5 x6 y7 y8 y9 ln sz cf) K) (shL 2 (w4 x0 x1 x2 x3 x5 x6 y7 y8 y9 ln sz cf) K) i → (fa = 0 → 1 = r_lay (shL 2 (w4 x0 x1 x2 x3 x5 x6 y7 y8 y9 ln sz cf)) (shZ 2 (w4 x0 x1 x2 x3 x5 x6 y7 y8 y9 ln sz cf)) k i ∧ ∀ cf2, q_lay (shL 2 (w4 x0 x1 x2 x3 x5 x6 y7 y8 y9 ln sz cf)) (shZ 2 (w4 x0 x1 x2 x3 x5 x6 y7 y8 y9 ln sz cf)) k i v cf2 = va_up cf2 K (upd (cf2 K) i.toNatClampNeg (p_lw (shL 2 (w4 x0 x1 x2 x3 x5 x6 y7 y8 y9 ln sz cf) K) v))) ∧ (¬ fa = 0 → -10 - fa = r_lay (shL 2 (w4 x0 x1 x2 x3 x5 x6 y7 y8 y9 ln sz cf)) (shZ 2 (w4 x0 x1 x2 x3 x5 x6 y7 y8 y9 ln sz cf)) k i ∧ ∀ cf2, q_lay (shL 2 (w4 x0 x1 x2 x3 x5 x6 y7 y8 y9 ln sz cf)) (shZ 2 (w4 x0 x1 x2 x3 x5 x6 y7 y8 y9 ln sz cf)) k i v cf2 = cf2) := by
    intro K hK hk fa hfa
    have hc : k.toNatClampNeg = K := by rw [hk, nI_clamp (by omega)]
    refine ⟨fun h0 => ⟨?_, fun cf2 => ?_⟩, fun h0 => ⟨?_, fun cf2 => ?_⟩⟩
    · rw [r_lay, if_neg h, if_pos h2, hc, ← hfa, if_pos h0]
    · funext j; rw [q_lay, if_neg h, if_pos h2, hc, ← hfa, if_pos h0]
    · rw [r_lay, if_neg h, if_pos h2, hc, ← hfa, if_neg h0]
    · funext j; rw [q_lay, if_neg h, if_pos h2, hc, ← hfa, if_neg h0]
  rcases in4 h h2 with rfl | rfl | rfl | rfl
  · refine And.intro (vp_in_nI (by decide) (by decide)) (And.intro ⟨_, _, _, _, _, rfl, rfl⟩ ?_)
    intro r hr
    obtain ⟨fa, hfa⟩ : ∃ fa, fa = p_fa (ln 0) (sz 0) (ln 0) i := ⟨_, rfl⟩
    obtain rfl : r = some (.int fa) := by rw [hfa]; exact hr
    obtain ⟨s1, s2⟩ := step 0 (by omega) rfl fa hfa
    refine And.intro (fun h3 => ?_) (fun h3 => ?_)
    · obtain ⟨N, hs, hN⟩ := hsz 0 (by omega)
      refine And.intro ⟨_, _, _, _, _, rfl, rfl, (p_fa_0 hs hN (hfa.symm.trans h3)).1⟩ ?_
      rintro r L' ⟨rfl, rfl⟩
      exact fin _ _ (s1 h3).1 (by rw [(s1 h3).2]; rfl)
    · exact fin _ _ (s2 h3).1 (by rw [(s2 h3).2]; rfl)
  · refine And.intro (vp_in_nI (by decide) (by decide)) (And.intro ⟨_, _, _, _, _, rfl, rfl⟩ ?_)
    intro r hr
    obtain ⟨fa, hfa⟩ : ∃ fa, fa = p_fa (ln 1) (sz 1) (ln 1) i := ⟨_, rfl⟩
    obtain rfl : r = some (.int fa) := by rw [hfa]; exact hr
    obtain ⟨s1, s2⟩ := step 1 (by omega) rfl fa hfa
    refine And.intro (fun h3 => ?_) (fun h3 => ?_)
    · obtain ⟨N, hs, hN⟩ := hsz 1 (by omega)
      refine And.intro ⟨_, _, _, _, _, rfl, rfl, (p_fa_0 hs hN (hfa.symm.trans h3)).1⟩ ?_
      rintro r L' ⟨rfl, rfl⟩
      exact fin _ _ (s1 h3).1 (by rw [(s1 h3).2]; rfl)
    · exact fin _ _ (s2 h3).1 (by rw [(s2 h3).2]; rfl)
  · refine And.intro (vp_in_nI (by decide) (by decide)) (And.intro ⟨_, _, _, _, _, rfl, rfl⟩ ?_)
    intro r hr
    obtain ⟨fa, hfa⟩ : ∃ fa, fa = p_fa (ln 2) (sz 2) (ln 2) i := ⟨_, rfl⟩
    obtain rfl : r = some (.int fa) := by rw [hfa]; exact hr
    obtain ⟨s1, s2⟩ := step 2 (by omega) rfl fa hfa
    refine And.intro (fun h3 => ?_) (fun h3 => ?_)
    · obtain ⟨N, hs, hN⟩ := hsz 2 (by omega)
      refine And.intro ⟨_, _, _, _, _, rfl, rfl, (p_fa_0 hs hN (hfa.symm.trans h3)).1⟩ ?_
      rintro r L' ⟨rfl, rfl⟩
      exact fin _ _ (s1 h3).1 (by rw [(s1 h3).2]; rfl)
    · exact fin _ _ (s2 h3).1 (by rw [(s2 h3).2]; rfl)
  · refine And.intro (vp_in_nI (by decide) (by decide)) (And.intro ⟨_, _, _, _, _, rfl, rfl⟩ ?_)
    intro r hr
    obtain ⟨fa, hfa⟩ : ∃ fa, fa = p_fa (ln 3) (sz 3) (ln 3) i := ⟨_, rfl⟩
    obtain rfl : r = some (.int fa) := by rw [hfa]; exact hr
    obtain ⟨s1, s2⟩ := step 3 (by omega) rfl fa hfa
    refine And.intro (fun h3 => ?_) (fun h3 => ?_)
    · obtain ⟨N, hs, hN⟩ := hsz 3 (by omega)
      refine And.intro ⟨_, _, _, _, _, rfl, rfl, (p_fa_0 hs hN (hfa.symm.trans h3)).1⟩ ?_
      rintro r L' ⟨rfl, rfl⟩
      exact fin _ _ (s1 h3).1 (by rw [(s1 h3).2]; rfl)
    · exact fin _ _ (s2 h3).1 (by rw [(s2 h3).2]; rfl)
