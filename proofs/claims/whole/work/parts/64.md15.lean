/-! ===== WishClerkModel: reading the text, first part ===== -/
def p_mlk (ta : Nat → Int32) (ln i : Int32) : Int32 := if i < ln then ta i.toNatClampNeg else -1
def c_X6_look : sCtr := ((yX6_look, cX6_look, 2, (some .int)), (7, 1, 0, 0), true,
  mdfp,
  fun vs L => ∃ (s : Nat → Int32) (A : Nat → Nat → Int32) (i : Int32) (j t : Nat), vs = [.ref 0, .int i] ∧ L = mdW s A ∧ i = nI j ∧ j < 1000 ∧ s 15 = nI t ∧ t ≤ 160,
  fun vs L r _ => r = some (.int (p_mlk (bF L 8) (oI L 0 15) (vI vs 1))))
theorem sta_X6_look : s_Sta c_X6_look := ⟨⟨by decide +kernel, by decide +kernel, by decide +kernel⟩, List.mem_of_getElem? (i := 939) (by decide +kernel), List.mem_of_getElem? (i := 70) (by decide +kernel), ⟨List.mem_of_getElem? (i := 938) (by decide +kernel), List.mem_of_getElem? (i := 30) (by decide +kernel), Or.inl ⟨_, rfl, rfl⟩⟩⟩

def k_X6_look : List sBk := [
  (0, false, [true, true], [o0 0 (.iload_n 1), o0 1 (.aload_n 0), oN 2 (.getfield 94) [6, 15, 837], oN 5 (.if_icmp .ge 12) [1], o0 8 (.aload_n 0), oN 9 (.getfield 32) [6, 14, 836], o0 12 (.iload_n 1), o0 13 .iaload, oN 14 (.goto 4) [2]]),
  (17, false, [false, false], [oK 17 (.iconst (-1)) (.int (-1)), oN 18 .nop [2]]),
  (18, false, [false, false], [o0 18 .ireturn])]
set_option maxRecDepth 100000 in
theorem ck_X6_look : s_ck RX6 cX6_look 2 0 0 k_X6_look = true := by decide +kernel

set_option maxRecDepth 100000 in
set_option maxHeartbeats 1000000 in
theorem ok_X6_look : s_Ok c_X6_look := by
  refine s_ok_of k_X6_look (by decide +kernel) sta_X6_look ck_X6_look trivial ?_
  rintro vs L ⟨s, A, i, j, t, rfl, rfl, hi, hj, ht, ht2⟩
  refine ⟨rfl, fun G hG => ?_⟩
  have fin : ∀ a : Int32, a = p_mlk (A 8) (s 15) i → s_PP (some .int) true c_X6_look.2.2.2.2.2 [.ref 0, .int i] (mdW s A) (some (.int a)) (mdW s A) := fun a ha => ⟨rfl, by rw [ha]; rfl, fun _ => rfl⟩
  refine hG 0 _ _ _ (And.intro (fun h => ?_) (fun h => ?_))
  · have h : i < s 15 := h
    refine And.intro ?_ (fin _ (by rw [p_mlk, if_pos h]))
    show vp_in i 160
    rw [hi, ht, nI_ltI (by omega) (by omega)] at h
    rw [hi]; exact vp_in_nI (by omega) (by omega)
  · have h : ¬ i < s 15 := h
    exact fin _ (by rw [p_mlk, if_neg h])
def q_mmust (s : Nat → Int32) (b f : Int32) : Nat → Int32 := fun j => if b = 0 then (if s 20 = 0 then upd (upd s 20 f) 21 (s 17) j else s j) else s j
def p_miz (ta : Nat → Int32) (ln e u len a b c : Int32) : Int32 := if e - u = len then (if p_mlk ta ln u = a then (if p_mlk ta ln (u + 1) = b then (if p_mlk ta ln (u + 2) = c then 1 else 0) else 0) else 0) else 0
def c_X6_is : sCtr := ((yX6_is, cX6_is, 5, (some .boolean)), (7, 4, 1, 21), true,
  mdfp,
  fun vs L => ∃ (s : Nat → Int32) (A : Nat → Nat → Int32) (len a b c : Int32) (u t : Nat), vs = [.ref 0, .int len, .int a, .int b, .int c] ∧ L = mdW s A ∧ s 17 = nI u ∧ u ≤ 200 ∧ s 15 = nI t ∧ t ≤ 160,
  fun vs L r _ => r = some (.int (p_miz (bF L 8) (oI L 0 15) (oI L 0 16) (oI L 0 17) (vI vs 1) (vI vs 2) (vI vs 3) (vI vs 4))))
theorem sta_X6_is : s_Sta c_X6_is := ⟨⟨by decide +kernel, by decide +kernel, by decide +kernel⟩, List.mem_of_getElem? (i := 959) (by decide +kernel), List.mem_of_getElem? (i := 70) (by decide +kernel), ⟨List.mem_of_getElem? (i := 958) (by decide +kernel), List.mem_of_getElem? (i := 34) (by decide +kernel), Or.inl ⟨_, rfl, rfl⟩⟩⟩

def k_X6_is : List sBk := [
  (0, false, [true, true, true, true, true], [o0 0 (.aload_n 0), oN 1 (.getfield 106) [6, 16, 838], o0 4 (.aload_n 0), oN 5 (.getfield 100) [6, 17, 839], o0 8 .isub, o0 9 (.iload_n 1), oN 10 (.if_icmp .ne 48) [1], o0 13 (.aload_n 0), o0 14 (.aload_n 0), oN 15 (.getfield 100) [6, 17, 839], oC 18 (.invokevirtual 109) [936] c_X6_look, o0 21 (.iload_n 2), oN 22 (.if_icmp .ne 36) [1], o0 25 (.aload_n 0), o0 26 (.aload_n 0), oN 27 (.getfield 100) [6, 17, 839], oK 30 (.iconst 1) (.int 1), o0 31 .iadd, oC 32 (.invokevirtual 109) [936] c_X6_look, o0 35 (.iload_n 3), oN 36 (.if_icmp .ne 22) [1], o0 39 (.aload_n 0), o0 40 (.aload_n 0), oN 41 (.getfield 100) [6, 17, 839], oK 44 (.iconst 2) (.int 2), o0 45 .iadd, oC 46 (.invokevirtual 109) [936] c_X6_look, o0 49 (.iload 4), oN 51 (.if_icmp .ne 7) [1], oK 54 (.iconst 1) (.int 1), oN 55 (.goto 4) [2]]),
  (58, false, [false, false, false, false, false], [oK 58 (.iconst 0) (.int 0), oN 59 .nop [2]]),
  (59, false, [false, false, false, false, false], [o0 59 .ireturn])]
set_option maxRecDepth 100000 in
theorem ck_X6_is : s_ck RX6 cX6_is 5 1 21 k_X6_is = true := by decide +kernel

set_option maxRecDepth 100000 in
set_option maxHeartbeats 1000000 in
theorem ok_X6_is : s_Ok c_X6_is := by
  refine s_ok_of k_X6_is (by decide +kernel) sta_X6_is ck_X6_is (And.intro ok_X6_look (And.intro ok_X6_look (And.intro ok_X6_look trivial))) ?_
  rintro vs L ⟨s, A, len, a, b, c, u, t, rfl, rfl, hu, hu2, ht, ht2⟩
  refine ⟨rfl, fun G hG => ?_⟩
  have fin : ∀ o : Int32, o = 0 ∨ o = 1 → o = p_miz (A 8) (s 15) (s 16) (s 17) len a b c → (o = 0 ∨ o = 1) ∧ s_PP (some .boolean) true c_X6_is.2.2.2.2.2 [.ref 0, .int len, .int a, .int b, .int c] (mdW s A) (some (.int o)) (mdW s A) := fun o h01 ho => ⟨h01, rfl, by rw [ho]; rfl, fun _ => rfl⟩
  have ex : ∀ k : Nat, s 17 + nI k = nI (u + k) := fun k => by rw [hu, nI_add]
  refine hG 0 _ _ _ (And.intro (fun h => ?_) (fun h => ?_))
  · have h : s 16 - s 17 = len := h
    refine And.intro ⟨s, A, _, u, t, rfl, rfl, hu, by omega, ht, ht2⟩ ?_
    intro r hr
    obtain ⟨x1, hx1⟩ : ∃ x, x = p_mlk (A 8) (s 15) (s 17) := ⟨_, rfl⟩
    obtain rfl : r = some (.int x1) := by rw [hx1]; exact hr
    refine And.intro (fun h1 => ?_) (fun h1 => ?_)
    · have h1 : x1 = a := h1
      refine And.intro ⟨s, A, _, u + 1, t, rfl, rfl, ex 1, by omega, ht, ht2⟩ ?_
      intro r hr
      obtain ⟨x2, hx2⟩ : ∃ x, x = p_mlk (A 8) (s 15) (s 17 + 1) := ⟨_, rfl⟩
      obtain rfl : r = some (.int x2) := by rw [hx2]; exact hr
      refine And.intro (fun h2 => ?_) (fun h2 => ?_)
      · have h2 : x2 = b := h2
        refine And.intro ⟨s, A, _, u + 2, t, rfl, rfl, ex 2, by omega, ht, ht2⟩ ?_
        intro r hr
        obtain ⟨x3, hx3⟩ : ∃ x, x = p_mlk (A 8) (s 15) (s 17 + 2) := ⟨_, rfl⟩
        obtain rfl : r = some (.int x3) := by rw [hx3]; exact hr
        refine And.intro (fun h3 => ?_) (fun h3 => ?_)
        · have h3 : x3 = c := h3
          exact fin _ (Or.inr rfl) (by rw [p_miz, if_pos h, ← hx1, if_pos h1, ← hx2, if_pos h2, ← hx3, if_pos h3])
        · have h3 : ¬ x3 = c := h3
          exact fin _ (Or.inl rfl) (by rw [p_miz, if_pos h, ← hx1, if_pos h1, ← hx2, if_pos h2, ← hx3, if_neg h3])
      · have h2 : ¬ x2 = b := h2
        exact fin _ (Or.inl rfl) (by rw [p_miz, if_pos h, ← hx1, if_pos h1, ← hx2, if_neg h2])
    · have h1 : ¬ x1 = a := h1
      exact fin _ (Or.inl rfl) (by rw [p_miz, if_pos h, ← hx1, if_neg h1])
  · have h : ¬ s 16 - s 17 = len := h
    exact fin _ (Or.inl rfl) (by rw [p_miz, if_neg h])
