/-! ===== WishClerkModel: reading the text, words ===== -/
theorem s_let {C R : Prop} (f : C → R) (c : C) : R := f c
def p_mez1 (ta : Nat → Int32) (ln u c : Int32) : Int32 := if c = 0 then 1 else if p_mlk ta ln (u + 5) = c then 1 else 0
def p_mez (ta : Nat → Int32) (ln u a b c : Int32) : Int32 := if p_mlk ta ln (u + 3) = a then (if b = 0 then p_mez1 ta ln u c else if p_mlk ta ln (u + 4) = b then p_mez1 ta ln u c else 0) else 0
def c_X6_ends : sCtr := ((yX6_ends, cX6_ends, 4, (some .boolean)), (7, 3, 1, 21), true,
  mdfp,
  fun vs L => ∃ (s : Nat → Int32) (A : Nat → Nat → Int32) (a b c : Int32) (u t : Nat), vs = [.ref 0, .int a, .int b, .int c] ∧ L = mdW s A ∧ s 17 = nI u ∧ u ≤ 200 ∧ s 15 = nI t ∧ t ≤ 160,
  fun vs L r _ => r = some (.int (p_mez (bF L 8) (oI L 0 15) (oI L 0 17) (vI vs 1) (vI vs 2) (vI vs 3))))
theorem sta_X6_ends : s_Sta c_X6_ends := ⟨⟨by decide +kernel, by decide +kernel, by decide +kernel⟩, List.mem_of_getElem? (i := 963) (by decide +kernel), List.mem_of_getElem? (i := 70) (by decide +kernel), ⟨List.mem_of_getElem? (i := 962) (by decide +kernel), List.mem_of_getElem? (i := 35) (by decide +kernel), Or.inl ⟨_, rfl, rfl⟩⟩⟩

def k_X6_ends : List sBk := [
  (0, false, [true, true, true, true], [o0 0 (.aload_n 0), o0 1 (.aload_n 0), oN 2 (.getfield 100) [6, 17, 839], oK 5 (.iconst 3) (.int 3), o0 6 .iadd, oC 7 (.invokevirtual 109) [936] c_X6_look, o0 10 (.iload_n 1), oN 11 (.if_icmp .ne 43) [3], o0 14 (.iload_n 2), oN 15 (.ifCond .eq 17) [1], o0 18 (.aload_n 0), o0 19 (.aload_n 0), oN 20 (.getfield 100) [6, 17, 839], oK 23 (.iconst 4) (.int 4), o0 24 .iadd, oC 25 (.invokevirtual 109) [936] c_X6_look, o0 28 (.iload_n 2), oN 29 (.if_icmp .ne 25) [3], oN 32 .nop [1]]),
  (32, false, [true, false, false, true], [o0 32 (.iload_n 3), oN 33 (.ifCond .eq 17) [2], o0 36 (.aload_n 0), o0 37 (.aload_n 0), oN 38 (.getfield 100) [6, 17, 839], oK 41 (.iconst 5) (.int 5), o0 42 .iadd, oC 43 (.invokevirtual 109) [936] c_X6_look, o0 46 (.iload_n 3), oN 47 (.if_icmp .ne 7) [3], oN 50 .nop [2]]),
  (50, false, [false, false, false, false], [oK 50 (.iconst 1) (.int 1), oN 51 (.goto 4) [4]]),
  (54, false, [false, false, false, false], [oK 54 (.iconst 0) (.int 0), oN 55 .nop [4]]),
  (55, false, [false, false, false, false], [o0 55 .ireturn])]
set_option maxRecDepth 100000 in
theorem ck_X6_ends : s_ck RX6 cX6_ends 4 1 21 k_X6_ends = true := by decide +kernel

set_option maxRecDepth 100000 in
set_option maxHeartbeats 1000000 in
theorem ok_X6_ends : s_Ok c_X6_ends := by
  refine s_ok_of k_X6_ends (by decide +kernel) sta_X6_ends ck_X6_ends (And.intro ok_X6_look (And.intro ok_X6_look (And.intro ok_X6_look trivial))) ?_
  rintro vs L ⟨s, A, a, b, c, u, t, rfl, rfl, hu, hu2, ht, ht2⟩
  refine ⟨rfl, fun G hG => ?_⟩
  have fin : ∀ o : Int32, o = 0 ∨ o = 1 → o = p_mez (A 8) (s 15) (s 17) a b c → (o = 0 ∨ o = 1) ∧ s_PP (some .boolean) true c_X6_ends.2.2.2.2.2 [.ref 0, .int a, .int b, .int c] (mdW s A) (some (.int o)) (mdW s A) := fun o h01 ho => ⟨h01, rfl, by rw [ho]; rfl, fun _ => rfl⟩
  have ex : ∀ k : Nat, s 17 + nI k = nI (u + k) := fun k => by rw [hu, nI_add]
  refine hG 0 _ _ _ (And.intro ⟨s, A, _, u + 3, t, rfl, rfl, ex 3, by omega, ht, ht2⟩ ?_)
  intro r hr
  obtain ⟨x1, hx1⟩ : ∃ x, x = p_mlk (A 8) (s 15) (s 17 + 3) := ⟨_, rfl⟩
  obtain rfl : r = some (.int x1) := by rw [hx1]; exact hr
  refine And.intro (fun h1 => ?_) (fun h1 => ?_)
  · have h1 : x1 = a := h1
    refine And.intro (fun h2 => ?_) (fun h2 => ?_)
    · have h2 : b = 0 := h2
      refine And.intro (fun h4 => ?_) (fun h4 => ?_)
      · have h4 : c = 0 := h4
        exact fin _ (Or.inr rfl) (by rw [p_mez, ← hx1, if_pos h1, if_pos h2, p_mez1, if_pos h4])
      · have h4 : ¬ c = 0 := h4
        refine And.intro ⟨s, A, _, u + 5, t, rfl, rfl, ex 5, by omega, ht, ht2⟩ ?_
        intro r hr
        obtain ⟨x3, hx3⟩ : ∃ x, x = p_mlk (A 8) (s 15) (s 17 + 5) := ⟨_, rfl⟩
        obtain rfl : r = some (.int x3) := by rw [hx3]; exact hr
        refine And.intro (fun h5 => ?_) (fun h5 => ?_)
        · have h5 : x3 = c := h5
          exact fin _ (Or.inr rfl) (by rw [p_mez, ← hx1, if_pos h1, if_pos h2, p_mez1, if_neg h4, ← hx3, if_pos h5])
        · have h5 : ¬ x3 = c := h5
          exact fin _ (Or.inl rfl) (by rw [p_mez, ← hx1, if_pos h1, if_pos h2, p_mez1, if_neg h4, ← hx3, if_neg h5])
    · have h2 : ¬ b = 0 := h2
      refine And.intro ⟨s, A, _, u + 4, t, rfl, rfl, ex 4, by omega, ht, ht2⟩ ?_
      intro r hr
      obtain ⟨x2, hx2⟩ : ∃ x, x = p_mlk (A 8) (s 15) (s 17 + 4) := ⟨_, rfl⟩
      obtain rfl : r = some (.int x2) := by rw [hx2]; exact hr
      refine And.intro (fun h3 => ?_) (fun h3 => ?_)
      · have h3 : x2 = b := h3
        refine And.intro (fun h4 => ?_) (fun h4 => ?_)
        · have h4 : c = 0 := h4
          exact fin _ (Or.inr rfl) (by rw [p_mez, ← hx1, if_pos h1, if_neg h2, ← hx2, if_pos h3, p_mez1, if_pos h4])
        · have h4 : ¬ c = 0 := h4
          refine And.intro ⟨s, A, _, u + 5, t, rfl, rfl, ex 5, by omega, ht, ht2⟩ ?_
          intro r hr
          obtain ⟨x3, hx3⟩ : ∃ x, x = p_mlk (A 8) (s 15) (s 17 + 5) := ⟨_, rfl⟩
          obtain rfl : r = some (.int x3) := by rw [hx3]; exact hr
          refine And.intro (fun h5 => ?_) (fun h5 => ?_)
          · have h5 : x3 = c := h5
            exact fin _ (Or.inr rfl) (by rw [p_mez, ← hx1, if_pos h1, if_neg h2, ← hx2, if_pos h3, p_mez1, if_neg h4, ← hx3, if_pos h5])
          · have h5 : ¬ x3 = c := h5
            exact fin _ (Or.inl rfl) (by rw [p_mez, ← hx1, if_pos h1, if_neg h2, ← hx2, if_pos h3, p_mez1, if_neg h4, ← hx3, if_neg h5])
      · have h3 : ¬ x2 = b := h3
        exact fin _ (Or.inl rfl) (by rw [p_mez, ← hx1, if_pos h1, if_neg h2, ← hx2, if_neg h3])
  · have h1 : ¬ x1 = a := h1
    exact fin _ (Or.inl rfl) (by rw [p_mez, ← hx1, if_neg h1])
