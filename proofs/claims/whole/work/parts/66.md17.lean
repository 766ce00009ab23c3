/-! ===== WishClerkModel: which line, which kind ===== -/
def p_mwd (ta : Nat → Int32) (ln e u len a b c x y z : Int32) : Int32 := if p_miz ta ln e u len a b c = 0 then 0 else p_mez ta ln u x y z
def p_mln (ta : Nat → Int32) (ln e u : Int32) : Int32 := (if p_miz ta ln e u 3 111 110 101 = 0 then (if p_mwd ta ln e u 4 119 105 115 104 0 0 = 0 then (if p_mwd ta ln e u 5 110 101 101 100 115 0 = 0 then (if p_mwd ta ln e u 5 99 108 97 115 104 0 = 0 then (if p_mwd ta ln e u 4 108 105 115 116 0 0 = 0 then (if p_mwd ta ln e u 5 100 101 112 116 104 0 = 0 then (if p_mwd ta ln e u 4 112 108 97 110 0 0 = 0 then -4 else 6) else 5) else 4) else 3) else 2) else 1) else 0)
def c_X6_lineNow : sCtr := ((yX6_lineNow, cX6_lineNow, 1, (some .int)), (7, 0, 2, 45), true,
  mdfp,
  fun vs L => ∃ (s : Nat → Int32) (A : Nat → Nat → Int32) (u t : Nat), vs = [.ref 0] ∧ L = mdW s A ∧ s 17 = nI u ∧ u ≤ 200 ∧ s 15 = nI t ∧ t ≤ 160,
  fun _ L r _ => r = some (.int (p_mln (bF L 8) (oI L 0 15) (oI L 0 16) (oI L 0 17))))
theorem sta_X6_lineNow : s_Sta c_X6_lineNow := ⟨⟨by decide +kernel, by decide +kernel, by decide +kernel⟩, List.mem_of_getElem? (i := 955) (by decide +kernel), List.mem_of_getElem? (i := 70) (by decide +kernel), ⟨List.mem_of_getElem? (i := 954) (by decide +kernel), List.mem_of_getElem? (i := 33) (by decide +kernel), Or.inl ⟨_, rfl, rfl⟩⟩⟩

def k_X6_lineNow : List sBk := [
  (0, false, [true], [o0 0 (.aload_n 0), oK 1 (.iconst 3) (.int 3), oK 2 (.bipush 111) (.int 111), oK 4 (.bipush 110) (.int 110), oK 6 (.bipush 101) (.int 101), oC 8 (.invokevirtual 113) [956] c_X6_is, oN 11 (.ifCond .eq 5) [1], oK 14 (.iconst 0) (.int 0), o0 15 .ireturn]),
  (16, false, [true], [o0 16 (.aload_n 0), oK 17 (.iconst 4) (.int 4), oK 18 (.bipush 119) (.int 119), oK 20 (.bipush 105) (.int 105), oK 22 (.bipush 115) (.int 115), oC 24 (.invokevirtual 113) [956] c_X6_is, oN 27 (.ifCond .eq 16) [2], o0 30 (.aload_n 0), oK 31 (.bipush 104) (.int 104), oK 33 (.iconst 0) (.int 0), oK 34 (.iconst 0) (.int 0), oC 35 (.invokevirtual 117) [960] c_X6_ends, oN 38 (.ifCond .eq 5) [2], oK 41 (.iconst 1) (.int 1), o0 42 .ireturn]),
  (43, false, [true], [o0 43 (.aload_n 0), oK 44 (.iconst 5) (.int 5), oK 45 (.bipush 110) (.int 110), oK 47 (.bipush 101) (.int 101), oK 49 (.bipush 101) (.int 101), oC 51 (.invokevirtual 113) [956] c_X6_is, oN 54 (.ifCond .eq 17) [3], o0 57 (.aload_n 0), oK 58 (.bipush 100) (.int 100), oK 60 (.bipush 115) (.int 115), oK 62 (.iconst 0) (.int 0), oC 63 (.invokevirtual 117) [960] c_X6_ends, oN 66 (.ifCond .eq 5) [3], oK 69 (.iconst 2) (.int 2), o0 70 .ireturn]),
  (71, false, [true], [o0 71 (.aload_n 0), oK 72 (.iconst 5) (.int 5), oK 73 (.bipush 99) (.int 99), oK 75 (.bipush 108) (.int 108), oK 77 (.bipush 97) (.int 97), oC 79 (.invokevirtual 113) [956] c_X6_is, oN 82 (.ifCond .eq 17) [4], o0 85 (.aload_n 0), oK 86 (.bipush 115) (.int 115), oK 88 (.bipush 104) (.int 104), oK 90 (.iconst 0) (.int 0), oC 91 (.invokevirtual 117) [960] c_X6_ends, oN 94 (.ifCond .eq 5) [4], oK 97 (.iconst 3) (.int 3), o0 98 .ireturn]),
  (99, false, [true], [o0 99 (.aload_n 0), oK 100 (.iconst 4) (.int 4), oK 101 (.bipush 108) (.int 108), oK 103 (.bipush 105) (.int 105), oK 105 (.bipush 115) (.int 115), oC 107 (.invokevirtual 113) [956] c_X6_is, oN 110 (.ifCond .eq 16) [5], o0 113 (.aload_n 0), oK 114 (.bipush 116) (.int 116), oK 116 (.iconst 0) (.int 0), oK 117 (.iconst 0) (.int 0), oC 118 (.invokevirtual 117) [960] c_X6_ends, oN 121 (.ifCond .eq 5) [5], oK 124 (.iconst 4) (.int 4), o0 125 .ireturn]),
  (126, false, [true], [o0 126 (.aload_n 0), oK 127 (.iconst 5) (.int 5), oK 128 (.bipush 100) (.int 100), oK 130 (.bipush 101) (.int 101), oK 132 (.bipush 112) (.int 112), oC 134 (.invokevirtual 113) [956] c_X6_is, oN 137 (.ifCond .eq 19) [6], o0 140 (.aload_n 0), oK 141 (.bipush 116) (.int 116), oK 143 (.bipush 104) (.int 104), oK 145 (.iconst 0) (.int 0), oC 146 (.invokevirtual 117) [960] c_X6_ends, oN 149 (.ifCond .eq 7) [6], oK 152 (.iconst 5) (.int 5), oN 153 (.goto 35) [8]]),
  (156, false, [true], [o0 156 (.aload_n 0), oK 157 (.iconst 4) (.int 4), oK 158 (.bipush 112) (.int 112), oK 160 (.bipush 108) (.int 108), oK 162 (.bipush 97) (.int 97), oC 164 (.invokevirtual 113) [956] c_X6_is, oN 167 (.ifCond .eq 19) [7], o0 170 (.aload_n 0), oK 171 (.bipush 110) (.int 110), oK 173 (.iconst 0) (.int 0), oK 174 (.iconst 0) (.int 0), oC 175 (.invokevirtual 117) [960] c_X6_ends, oN 178 (.ifCond .eq 8) [7], oK 181 (.bipush 6) (.int 6), oN 183 (.goto 5) [8]]),
  (186, false, [false], [oK 186 (.bipush (-4)) (.int (-4)), oN 188 .nop [8]]),
  (188, false, [false], [o0 188 .ireturn])]
set_option maxRecDepth 100000 in
theorem ck_X6_lineNow : s_ck RX6 cX6_lineNow 1 2 45 k_X6_lineNow = true := by decide +kernel

set_option maxRecDepth 100000 in
set_option maxHeartbeats 1000000 in
theorem ok_X6_lineNow : s_Ok c_X6_lineNow := by
  refine s_ok_of k_X6_lineNow (by decide +kernel) sta_X6_lineNow ck_X6_lineNow (And.intro ok_X6_is (And.intro ok_X6_is (And.intro ok_X6_ends (And.intro ok_X6_is (And.intro ok_X6_ends (And.intro ok_X6_is (And.intro ok_X6_ends (And.intro ok_X6_is (And.intro ok_X6_ends (And.intro ok_X6_is (And.intro ok_X6_ends (And.intro ok_X6_is (And.intro ok_X6_ends trivial))))))))))))) ?_
  rintro vs L ⟨s, A, u, t, rfl, rfl, hu, hu2, ht, ht2⟩
  refine ⟨rfl, fun G hG => ?_⟩
  have fin : ∀ o : Int32, o = p_mln (A 8) (s 15) (s 16) (s 17) → s_PP (some .int) true c_X6_lineNow.2.2.2.2.2 [.ref 0] (mdW s A) (some (.int o)) (mdW s A) := fun o ho => ⟨rfl, by rw [ho]; rfl, fun _ => rfl⟩
  refine hG 0 _ _ _ ?_
  refine And.intro ⟨s, A, _, _, _, _, u, t, rfl, rfl, hu, hu2, ht, ht2⟩ ?_
  intro r hr
  obtain ⟨i0, hi0⟩ : ∃ x, x = p_miz (A 8) (s 15) (s 16) (s 17) 3 111 110 101 := ⟨_, rfl⟩
  obtain rfl : r = some (.int i0) := by rw [hi0]; exact hr
  by_cases h0 : i0 = 0
  rotate_left
  · refine And.intro (fun q => absurd q h0) (fun _ => ?_)
    exact fin _ (by rw [p_mln, ← hi0, if_neg h0])
  refine And.intro (fun _ => ?_) (fun q => absurd h0 q)
  refine And.intro ⟨s, A, _, _, _, _, u, t, rfl, rfl, hu, hu2, ht, ht2⟩ ?_
  intro r hr
  obtain ⟨i1, hi1⟩ : ∃ x, x = p_miz (A 8) (s 15) (s 16) (s 17) 4 119 105 115 := ⟨_, rfl⟩
  obtain rfl : r = some (.int i1) := by rw [hi1]; exact hr
  obtain ⟨j1, hj1⟩ : ∃ x, x = p_mez (A 8) (s 15) (s 17) 104 0 0 := ⟨_, rfl⟩
  have d1 : p_mwd (A 8) (s 15) (s 16) (s 17) 4 119 105 115 104 0 0 = if i1 = 0 then 0 else j1 := by rw [p_mwd, ← hi1, ← hj1]
  refine s_let (fun (cont : p_mwd (A 8) (s 15) (s 16) (s 17) 4 119 105 115 104 0 0 = 0 → _) => And.intro (fun q => cont (by rw [d1, if_pos q])) (fun q => ?_)) (fun w1 => ?_)
  · refine And.intro ⟨s, A, _, _, _, u, t, rfl, rfl, hu, hu2, ht, ht2⟩ ?_
    intro r hr
    obtain rfl : r = some (.int j1) := by rw [hj1]; exact hr
    refine And.intro (fun q2 => cont ?_) (fun q2 => ?_)
    · have q : ¬ i1 = 0 := q
      have q2 : j1 = 0 := q2
      rw [d1, if_neg q, q2]
    · have q : ¬ i1 = 0 := q
      have q2 : ¬ j1 = 0 := q2
      exact fin _ (by rw [p_mln, ← hi0, if_pos h0, if_neg (by rw [d1, if_neg q]; exact q2)])
  refine And.intro ⟨s, A, _, _, _, _, u, t, rfl, rfl, hu, hu2, ht, ht2⟩ ?_
  intro r hr
  obtain ⟨i2, hi2⟩ : ∃ x, x = p_miz (A 8) (s 15) (s 16) (s 17) 5 110 101 101 := ⟨_, rfl⟩
  obtain rfl : r = some (.int i2) := by rw [hi2]; exact hr
  obtain ⟨j2, hj2⟩ : ∃ x, x = p_mez (A 8) (s 15) (s 17) 100 115 0 := ⟨_, rfl⟩
  have d2 : p_mwd (A 8) (s 15) (s 16) (s 17) 5 110 101 101 100 115 0 = if i2 = 0 then 0 else j2 := by rw [p_mwd, ← hi2, ← hj2]
  refine s_let (fun (cont : p_mwd (A 8) (s 15) (s 16) (s 17) 5 110 101 101 100 115 0 = 0 → _) => And.intro (fun q => cont (by rw [d2, if_pos q])) (fun q => ?_)) (fun w2 => ?_)
  · refine And.intro ⟨s, A, _, _, _, u, t, rfl, rfl, hu, hu2, ht, ht2⟩ ?_
    intro r hr
    obtain rfl : r = some (.int j2) := by rw [hj2]; exact hr
    refine And.intro (fun q2 => cont ?_) (fun q2 => ?_)
    · have q : ¬ i2 = 0 := q
      have q2 : j2 = 0 := q2
      rw [d2, if_neg q, q2]
    · have q : ¬ i2 = 0 := q
      have q2 : ¬ j2 = 0 := q2
      exact fin _ (by rw [p_mln, ← hi0, if_pos h0, if_pos w1, if_neg (by rw [d2, if_neg q]; exact q2)])
  refine And.intro ⟨s, A, _, _, _, _, u, t, rfl, rfl, hu, hu2, ht, ht2⟩ ?_
  intro r hr
  obtain ⟨i3, hi3⟩ : ∃ x, x = p_miz (A 8) (s 15) (s 16) (s 17) 5 99 108 97 := ⟨_, rfl⟩
  obtain rfl : r = some (.int i3) := by rw [hi3]; exact hr
  obtain ⟨j3, hj3⟩ : ∃ x, x = p_mez (A 8) (s 15) (s 17) 115 104 0 := ⟨_, rfl⟩
  have d3 : p_mwd (A 8) (s 15) (s 16) (s 17) 5 99 108 97 115 104 0 = if i3 = 0 then 0 else j3 := by rw [p_mwd, ← hi3, ← hj3]
  refine s_let (fun (cont : p_mwd (A 8) (s 15) (s 16) (s 17) 5 99 108 97 115 104 0 = 0 → _) => And.intro (fun q => cont (by rw [d3, if_pos q])) (fun q => ?_)) (fun w3 => ?_)
  · refine And.intro ⟨s, A, _, _, _, u, t, rfl, rfl, hu, hu2, ht, ht2⟩ ?_
    intro r hr
    obtain rfl : r = some (.int j3) := by rw [hj3]; exact hr
    refine And.intro (fun q2 => cont ?_) (fun q2 => ?_)
    · have q : ¬ i3 = 0 := q
      have q2 : j3 = 0 := q2
      rw [d3, if_neg q, q2]
    · have q : ¬ i3 = 0 := q
      have q2 : ¬ j3 = 0 := q2
      exact fin _ (by rw [p_mln, ← hi0, if_pos h0, if_pos w1, if_pos w2, if_neg (by rw [d3, if_neg q]; exact q2)])
  refine And.intro ⟨s, A, _, _, _, _, u, t, rfl, rfl, hu, hu2, ht, ht2⟩ ?_
  intro r hr
  obtain ⟨i4, hi4⟩ : ∃ x, x = p_miz (A 8) (s 15) (s 16) (s 17) 4 108 105 115 := ⟨_, rfl⟩
  obtain rfl : r = some (.int i4) := by rw [hi4]; exact hr
  obtain ⟨j4, hj4⟩ : ∃ x, x = p_mez (A 8) (s 15) (s 17) 116 0 0 := ⟨_, rfl⟩
  have d4 : p_mwd (A 8) (s 15) (s 16) (s 17) 4 108 105 115 116 0 0 = if i4 = 0 then 0 else j4 := by rw [p_mwd, ← hi4, ← hj4]
  refine s_let (fun (cont : p_mwd (A 8) (s 15) (s 16) (s 17) 4 108 105 115 116 0 0 = 0 → _) => And.intro (fun q => cont (by rw [d4, if_pos q])) (fun q => ?_)) (fun w4 => ?_)
  · refine And.intro ⟨s, A, _, _, _, u, t, rfl, rfl, hu, hu2, ht, ht2⟩ ?_
    intro r hr
    obtain rfl : r = some (.int j4) := by rw [hj4]; exact hr
    refine And.intro (fun q2 => cont ?_) (fun q2 => ?_)
    · have q : ¬ i4 = 0 := q
      have q2 : j4 = 0 := q2
      rw [d4, if_neg q, q2]
    · have q : ¬ i4 = 0 := q
      have q2 : ¬ j4 = 0 := q2
      exact fin _ (by rw [p_mln, ← hi0, if_pos h0, if_pos w1, if_pos w2, if_pos w3, if_neg (by rw [d4, if_neg q]; exact q2)])
  refine And.intro ⟨s, A, _, _, _, _, u, t, rfl, rfl, hu, hu2, ht, ht2⟩ ?_
  intro r hr
  obtain ⟨i5, hi5⟩ : ∃ x, x = p_miz (A 8) (s 15) (s 16) (s 17) 5 100 101 112 := ⟨_, rfl⟩
  obtain rfl : r = some (.int i5) := by rw [hi5]; exact hr
  obtain ⟨j5, hj5⟩ : ∃ x, x = p_mez (A 8) (s 15) (s 17) 116 104 0 := ⟨_, rfl⟩
  have d5 : p_mwd (A 8) (s 15) (s 16) (s 17) 5 100 101 112 116 104 0 = if i5 = 0 then 0 else j5 := by rw [p_mwd, ← hi5, ← hj5]
  refine s_let (fun (cont : p_mwd (A 8) (s 15) (s 16) (s 17) 5 100 101 112 116 104 0 = 0 → _) => And.intro (fun q => cont (by rw [d5, if_pos q])) (fun q => ?_)) (fun w5 => ?_)
  · refine And.intro ⟨s, A, _, _, _, u, t, rfl, rfl, hu, hu2, ht, ht2⟩ ?_
    intro r hr
    obtain rfl : r = some (.int j5) := by rw [hj5]; exact hr
    refine And.intro (fun q2 => cont ?_) (fun q2 => ?_)
    · have q : ¬ i5 = 0 := q
      have q2 : j5 = 0 := q2
      rw [d5, if_neg q, q2]
    · have q : ¬ i5 = 0 := q
      have q2 : ¬ j5 = 0 := q2
      exact fin _ (by rw [p_mln, ← hi0, if_pos h0, if_pos w1, if_pos w2, if_pos w3, if_pos w4, if_neg (by rw [d5, if_neg q]; exact q2)])
  refine And.intro ⟨s, A, _, _, _, _, u, t, rfl, rfl, hu, hu2, ht, ht2⟩ ?_
  intro r hr
  obtain ⟨i6, hi6⟩ : ∃ x, x = p_miz (A 8) (s 15) (s 16) (s 17) 4 112 108 97 := ⟨_, rfl⟩
  obtain rfl : r = some (.int i6) := by rw [hi6]; exact hr
  obtain ⟨j6, hj6⟩ : ∃ x, x = p_mez (A 8) (s 15) (s 17) 110 0 0 := ⟨_, rfl⟩
  have d6 : p_mwd (A 8) (s 15) (s 16) (s 17) 4 112 108 97 110 0 0 = if i6 = 0 then 0 else j6 := by rw [p_mwd, ← hi6, ← hj6]
  refine s_let (fun (cont : p_mwd (A 8) (s 15) (s 16) (s 17) 4 112 108 97 110 0 0 = 0 → _) => And.intro (fun q => cont (by rw [d6, if_pos q])) (fun q => ?_)) (fun w6 => ?_)
  · refine And.intro ⟨s, A, _, _, _, u, t, rfl, rfl, hu, hu2, ht, ht2⟩ ?_
    intro r hr
    obtain rfl : r = some (.int j6) := by rw [hj6]; exact hr
    refine And.intro (fun q2 => cont ?_) (fun q2 => ?_)
    · have q : ¬ i6 = 0 := q
      have q2 : j6 = 0 := q2
      rw [d6, if_neg q, q2]
    · have q : ¬ i6 = 0 := q
      have q2 : ¬ j6 = 0 := q2
      exact fin _ (by rw [p_mln, ← hi0, if_pos h0, if_pos w1, if_pos w2, if_pos w3, if_pos w4, if_pos w5, if_neg (by rw [d6, if_neg q]; exact q2)])
  exact fin _ (by rw [p_mln, ← hi0, if_pos h0, if_pos w1, if_pos w2, if_pos w3, if_pos w4, if_pos w5, if_pos w6])
def p_mkn (ta : Nat → Int32) (ln e u : Int32) : Int32 := (if p_mwd ta ln e u 5 97 108 105 118 101 0 = 0 then (if p_mwd ta ln e u 4 100 101 97 100 0 0 = 0 then (if p_mwd ta ln e u 6 98 97 114 114 101 100 = 0 then -4 else 2) else 1) else 0)
def c_X6_kindNow : sCtr := ((yX6_kindNow, cX6_kindNow, 1, (some .int)), (7, 0, 2, 45), true,
  mdfp,
  fun vs L => ∃ (s : Nat → Int32) (A : Nat → Nat → Int32) (u t : Nat), vs = [.ref 0] ∧ L = mdW s A ∧ s 17 = nI u ∧ u ≤ 200 ∧ s 15 = nI t ∧ t ≤ 160,
  fun _ L r _ => r = some (.int (p_mkn (bF L 8) (oI L 0 15) (oI L 0 16) (oI L 0 17))))
theorem sta_X6_kindNow : s_Sta c_X6_kindNow := ⟨⟨by decide +kernel, by decide +kernel, by decide +kernel⟩, List.mem_of_getElem? (i := 975) (by decide +kernel), List.mem_of_getElem? (i := 70) (by decide +kernel), ⟨List.mem_of_getElem? (i := 974) (by decide +kernel), List.mem_of_getElem? (i := 38) (by decide +kernel), Or.inl ⟨_, rfl, rfl⟩⟩⟩

def k_X6_kindNow : List sBk := [
  (0, false, [true], [o0 0 (.aload_n 0), oK 1 (.iconst 5) (.int 5), oK 2 (.bipush 97) (.int 97), oK 4 (.bipush 108) (.int 108), oK 6 (.bipush 105) (.int 105), oC 8 (.invokevirtual 113) [956] c_X6_is, oN 11 (.ifCond .eq 17) [1], o0 14 (.aload_n 0), oK 15 (.bipush 118) (.int 118), oK 17 (.bipush 101) (.int 101), oK 19 (.iconst 0) (.int 0), oC 20 (.invokevirtual 117) [960] c_X6_ends, oN 23 (.ifCond .eq 5) [1], oK 26 (.iconst 0) (.int 0), o0 27 .ireturn]),
  (28, false, [true], [o0 28 (.aload_n 0), oK 29 (.iconst 4) (.int 4), oK 30 (.bipush 100) (.int 100), oK 32 (.bipush 101) (.int 101), oK 34 (.bipush 97) (.int 97), oC 36 (.invokevirtual 113) [956] c_X6_is, oN 39 (.ifCond .eq 18) [2], o0 42 (.aload_n 0), oK 43 (.bipush 100) (.int 100), oK 45 (.iconst 0) (.int 0), oK 46 (.iconst 0) (.int 0), oC 47 (.invokevirtual 117) [960] c_X6_ends, oN 50 (.ifCond .eq 7) [2], oK 53 (.iconst 1) (.int 1), oN 54 (.goto 37) [4]]),
  (57, false, [true], [o0 57 (.aload_n 0), oK 58 (.bipush 6) (.int 6), oK 60 (.bipush 98) (.int 98), oK 62 (.bipush 97) (.int 97), oK 64 (.bipush 114) (.int 114), oC 66 (.invokevirtual 113) [956] c_X6_is, oN 69 (.ifCond .eq 20) [3], o0 72 (.aload_n 0), oK 73 (.bipush 114) (.int 114), oK 75 (.bipush 101) (.int 101), oK 77 (.bipush 100) (.int 100), oC 79 (.invokevirtual 117) [960] c_X6_ends, oN 82 (.ifCond .eq 7) [3], oK 85 (.iconst 2) (.int 2), oN 86 (.goto 5) [4]]),
  (89, false, [false], [oK 89 (.bipush (-4)) (.int (-4)), oN 91 .nop [4]]),
  (91, false, [false], [o0 91 .ireturn])]
set_option maxRecDepth 100000 in
theorem ck_X6_kindNow : s_ck RX6 cX6_kindNow 1 2 45 k_X6_kindNow = true := by decide +kernel

set_option maxRecDepth 100000 in
set_option maxHeartbeats 1000000 in
theorem ok_X6_kindNow : s_Ok c_X6_kindNow := by
  refine s_ok_of k_X6_kindNow (by decide +kernel) sta_X6_kindNow ck_X6_kindNow (And.intro ok_X6_is (And.intro ok_X6_ends (And.intro ok_X6_is (And.intro ok_X6_ends (And.intro ok_X6_is (And.intro ok_X6_ends trivial)))))) ?_
  rintro vs L ⟨s, A, u, t, rfl, rfl, hu, hu2, ht, ht2⟩
  refine ⟨rfl, fun G hG => ?_⟩
  have fin : ∀ o : Int32, o = p_mkn (A 8) (s 15) (s 16) (s 17) → s_PP (some .int) true c_X6_kindNow.2.2.2.2.2 [.ref 0] (mdW s A) (some (.int o)) (mdW s A) := fun o ho => ⟨rfl, by rw [ho]; rfl, fun _ => rfl⟩
  refine hG 0 _ _ _ ?_
  refine And.intro ⟨s, A, _, _, _, _, u, t, rfl, rfl, hu, hu2, ht, ht2⟩ ?_
  intro r hr
  obtain ⟨i1, hi1⟩ : ∃ x, x = p_miz (A 8) (s 15) (s 16) (s 17) 5 97 108 105 := ⟨_, rfl⟩
  obtain rfl : r = some (.int i1) := by rw [hi1]; exact hr
  obtain ⟨j1, hj1⟩ : ∃ x, x = p_mez (A 8) (s 15) (s 17) 118 101 0 := ⟨_, rfl⟩
  have d1 : p_mwd (A 8) (s 15) (s 16) (s 17) 5 97 108 105 118 101 0 = if i1 = 0 then 0 else j1 := by rw [p_mwd, ← hi1, ← hj1]
  refine s_let (fun (cont : p_mwd (A 8) (s 15) (s 16) (s 17) 5 97 108 105 118 101 0 = 0 → _) => And.intro (fun q => cont (by rw [d1, if_pos q])) (fun q => ?_)) (fun w1 => ?_)
  · refine And.intro ⟨s, A, _, _, _, u, t, rfl, rfl, hu, hu2, ht, ht2⟩ ?_
    intro r hr
    obtain rfl : r = some (.int j1) := by rw [hj1]; exact hr
    refine And.intro (fun q2 => cont ?_) (fun q2 => ?_)
    · have q : ¬ i1 = 0 := q
      have q2 : j1 = 0 := q2
      rw [d1, if_neg q, q2]
    · have q : ¬ i1 = 0 := q
      have q2 : ¬ j1 = 0 := q2
      exact fin _ (by rw [p_mkn, if_neg (by rw [d1, if_neg q]; exact q2)])
  refine And.intro ⟨s, A, _, _, _, _, u, t, rfl, rfl, hu, hu2, ht, ht2⟩ ?_
  intro r hr
  obtain ⟨i2, hi2⟩ : ∃ x, x = p_miz (A 8) (s 15) (s 16) (s 17) 4 100 101 97 := ⟨_, rfl⟩
  obtain rfl : r = some (.int i2) := by rw [hi2]; exact hr
  obtain ⟨j2, hj2⟩ : ∃ x, x = p_mez (A 8) (s 15) (s 17) 100 0 0 := ⟨_, rfl⟩
  have d2 : p_mwd (A 8) (s 15) (s 16) (s 17) 4 100 101 97 100 0 0 = if i2 = 0 then 0 else j2 := by rw [p_mwd, ← hi2, ← hj2]
  refine s_let (fun (cont : p_mwd (A 8) (s 15) (s 16) (s 17) 4 100 101 97 100 0 0 = 0 → _) => And.intro (fun q => cont (by rw [d2, if_pos q])) (fun q => ?_)) (fun w2 => ?_)
  · refine And.intro ⟨s, A, _, _, _, u, t, rfl, rfl, hu, hu2, ht, ht2⟩ ?_
    intro r hr
    obtain rfl : r = some (.int j2) := by rw [hj2]; exact hr
    refine And.intro (fun q2 => cont ?_) (fun q2 => ?_)
    · have q : ¬ i2 = 0 := q
      have q2 : j2 = 0 := q2
      rw [d2, if_neg q, q2]
    · have q : ¬ i2 = 0 := q
      have q2 : ¬ j2 = 0 := q2
      exact fin _ (by rw [p_mkn, if_pos w1, if_neg (by rw [d2, if_neg q]; exact q2)])
  refine And.intro ⟨s, A, _, _, _, _, u, t, rfl, rfl, hu, hu2, ht, ht2⟩ ?_
  intro r hr
  obtain ⟨i3, hi3⟩ : ∃ x, x = p_miz (A 8) (s 15) (s 16) (s 17) 6 98 97 114 := ⟨_, rfl⟩
  obtain rfl : r = some (.int i3) := by rw [hi3]; exact hr
  obtain ⟨j3, hj3⟩ : ∃ x, x = p_mez (A 8) (s 15) (s 17) 114 101 100 := ⟨_, rfl⟩
  have d3 : p_mwd (A 8) (s 15) (s 16) (s 17) 6 98 97 114 114 101 100 = if i3 = 0 then 0 else j3 := by rw [p_mwd, ← hi3, ← hj3]
  refine s_let (fun (cont : p_mwd (A 8) (s 15) (s 16) (s 17) 6 98 97 114 114 101 100 = 0 → _) => And.intro (fun q => cont (by rw [d3, if_pos q])) (fun q => ?_)) (fun w3 => ?_)
  · refine And.intro ⟨s, A, _, _, _, u, t, rfl, rfl, hu, hu2, ht, ht2⟩ ?_
    intro r hr
    obtain rfl : r = some (.int j3) := by rw [hj3]; exact hr
    refine And.intro (fun q2 => cont ?_) (fun q2 => ?_)
    · have q : ¬ i3 = 0 := q
      have q2 : j3 = 0 := q2
      rw [d3, if_neg q, q2]
    · have q : ¬ i3 = 0 := q
      have q2 : ¬ j3 = 0 := q2
      exact fin _ (by rw [p_mkn, if_pos w1, if_pos w2, if_neg (by rw [d3, if_neg q]; exact q2)])
  exact fin _ (by rw [p_mkn, if_pos w1, if_pos w2, if_pos w3])
