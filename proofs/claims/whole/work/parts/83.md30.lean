/-! ===== WishClerkModel: readLine ===== -/
def zk8 (x : zT) : Int32 × Int32 × Int32 × Int32 × Int32 × (Nat → Int32) × (Nat → Int32) × (Nat → Int32) := (z_dP x, z_dW x, z_hD x, z_h1 x, z_hW x, z_dr x, z_dy x, z_dq x)
theorem x_mu_k (x : zT) (b f : Int32) : zk8 (x_mu x b f) = zk8 x := by
  unfold x_mu
  split
  · split <;> rfl
  · rfl
theorem x_nx_k (ta : Nat → Int32) (ln : Int32) (x : zT) : zk8 (x_nx ta ln x) = zk8 x := by
  unfold x_nx
  split
  · rfl
  obtain ⟨u, hu⟩ : ∃ u, u = p_ru ta ln 32 32 161 (z_po x).toNatClampNeg := ⟨_, rfl⟩
  rw [← hu]
  unfold x_n1
  split
  · rfl
  split
  · split
    · have k := x_mu_k (x_n3 x u u 3) (if p_mlk ta ln (nI u) = 59 then 1 else 0) 1
      obtain ⟨y, hy⟩ : ∃ y, y = x_mu (x_n3 x u u 3) (if p_mlk ta ln (nI u) = 59 then 1 else 0) 1 := ⟨_, rfl⟩
      rw [← hy] at k ⊢
      exact k
    · rw [x_mu_k]; rfl
  · rfl
def r_ln (ta : Nat → Int32) (ln : Int32) (x : zT) : Int32 := if z_so x = 1 then p_mln ta ln (z_po x) (z_fr x) else -4
theorem r_ln_6 (ta : Nat → Int32) (ln : Int32) (x : zT) : r_ln ta ln x = -4 ∨ ∃ c : Nat, c ≤ 6 ∧ r_ln ta ln x = nI c := by
  unfold r_ln
  split
  · unfold p_mln
    split
    · split
      · split
        · split
          · split
            · split
              · split
                · exact Or.inl rfl
                · exact Or.inr ⟨6, by decide, rfl⟩
              · exact Or.inr ⟨5, by decide, rfl⟩
            · exact Or.inr ⟨4, by decide, rfl⟩
          · exact Or.inr ⟨3, by decide, rfl⟩
        · exact Or.inr ⟨2, by decide, rfl⟩
      · exact Or.inr ⟨1, by decide, rfl⟩
    · exact Or.inr ⟨0, by decide, rfl⟩
  · exact Or.inl rfl
def r_full (k : Int32) (x : zT) : Int32 := if k = 0 ∧ z_dP x = 8 then 1 else if k = 1 ∧ z_dW x = 8 then 1 else if k = 6 ∧ z_dr x 29 = 6 then 1 else 0
def x_l1 (k : Int32) (x : zT) : zT := x_mu x (if k = -4 then 0 else 1) 2
def x_l2 (k : Int32) (x : zT) : zT := x_mu (x_l1 k x) (if r_full k x = 0 then 1 else 0) 5
def x_l3 (k : Int32) (x : zT) : zT := x_mu (x_l2 k x) (if k = 5 then (if z_hD x = 0 then 1 else 0) else 1) 4
def x_l4 (k : Int32) (x : zT) : zT := u_hD (x_l3 k x) (if z_hD x = 0 then (if k = 5 then 1 else 0) else 1)
def x_l5 (ta : Nat → Int32) (ln k : Int32) (x : zT) : zT := x_nx ta ln (x_l4 k x)
def x_l7 (y : zT) : zT := x_mu y (if z_so y = 3 then 1 else 0) 2
def x_l6 (ta : Nat → Int32) (ln k : Int32) (x : zT) : zT := if 0 < z_fa (x_l5 ta ln k x) then x_l5 ta ln k x else x_nx ta ln (x_l7 (x_lo ta ln k (x_l5 ta ln k x)))
def x_line (ta : Nat → Int32) (ln : Int32) (x : zT) : zT := x_l6 ta ln (r_ln ta ln x) x
theorem x_mu_N {x : zT} {b f : Int32} (hf : 0 < f) (h : z_fa x = 0 ∨ 0 < z_fa x) : z_fa (x_mu x b f) = 0 ∨ 0 < z_fa (x_mu x b f) := by
  unfold x_mu
  split
  · split
    · exact Or.inr hf
    · exact h
  · exact h
/-- a line that goes on past its name: nothing was wrong with it -/
theorem x_l5_ok {ta : Nat → Int32} {ln k : Int32} {x : zT} (h0 : z_fa x = 0) (h : ¬ 0 < z_fa (x_l5 ta ln k x)) : z_fa (x_l3 k x) = 0 := by
  have hN : z_fa (x_l3 k x) = 0 ∨ 0 < z_fa (x_l3 k x) := x_mu_N (by decide) (x_mu_N (by decide) (x_mu_N (by decide) (Or.inl h0)))
  rcases hN with q | q
  · exact q
  · exfalso
    apply h
    unfold x_l5 x_l4
    obtain ⟨y, hy⟩ : ∃ y, y = x_l3 k x := ⟨_, rfl⟩
    rw [← hy] at q ⊢
    rw [x_nx_f (x := u_hD y (if z_hD x = 0 then if k = 5 then 1 else 0 else 1)) _ _ q]
    exact q
theorem x_l3_ok {k : Int32} {x : zT} (h : z_fa (x_l3 k x) = 0) : ¬ k = -4 ∧ r_full k x = 0 ∧ (k = 5 → z_hD x = 0) ∧ x_l3 k x = x := by
  obtain ⟨h1, h2, h3⟩ := x_mu_ok (by decide) h
  obtain ⟨h4, h5, h6⟩ := x_mu_ok (by decide) h1
  obtain ⟨h7, h8, h9⟩ := x_mu_ok (by decide) h4
  refine ⟨?_, ?_, ?_, ?_⟩
  · intro q; rw [if_pos q] at h8; exact h8 rfl
  · by_cases q : r_full k x = 0
    · exact q
    · rw [if_neg q] at h5; exact absurd rfl h5
  · intro q
    rw [if_pos q] at h2
    by_cases q2 : z_hD x = 0
    · exact q2
    · rw [if_neg q2] at h2; exact absurd rfl h2
  · exact h3.trans (h6.trans h9)
def c_X6_readLine : sCtr := ((yX6_readLine, cX6_readLine, 3, none), (7, 0, 5, 114), false,
  mdfp,
  fun vs L => ∃ (s : Nat → Int32) (A : Nat → Nat → Int32) (x : zT) (t b m : Nat), vs = [.ref 0] ∧ L = mdZ s A x ∧ s 15 = nI t ∧ t ≤ 160 ∧ zJ x t ∧ z_fa x = 0 ∧ z_dW x = nI b ∧ b ≤ 8 ∧ z_dr x 29 = nI m ∧ m ≤ 6,
  fun _ L r L' => r = none ∧ L' = mdR L (x_line (bF L 8) (oI L 0 15) (rX L)))
theorem sta_X6_readLine : s_Sta c_X6_readLine := ⟨⟨by decide +kernel, by decide +kernel, by decide +kernel⟩, List.mem_of_getElem? (i := 951) (by decide +kernel), List.mem_of_getElem? (i := 70) (by decide +kernel), ⟨List.mem_of_getElem? (i := 950) (by decide +kernel), List.mem_of_getElem? (i := 32) (by decide +kernel), Or.inl ⟨_, rfl, rfl⟩⟩⟩

def k_X6_readLine : List sBk := [
  (0, false, [true, false, false], [o0 0 (.aload_n 0), oN 1 (.getfield 121) [6, 18, 840], oK 4 (.iconst 1) (.int 1), oN 5 (.if_icmp .ne 10) [1], o0 8 (.aload_n 0), oC 9 (.invokevirtual 172) [952] c_X6_lineNow, oN 12 (.goto 5) [2]]),
  (15, false, [true, false, false], [oK 15 (.bipush (-4)) (.int (-4)), oN 17 .nop [2]]),
  (17, true, [true, false, false], [o0 17 (.istore_n 1), o0 18 (.iload_n 1), oN 19 (.ifCond .ne 12) [3], o0 22 (.aload_n 0), oN 23 (.getfield 65) [6, 7, 829], oK 26 (.bipush 8) (.int 8), oN 28 (.if_icmp .eq 35) [5], oN 31 .nop [3]]),
  (31, true, [true, true, false], [o0 31 (.iload_n 1), oK 32 (.iconst 1) (.int 1), oN 33 (.if_icmp .ne 12) [4], o0 36 (.aload_n 0), oN 37 (.getfield 69) [6, 8, 830], oK 40 (.bipush 8) (.int 8), oN 42 (.if_icmp .eq 21) [5], oN 45 .nop [4]]),
  (45, true, [true, true, false], [o0 45 (.iload_n 1), oK 46 (.bipush 6) (.int 6), oN 48 (.if_icmp .ne 19) [6], o0 51 (.aload_n 0), oN 52 (.getfield 23) [6, 6, 828], oK 55 (.bipush 29) (.int 29), o0 57 .iaload, oK 58 (.bipush 6) (.int 6), oN 60 (.if_icmp .ne 7) [6], oN 63 .nop [5]]),
  (63, false, [true, true, false], [oK 63 (.iconst 1) (.int 1), oN 64 (.goto 4) [7]]),
  (67, false, [true, true, false], [oK 67 (.iconst 0) (.int 0), oN 68 .nop [7]]),
  (68, true, [true, true, false], [o0 68 (.istore_n 2), o0 69 (.aload_n 0), o0 70 (.iload_n 1), oK 71 (.bipush (-4)) (.int (-4)), oN 73 (.if_icmp .eq 7) [8], oK 76 (.iconst 1) (.int 1), oN 77 (.goto 4) [9]]),
  (80, false, [true, true, true], [oK 80 (.iconst 0) (.int 0), oN 81 .nop [9]]),
  (81, true, [true, true, true], [oK 81 (.iconst 2) (.int 2), oC 82 (.invokevirtual 135) [944] c_X6_must, o0 85 (.aload_n 0), o0 86 (.iload_n 2), oN 87 (.ifCond .ne 7) [10], oK 90 (.iconst 1) (.int 1), oN 91 (.goto 4) [11]]),
  (94, false, [true, true, false], [oK 94 (.iconst 0) (.int 0), oN 95 .nop [11]]),
  (95, true, [true, true, false], [oK 95 (.iconst 5) (.int 5), oC 96 (.invokevirtual 135) [944] c_X6_must, o0 99 (.aload_n 0), o0 100 (.iload_n 1), oK 101 (.iconst 5) (.int 5), oN 102 (.if_icmp .ne 10) [12], o0 105 (.aload_n 0), oN 106 (.getfield 72) [6, 11, 833], oN 109 (.ifCond .ne 7) [13], oN 112 .nop [12]]),
  (112, false, [true, true, false], [oK 112 (.iconst 1) (.int 1), oN 113 (.goto 4) [14]]),
  (116, false, [true, true, false], [oK 116 (.iconst 0) (.int 0), oN 117 .nop [14]]),
  (117, true, [true, true, false], [oK 117 (.iconst 4) (.int 4), oC 118 (.invokevirtual 135) [944] c_X6_must, o0 121 (.aload_n 0), o0 122 (.aload_n 0), oN 123 (.getfield 72) [6, 11, 833], oN 126 (.ifCond .ne 8) [15], o0 129 (.iload_n 1), oK 130 (.iconst 5) (.int 5), oN 131 (.if_icmp .ne 7) [16], oN 134 .nop [15]]),
  (134, false, [true, true, false], [oK 134 (.iconst 1) (.int 1), oN 135 (.goto 4) [17]]),
  (138, false, [true, true, false], [oK 138 (.iconst 0) (.int 0), oN 139 .nop [17]]),
  (139, true, [true, true, false], [oN 139 (.putfield 72) [6, 11, 833], o0 142 (.aload_n 0), oC 143 (.invokevirtual 143) [932] c_X6_next, o0 146 (.aload_n 0), oN 147 (.getfield 97) [6, 20, 842], oN 150 (.ifCond .le 4) [18], o0 153 .return_]),
  (154, false, [true, true, false], [o0 154 (.aload_n 0), o0 155 (.iload_n 1), oC 156 (.invokevirtual 175) [964] c_X6_readLineOf, o0 159 (.aload_n 0), oN 160 (.getfield 97) [6, 20, 842], oN 163 (.ifCond .ne 21) [21], o0 166 (.aload_n 0), o0 167 (.aload_n 0), oN 168 (.getfield 121) [6, 18, 840], oK 171 (.iconst 3) (.int 3), oN 172 (.if_icmp .ne 7) [19], oK 175 (.iconst 1) (.int 1), oN 176 (.goto 4) [20]]),
  (179, false, [true, false, false], [oK 179 (.iconst 0) (.int 0), oN 180 .nop [20]]),
  (180, true, [true, false, false], [oK 180 (.iconst 2) (.int 2), oC 181 (.invokevirtual 135) [944] c_X6_must, oN 184 .nop [21]]),
  (184, true, [true, false, false], [o0 184 (.aload_n 0), oC 185 (.invokevirtual 143) [932] c_X6_next, o0 188 .return_])]
set_option maxRecDepth 100000 in
theorem ck_X6_readLine : s_ck RX6 cX6_readLine 3 5 114 k_X6_readLine = true := by decide +kernel

set_option maxRecDepth 100000 in
set_option maxHeartbeats 4000000 in
theorem ok_X6_readLine : s_Ok c_X6_readLine := by
  refine s_ok_of k_X6_readLine (by decide +kernel) sta_X6_readLine ck_X6_readLine (And.intro ok_X6_lineNow (And.intro ok_X6_must (And.intro ok_X6_must (And.intro ok_X6_must (And.intro ok_X6_next (And.intro ok_X6_readLineOf (And.intro ok_X6_must (And.intro ok_X6_next trivial)))))))) ?_
  rintro vs L ⟨s, A, x, t, b, m, rfl, rfl, ht, ht2, hJ, hfa, hb, hb8, hm, hm6⟩
  refine ⟨rfl, fun G hG => ?_⟩
  obtain ⟨k, hk⟩ : ∃ k, k = r_ln (A 8) (s 15) x := ⟨_, rfl⟩
  have hk6 := r_ln_6 (A 8) (s 15) x
  rw [← hk] at hk6
  have fin : ∀ y, x_l6 (A 8) (s 15) k x = y → s_PP none false c_X6_readLine.2.2.2.2.2 [.ref 0] (mdZ s A x) none (mdZ s A y) := by
    intro y hy
    refine ⟨rfl, ⟨rfl, ?_⟩, fun h => by cases h⟩
    show mdZ s A y = mdR (mdZ s A x) (x_line (bF (mdZ s A x) 8) (oI (mdZ s A x) 0 15) (rX (mdZ s A x)))
    rw [zR, zM, zB8, zO15, x_line, ← hk, hy]
  have hJ3 : zJ (x_l3 k x) t := zJ_mu (zJ_mu (zJ_mu hJ _ _) _ _) _ _
  have g17 : ∀ (y : zT) (c : Int32), y = x_l3 k x → c = 0 ∨ c = 1 → c = (if z_hD x = 0 then (if k = 5 then 1 else 0) else 1) → G 17 [some (.ref 0), some (.int k), none] [.int c, .ref 0] (mdZ s A y) := by
    intro y c hy hc01 hc
    refine hG 17 _ _ _ (And.intro hc01 ?_)
    have hy4 : u_hD y c = x_l4 k x := by rw [x_l4, ← hy, ← hc]
    have hJ4 : zJ (u_hD y c) t := by
      have : zJ y t := by rw [hy]; exact hJ3
      exact this
    refine And.intro (zI_pre s A (u_hD y c) ⟨ht, ht2, hJ4.1⟩) ?_
    rintro r L' ⟨rfl, hL⟩
    replace hL : L' = mdR (mdZ s A (u_hD y c)) (x_nx (bF (mdZ s A (u_hD y c)) 8) (oI (mdZ s A (u_hD y c)) 0 15) (rX (mdZ s A (u_hD y c)))) := hL
    rw [zR, zM, zB8, zO15] at hL
    obtain ⟨y5, hy5⟩ : ∃ q, q = x_nx (A 8) (s 15) (u_hD y c) := ⟨_, rfl⟩
    rw [← hy5] at hL
    subst hL
    have h5 : y5 = x_l5 (A 8) (s 15) k x := by rw [hy5, hy4, x_l5]
    have hJ5 : zJ y5 t := by rw [hy5, ht]; exact x_nx_I ht2 hJ4
    refine And.intro (fun q => ?_) (fun q => ?_)
    · have q : 0 < z_fa y5 := q
      exact fin y5 (by rw [x_l6, ← h5, if_pos q])
    have q : ¬ 0 < z_fa y5 := q
    have hok : z_fa (x_l3 k x) = 0 := by
      rw [h5] at q
      exact x_l5_ok hfa q
    obtain ⟨hk4, hfull, hkd, hxx⟩ := x_l3_ok hok
    rw [hxx] at hy
    subst hy
    have hk8 : zk8 y5 = zk8 (u_hD y c) := by rw [hy5, x_nx_k]
    have hdW : z_dW y5 = z_dW y := congrArg (fun z => z.2.1) hk8
    have hdr : z_dr y5 = z_dr y := congrArg (fun z => z.2.2.2.2.2.1) hk8
    have hc6 : ∃ c : Nat, c ≤ 6 ∧ k = nI c := hk6.resolve_left hk4
    obtain ⟨c6, hc6, hkc⟩ := hc6
    have hk1 : k = 1 → ∃ w : Nat, w < 8 ∧ z_dW y5 = nI w := by
      intro e
      refine ⟨b, ?_, by rw [hdW, hb]⟩
      unfold r_full at hfull
      by_cases q1 : k = 0 ∧ z_dP y = 8
      · rw [if_pos q1] at hfull; exact absurd hfull (by decide)
      rw [if_neg q1] at hfull
      by_cases q2 : k = 1 ∧ z_dW y = 8
      · rw [if_pos q2] at hfull; exact absurd hfull (by decide)
      rcases Nat.lt_or_eq_of_le hb8 with r | r
      · exact r
      · exact absurd ⟨e, by rw [hb, r]; rfl⟩ q2
    have hk6' : k = 6 → ∃ m : Nat, m < 6 ∧ z_dr y5 29 = nI m := by
      intro e
      refine ⟨m, ?_, by rw [hdr, hm]⟩
      unfold r_full at hfull
      by_cases q1 : k = 0 ∧ z_dP y = 8
      · rw [if_pos q1] at hfull; exact absurd hfull (by decide)
      rw [if_neg q1] at hfull
      by_cases q2 : k = 1 ∧ z_dW y = 8
      · rw [if_pos q2] at hfull; exact absurd hfull (by decide)
      rw [if_neg q2] at hfull
      by_cases q3 : k = 6 ∧ z_dr y 29 = 6
      · rw [if_pos q3] at hfull; exact absurd hfull (by decide)
      rcases Nat.lt_or_eq_of_le hm6 with r | r
      · exact r
      · exact absurd ⟨e, by rw [hm, r]; rfl⟩ q3
    refine And.intro ⟨s, A, y5, k, t, c6, rfl, rfl, ht, ht2, hJ5, hkc, hc6, hk1, hk6'⟩ ?_
    rintro r L' ⟨rfl, hL⟩
    replace hL : L' = mdR (mdZ s A y5) (x_lo (bF (mdZ s A y5) 8) (oI (mdZ s A y5) 0 15) k (rX (mdZ s A y5))) := hL
    rw [zR, zM, zB8, zO15] at hL
    obtain ⟨y6, hy6⟩ : ∃ y, y = x_lo (A 8) (s 15) k y5 := ⟨_, rfl⟩
    rw [← hy6] at hL
    subst hL
    have hJ6 : zJ y6 t := by
      rw [hy6, ht]
      exact (zQ_lo ht2 (lo := 0) ⟨hJ5, by obtain ⟨⟨p, e1, e2⟩, _⟩ := hJ5; exact ⟨p, e1, Nat.zero_le _, e2⟩⟩ k).1
    have g21 : ∀ z, z = x_l7 y6 → G 21 [some (.ref 0), none, none] [] (mdZ s A z) := by
      intro z hz
      refine hG 21 _ _ _ ?_
      refine And.intro (zI_pre s A (z) ⟨ht, ht2, (by rw [hz]; exact (zJ_mu hJ6 _ _).1)⟩) ?_
      rintro r L' ⟨rfl, hL⟩
      replace hL : L' = mdR (mdZ s A (z)) (x_nx (bF (mdZ s A (z)) 8) (oI (mdZ s A (z)) 0 15) (rX (mdZ s A (z)))) := hL
      rw [zR, zM, zB8, zO15] at hL
      obtain ⟨y8, hy8⟩ : ∃ q, q = x_nx (A 8) (s 15) (z) := ⟨_, rfl⟩
      rw [← hy8] at hL
      subst hL
      exact fin y8 (by rw [x_l6, ← h5, if_neg q, ← hy6, ← hz, ← hy8])
    refine And.intro (fun q2 => ?_) (fun q2 => ?_)
    rotate_left
    · have q2 : ¬ z_fa y6 = 0 := q2
      exact g21 y6 (by rw [x_l7, x_mu_f _ _ _ q2])
    have g20 : ∀ d, d = (if z_so y6 = 3 then 1 else 0) → G 20 [some (.ref 0), none, none] [.int d, .ref 0] (mdZ s A y6) := by
      intro d hd
      refine hG 20 _ _ _ ?_
      refine And.intro ⟨s, A, y6, _, _, rfl, rfl⟩ ?_
      rintro r L' ⟨rfl, hL⟩
      replace hL : L' = mdR (mdZ s A (y6)) (x_mu (rX (mdZ s A (y6))) (d) (2)) := hL
      rw [zR, zM] at hL
      obtain ⟨z, hz⟩ : ∃ q, q = x_mu (y6) (d) (2) := ⟨_, rfl⟩
      rw [← hz] at hL
      subst hL
      exact g21 z (by rw [hz, x_l7, ← hd])
    refine And.intro (fun q3 => ?_) (fun q3 => ?_)
    · have q3 : z_so y6 = 3 := q3
      exact g20 1 (by rw [if_pos q3])
    · have q3 : ¬ z_so y6 = 3 := q3
      exact g20 0 (by rw [if_neg q3])
  have g14 : ∀ (y : zT) (c : Int32), y = x_l2 k x → c = (if k = 5 then (if z_hD x = 0 then 1 else 0) else 1) → G 14 [some (.ref 0), some (.int k), none] [.int c, .ref 0] (mdZ s A y) := by
    intro y c hy hc
    refine hG 14 _ _ _ ?_
    refine And.intro ⟨s, A, y, _, _, rfl, rfl⟩ ?_
    rintro r L' ⟨rfl, hL⟩
    replace hL : L' = mdR (mdZ s A (y)) (x_mu (rX (mdZ s A (y))) (c) (4)) := hL
    rw [zR, zM] at hL
    obtain ⟨z, hz⟩ : ∃ q, q = x_mu (y) (c) (4) := ⟨_, rfl⟩
    rw [← hz] at hL
    subst hL
    have hz3 : z = x_l3 k x := by rw [hz, hy, x_l3, ← hc]
    have hzD : z_hD z = z_hD x := congrArg (fun z => z.2.2.1) (show zk8 z = zk8 x by rw [hz, x_mu_k, hy, x_l2, x_mu_k, x_l1, x_mu_k])
    refine And.intro (fun q => ?_) (fun q => ?_)
    · have q : z_hD z = 0 := q
      rw [hzD] at q
      refine And.intro (fun q2 => ?_) (fun q2 => ?_)
      · have q2 : k = 5 := q2
        exact g17 z 1 hz3 (Or.inr rfl) (by rw [if_pos q, if_pos q2])
      · have q2 : ¬ k = 5 := q2
        exact g17 z 0 hz3 (Or.inl rfl) (by rw [if_pos q, if_neg q2])
    · have q : ¬ z_hD z = 0 := q
      rw [hzD] at q
      exact g17 z 1 hz3 (Or.inr rfl) (by rw [if_neg q])
  have g11 : ∀ (y : zT) (c : Int32), y = x_l1 k x → c = (if r_full k x = 0 then 1 else 0) → G 11 [some (.ref 0), some (.int k), none] [.int c, .ref 0] (mdZ s A y) := by
    intro y c hy hc
    refine hG 11 _ _ _ ?_
    refine And.intro ⟨s, A, y, _, _, rfl, rfl⟩ ?_
    rintro r L' ⟨rfl, hL⟩
    replace hL : L' = mdR (mdZ s A (y)) (x_mu (rX (mdZ s A (y))) (c) (5)) := hL
    rw [zR, zM] at hL
    obtain ⟨z, hz⟩ : ∃ q, q = x_mu (y) (c) (5) := ⟨_, rfl⟩
    rw [← hz] at hL
    subst hL
    have hz2 : z = x_l2 k x := by rw [hz, hy, x_l2, ← hc]
    have hzD : z_hD z = z_hD x := congrArg (fun z => z.2.2.1) (show zk8 z = zk8 x by rw [hz, x_mu_k, hy, x_l1, x_mu_k])
    refine And.intro (fun q => ?_) (fun q => ?_)
    · have q : k = 5 := q
      refine And.intro (fun q2 => ?_) (fun q2 => ?_)
      · have q2 : z_hD z = 0 := q2
        rw [hzD] at q2
        exact g14 z 1 hz2 (by rw [if_pos q, if_pos q2])
      · have q2 : ¬ z_hD z = 0 := q2
        rw [hzD] at q2
        exact g14 z 0 hz2 (by rw [if_pos q, if_neg q2])
    · have q : ¬ k = 5 := q
      exact g14 z 1 hz2 (by rw [if_neg q])
  have g9 : ∀ (c f : Int32), f = r_full k x → c = (if k = -4 then 0 else 1) → G 9 [some (.ref 0), some (.int k), some (.int f)] [.int c, .ref 0] (mdZ s A x) := by
    intro c f hf hc
    refine hG 9 _ _ _ ?_
    refine And.intro ⟨s, A, x, _, _, rfl, rfl⟩ ?_
    rintro r L' ⟨rfl, hL⟩
    replace hL : L' = mdR (mdZ s A (x)) (x_mu (rX (mdZ s A (x))) (c) (2)) := hL
    rw [zR, zM] at hL
    obtain ⟨z, hz⟩ : ∃ q, q = x_mu (x) (c) (2) := ⟨_, rfl⟩
    rw [← hz] at hL
    subst hL
    have hz1 : z = x_l1 k x := by rw [hz, x_l1, ← hc]
    refine And.intro (fun q => ?_) (fun q => ?_)
    · have q : f = 0 := q
      rw [hf] at q
      exact g11 z 1 hz1 (by rw [if_pos q])
    · have q : ¬ f = 0 := q
      rw [hf] at q
      exact g11 z 0 hz1 (by rw [if_neg q])
  have g7 : ∀ f : Int32, f = r_full k x → G 7 [some (.ref 0), some (.int k), none] [.int f] (mdZ s A x) := by
    intro f hf
    refine hG 7 _ _ _ (And.intro (fun q => ?_) (fun q => ?_))
    · have q : k = -4 := q
      exact g9 0 f hf (by rw [if_pos q])
    · have q : ¬ k = -4 := q
      exact g9 1 f hf (by rw [if_neg q])
  have g4 : ¬ (k = 0 ∧ z_dP x = 8) → ¬ (k = 1 ∧ z_dW x = 8) → G 4 [some (.ref 0), some (.int k), none] [] (mdZ s A x) := by
    intro n1 n2
    refine hG 4 _ _ _ (And.intro (fun q => ?_) (fun q => ?_))
    · have q : k = 6 := q
      refine And.intro (vp_in_nI (n := 29) (N := 53) (by decide) (by decide)) (And.intro (fun q2 => ?_) (fun q2 => ?_))
      · have q2 : z_dr x 29 = 6 := q2
        exact g7 1 (by rw [r_full, if_neg n1, if_neg n2, if_pos ⟨q, q2⟩])
      · have q2 : ¬ z_dr x 29 = 6 := q2
        exact g7 0 (by rw [r_full, if_neg n1, if_neg n2, if_neg (fun z => q2 z.2)])
    · have q : ¬ k = 6 := q
      exact g7 0 (by rw [r_full, if_neg n1, if_neg n2, if_neg (fun z => q z.1)])
  have g3 : ¬ (k = 0 ∧ z_dP x = 8) → G 3 [some (.ref 0), some (.int k), none] [] (mdZ s A x) := by
    intro n1
    refine hG 3 _ _ _ (And.intro (fun q => ?_) (fun q => ?_))
    · have q : k = 1 := q
      refine And.intro (fun q2 => ?_) (fun q2 => ?_)
      · have q2 : z_dW x = 8 := q2
        exact g7 1 (by rw [r_full, if_neg n1, if_pos ⟨q, q2⟩])
      · have q2 : ¬ z_dW x = 8 := q2
        exact g4 n1 (fun z => q2 z.2)
    · have q : ¬ k = 1 := q
      exact g4 n1 (fun z => q z.1)
  have g2 : ∀ c, c = k → G 2 [some (.ref 0), none, none] [.int c] (mdZ s A x) := by
    intro c hc
    subst hc
    refine hG 2 _ _ _ (And.intro (fun q => ?_) (fun q => ?_))
    · have q : c = 0 := q
      refine And.intro (fun q2 => ?_) (fun q2 => ?_)
      · have q2 : z_dP x = 8 := q2
        exact g7 1 (by rw [r_full, if_pos ⟨q, q2⟩])
      · have q2 : ¬ z_dP x = 8 := q2
        exact g3 (fun z => q2 z.2)
    · have q : ¬ c = 0 := q
      exact g3 (fun z => q z.1)
  refine hG 0 _ _ _ (And.intro (fun h => ?_) (fun h => ?_))
  rotate_left
  · have h : ¬ z_so x = 1 := h
    exact g2 (-4) (by rw [hk, r_ln, if_neg h])
  have h : z_so x = 1 := h
  obtain ⟨_, u, hu, hut⟩ := hJ
  refine And.intro ⟨zs s x, zA A x, u, t, rfl, mdZ_W s A x, hu, by omega, ht, ht2⟩ ?_
  intro r hr
  obtain ⟨c, hc⟩ : ∃ c, c = p_mln (A 8) (s 15) (z_po x) (z_fr x) := ⟨_, rfl⟩
  obtain rfl : r = some (.int c) := by rw [hc]; exact hr
  exact g2 c (by rw [hk, r_ln, if_pos h, hc])
