/-! ===== WishClerkModel: numbers and wishes read ===== -/
def zI (x : zT) (t : Nat) : Prop := ∃ p, z_po x = nI p ∧ p ≤ t
def zJ (x : zT) (t : Nat) : Prop := zI x t ∧ ∃ u, z_fr x = nI u ∧ u ≤ t
theorem zI_pre (s : Nat → Int32) (A : Nat → Nat → Int32) (x : zT) {t : Nat} (h : s 15 = nI t ∧ t ≤ 160 ∧ zI x t) : ∃ (s' : Nat → Int32) (A' : Nat → Nat → Int32) (x' : zT) (p t : Nat), ([.ref 0] : sS) = [.ref 0] ∧ mdZ s A x = mdZ s' A' x' ∧ z_po x' = nI p ∧ p ≤ t ∧ s' 15 = nI t ∧ t ≤ 160 := by
  obtain ⟨h1, h2, p, h3, h4⟩ := h
  exact ⟨s, A, x, p, t, rfl, rfl, h3, h4, h1, h2⟩
theorem x_mu_1 (x : zT) {b : Int32} (f : Int32) (h : ¬ b = 0) : x_mu x b f = x := by rw [x_mu, if_neg h]
theorem x_mu_f (x : zT) (b f : Int32) (h : ¬ z_fa x = 0) : x_mu x b f = x := by
  rw [x_mu, if_neg h]
  split <;> rfl
theorem x_mu_0 (x : zT) (f : Int32) (h : z_fa x = 0) : x_mu x 0 f = u_wr (u_fa x f) (z_fr x) := by rw [x_mu, if_pos rfl, if_pos h]
theorem x_mu_fr (x : zT) (b f : Int32) : z_fr (x_mu x b f) = z_fr x := by
  unfold x_mu
  split
  · split <;> rfl
  · rfl
theorem x_mu_va (x : zT) (b f : Int32) : z_va (x_mu x b f) = z_va x := by
  unfold x_mu
  split
  · split <;> rfl
  · rfl
theorem zJ_mu {x : zT} {t : Nat} (h : zJ x t) (b f : Int32) : zJ (x_mu x b f) t := by
  unfold zJ zI at h ⊢
  rw [x_mu_po, x_mu_fr]; exact h
theorem p_mlk_n {ta : Nat → Int32} {t p : Nat} (ht : t ≤ 160) (hp2 : p < 1000) (h : ¬ p_mlk ta (nI t) (nI p) < 0) : p < t := by
  rcases Nat.lt_or_ge p t with q | q
  · exact q
  · rw [p_mlk_o ht q hp2] at h
    exact absurd (by decide) h
theorem x_nx_I0 {ta : Nat → Int32} {x : zT} {t : Nat} (h2 : t ≤ 160) (h : zI x t) (hf : ¬ 0 < z_fa x) : zJ (x_nx ta (nI t) x) t := by
  obtain ⟨p, h3, h4⟩ := h
  have hut := p_ru_le ta (t := t) 32 32 (by decide) h2 161 p h4
  rw [x_nx, if_neg hf, h3, nI_clamp (by omega)]
  obtain ⟨u, hu⟩ : ∃ u, u = p_ru ta (nI t) 32 32 161 p := ⟨_, rfl⟩
  rw [← hu] at hut ⊢
  unfold x_n1
  by_cases c1 : p_mlk ta (nI t) (nI u) < 0
  · rw [if_pos c1]
    exact ⟨⟨u, rfl, hut.2⟩, u, rfl, hut.2⟩
  have hlt : u < t := p_mlk_n h2 (by omega) c1
  rw [if_neg c1]
  by_cases c2 : p_rg 97 122 (p_mlk ta (nI t) (nI u)) = 0
  rotate_left
  · rw [if_neg c2]
    have e := p_ru_le ta (t := t) 97 122 (by decide) h2 161 u hut.2
    exact ⟨⟨_, rfl, e.2⟩, u, rfl, hut.2⟩
  rw [if_pos c2]
  by_cases c3 : p_rg 48 57 (p_mlk ta (nI t) (nI u)) = 0
  · rw [if_pos c3]
    obtain ⟨y, hy⟩ : ∃ y, y = x_mu (x_n3 x u u 3) (if p_mlk ta (nI t) (nI u) = 59 then 1 else 0) 1 := ⟨_, rfl⟩
    rw [← hy]
    refine ⟨⟨u + 1, rfl, hlt⟩, u, ?_, hut.2⟩
    show z_fr y = nI u
    rw [hy, x_mu_fr]; rfl
  · rw [if_neg c3]
    have e := p_ru_le ta (t := t) 48 57 (by decide) h2 161 u hut.2
    exact zJ_mu (x := u_va (x_n3 x (p_ru ta (nI t) 48 57 161 u) u 2) (p_mv ta (nI t) u (p_ru ta (nI t) 48 57 161 u - u))) ⟨⟨_, rfl, e.2⟩, u, rfl, hut.2⟩ _ _
theorem x_nx_f (ta : Nat → Int32) (ln : Int32) {x : zT} (hf : 0 < z_fa x) : x_nx ta ln x = x := by rw [x_nx, if_pos hf]
theorem x_nx_I {ta : Nat → Int32} {x : zT} {t : Nat} (h2 : t ≤ 160) (h : zJ x t) : zJ (x_nx ta (nI t) x) t := by
  by_cases hf : 0 < z_fa x
  · rw [x_nx_f _ _ hf]; exact h
  · exact x_nx_I0 h2 h.1 hf
def x_lk1 (x : zT) : zT := x_mu x (if z_so x = 2 then 1 else 0) 2
def x_lk (x : zT) (lo hi : Int32) : zT := x_mu (x_lk1 x) (p_rg lo hi (z_va x)) 3
def r_lk (x : zT) (lo hi : Int32) : Int32 := if z_fa (x_lk x lo hi) = 0 then z_va x else 0
theorem x_lk_va (x : zT) (lo hi : Int32) : z_va (x_lk x lo hi) = z_va x := by rw [x_lk, x_mu_va, x_lk1, x_mu_va]
theorem x_lk_J {x : zT} {t : Nat} (h : zJ x t) (lo hi : Int32) : zJ (x_lk x lo hi) t := zJ_mu (zJ_mu h _ _) _ _
def c_X6_looked : sCtr := ((yX6_looked, cX6_looked, 3, (some .int)), (7, 2, 1, 25), false,
  mdfp,
  fun vs L => ∃ (s : Nat → Int32) (A : Nat → Nat → Int32) (x : zT) (lo hi : Int32), vs = [.ref 0, .int lo, .int hi] ∧ L = mdZ s A x,
  fun vs L r L' => r = some (.int (r_lk (rX L) (vI vs 1) (vI vs 2))) ∧ L' = mdR L (x_lk (rX L) (vI vs 1) (vI vs 2)))
theorem sta_X6_looked : s_Sta c_X6_looked := ⟨⟨by decide +kernel, by decide +kernel, by decide +kernel⟩, List.mem_of_getElem? (i := 990) (by decide +kernel), List.mem_of_getElem? (i := 70) (by decide +kernel), ⟨List.mem_of_getElem? (i := 989) (by decide +kernel), List.mem_of_getElem? (i := 41) (by decide +kernel), Or.inl ⟨_, rfl, rfl⟩⟩⟩

def k_X6_looked : List sBk := [
  (0, false, [true, true, true], [o0 0 (.aload_n 0), oN 1 (.getfield 97) [6, 20, 842], oN 4 (.ifCond .ne 21) [3], o0 7 (.aload_n 0), o0 8 (.aload_n 0), oN 9 (.getfield 121) [6, 18, 840], oK 12 (.iconst 2) (.int 2), oN 13 (.if_icmp .ne 7) [1], oK 16 (.iconst 1) (.int 1), oN 17 (.goto 4) [2]]),
  (20, false, [true, true, true], [oK 20 (.iconst 0) (.int 0), oN 21 .nop [2]]),
  (21, false, [true, true, true], [oK 21 (.iconst 2) (.int 2), oC 22 (.invokevirtual 135) [944] c_X6_must, oN 25 .nop [3]]),
  (25, true, [true, true, true], [o0 25 (.aload_n 0), oN 26 (.getfield 97) [6, 20, 842], oN 29 (.ifCond .ne 20) [4], o0 32 (.aload_n 0), o0 33 (.aload_n 0), oN 34 (.getfield 132) [6, 19, 841], o0 37 .i2l, o0 38 (.iload_n 1), o0 39 .i2l, o0 40 (.iload_n 2), o0 41 .i2l, oC 42 (.invokestatic 90) [921] c_X6_in, oK 45 (.iconst 3) (.int 3), oC 46 (.invokevirtual 135) [944] c_X6_must, oN 49 .nop [4]]),
  (49, true, [true, false, false], [o0 49 (.aload_n 0), oN 50 (.getfield 97) [6, 20, 842], oN 53 (.ifCond .ne 10) [5], o0 56 (.aload_n 0), oN 57 (.getfield 132) [6, 19, 841], oN 60 (.goto 4) [6]]),
  (63, false, [false, false, false], [oK 63 (.iconst 0) (.int 0), oN 64 .nop [6]]),
  (64, false, [false, false, false], [o0 64 .ireturn])]
set_option maxRecDepth 100000 in
theorem ck_X6_looked : s_ck RX6 cX6_looked 3 1 25 k_X6_looked = true := by decide +kernel

set_option maxRecDepth 100000 in
set_option maxHeartbeats 4000000 in
theorem ok_X6_looked : s_Ok c_X6_looked := by
  refine s_ok_of k_X6_looked (by decide +kernel) sta_X6_looked ck_X6_looked (And.intro ok_X6_must (And.intro ok_X6_in (And.intro ok_X6_must trivial))) ?_
  rintro vs L ⟨s, A, x, lo, hi, rfl, rfl⟩
  refine ⟨rfl, fun G hG => ?_⟩
  have fin : ∀ a : Int32, a = r_lk x lo hi → s_PP (some .int) false c_X6_looked.2.2.2.2.2 [.ref 0, .int lo, .int hi] (mdZ s A x) (some (.int a)) (mdZ s A (x_lk x lo hi)) := fun a ha => ⟨rfl, ⟨by
    show some (Value.int a) = some (Value.int (r_lk (rX (mdZ s A x)) lo hi))
    rw [zR, ha], by
    show mdZ s A (x_lk x lo hi) = mdR (mdZ s A x) (x_lk (rX (mdZ s A x)) lo hi)
    rw [zR, zM]⟩, fun h => by cases h⟩
  have g4 : ∀ y, y = x_lk x lo hi → G 4 [some (.ref 0), none, none] [] (mdZ s A y) := by
    intro y hy
    have fin' := fin
    rw [← hy] at fin'
    refine hG 4 _ _ _ (And.intro (fun h => ?_) (fun h => ?_))
    · have h : z_fa y = 0 := h
      refine fin' (z_va y) ?_
      rw [r_lk, ← hy, if_pos h, hy, x_lk_va]
    · have h : ¬ z_fa y = 0 := h
      exact fin' _ (by rw [r_lk, ← hy, if_neg h])
  have g3 : ∀ y, y = x_lk1 x → G 3 [some (.ref 0), some (.int lo), some (.int hi)] [] (mdZ s A y) := by
    intro y hy
    refine hG 3 _ _ _ (And.intro (fun h => ?_) (fun h => ?_))
    · have e19 : z_va y = z_va x := by rw [hy]; exact x_mu_va _ _ _
      refine And.intro ⟨_, _, _, rfl⟩ ?_
      intro r hr
      obtain rfl : r = some (.int (p_rg lo hi (z_va x))) := by
        rw [p_rg, ← p_in64_i, ← e19]; exact hr
      refine And.intro ⟨s, A, y, _, _, rfl, rfl⟩ ?_
      rintro r L' ⟨rfl, hL⟩
      replace hL : L' = mdR (mdZ s A (y)) (x_mu (rX (mdZ s A (y))) (p_rg lo hi (z_va x)) (3)) := hL
      rw [zR, zM] at hL
      obtain ⟨y2, hy2⟩ : ∃ q, q = x_mu (y) (p_rg lo hi (z_va x)) (3) := ⟨_, rfl⟩
      rw [← hy2] at hL
      subst hL
      exact g4 y2 (by rw [hy2, hy, x_lk])
    · have h : ¬ z_fa y = 0 := h
      exact g4 y (by rw [x_lk, ← hy, x_mu_f _ _ _ h])
  refine hG 0 _ _ _ (And.intro (fun h => ?_) (fun h => ?_))
  · have h : z_fa x = 0 := h
    refine And.intro (fun h2 => ?_) (fun h2 => ?_)
    · have h2 : z_so x = 2 := h2
      refine And.intro ⟨s, A, x, _, _, rfl, rfl⟩ ?_
      rintro r L' ⟨rfl, hL⟩
      replace hL : L' = mdR (mdZ s A (x)) (x_mu (rX (mdZ s A (x))) (1) (2)) := hL
      rw [zR, zM] at hL
      obtain ⟨y, hy⟩ : ∃ q, q = x_mu (x) (1) (2) := ⟨_, rfl⟩
      rw [← hy] at hL
      subst hL
      exact g3 y (by rw [hy, x_lk1, if_pos h2])
    · have h2 : ¬ z_so x = 2 := h2
      refine And.intro ⟨s, A, x, _, _, rfl, rfl⟩ ?_
      rintro r L' ⟨rfl, hL⟩
      replace hL : L' = mdR (mdZ s A (x)) (x_mu (rX (mdZ s A (x))) (0) (2)) := hL
      rw [zR, zM] at hL
      obtain ⟨y, hy⟩ : ∃ q, q = x_mu (x) (0) (2) := ⟨_, rfl⟩
      rw [← hy] at hL
      subst hL
      exact g3 y (by rw [hy, x_lk1, if_neg h2])
  · have h : ¬ z_fa x = 0 := h
    exact g3 x (by rw [x_lk1, x_mu_f _ _ _ h])
def c_X6_readNumber : sCtr := ((yX6_readNumber, cX6_readNumber, 4, (some .int)), (7, 2, 2, 47), false,
  mdfp,
  fun vs L => ∃ (s : Nat → Int32) (A : Nat → Nat → Int32) (x : zT) (lo hi : Int32) (t : Nat), vs = [.ref 0, .int lo, .int hi] ∧ L = mdZ s A x ∧ s 15 = nI t ∧ t ≤ 160 ∧ zJ x t,
  fun vs L r L' => r = some (.int (r_lk (rX L) (vI vs 1) (vI vs 2))) ∧ L' = mdR L (x_nx (bF L 8) (oI L 0 15) (x_lk (rX L) (vI vs 1) (vI vs 2))))
theorem sta_X6_readNumber : s_Sta c_X6_readNumber := ⟨⟨by decide +kernel, by decide +kernel, by decide +kernel⟩, List.mem_of_getElem? (i := 986) (by decide +kernel), List.mem_of_getElem? (i := 70) (by decide +kernel), ⟨List.mem_of_getElem? (i := 985) (by decide +kernel), List.mem_of_getElem? (i := 40) (by decide +kernel), Or.inl ⟨_, rfl, rfl⟩⟩⟩

def k_X6_readNumber : List sBk := [
  (0, false, [true, true, true, false], [o0 0 (.aload_n 0), o0 1 (.iload_n 1), o0 2 (.iload_n 2), oC 3 (.invokevirtual 139) [987] c_X6_looked, o0 6 (.istore_n 3), o0 7 (.aload_n 0), oC 8 (.invokevirtual 143) [932] c_X6_next, o0 11 (.iload_n 3), o0 12 .ireturn])]
set_option maxRecDepth 100000 in
theorem ck_X6_readNumber : s_ck RX6 cX6_readNumber 4 2 47 k_X6_readNumber = true := by decide +kernel

set_option maxRecDepth 100000 in
set_option maxHeartbeats 4000000 in
theorem ok_X6_readNumber : s_Ok c_X6_readNumber := by
  refine s_ok_of k_X6_readNumber (by decide +kernel) sta_X6_readNumber ck_X6_readNumber (And.intro ok_X6_looked (And.intro ok_X6_next trivial)) ?_
  rintro vs L ⟨s, A, x, lo, hi, t, rfl, rfl, ht, ht2, hJ⟩
  refine ⟨rfl, fun G hG => ?_⟩
  refine hG 0 _ _ _ (And.intro ⟨s, A, x, lo, hi, rfl, rfl⟩ ?_)
  rintro r L' ⟨hr, hL⟩
  replace hL : L' = mdR (mdZ s A x) (x_lk (rX (mdZ s A x)) lo hi) := hL
  replace hr : r = some (.int (r_lk (rX (mdZ s A x)) lo hi)) := hr
  rw [zR, zM] at hL
  rw [zR] at hr
  obtain ⟨y, hy⟩ : ∃ y, y = x_lk x lo hi := ⟨_, rfl⟩
  obtain ⟨v, hv⟩ : ∃ v, v = r_lk x lo hi := ⟨_, rfl⟩
  rw [← hy] at hL
  rw [← hv] at hr
  subst hL hr
  refine And.intro (zI_pre s A (y) ⟨ht, ht2, (by rw [hy]; exact (x_lk_J hJ lo hi).1)⟩) ?_
  rintro r L' ⟨rfl, hL⟩
  replace hL : L' = mdR (mdZ s A (y)) (x_nx (bF (mdZ s A (y)) 8) (oI (mdZ s A (y)) 0 15) (rX (mdZ s A (y)))) := hL
  rw [zR, zM, zB8, zO15] at hL
  obtain ⟨y2, hy2⟩ : ∃ q, q = x_nx (A 8) (s 15) (y) := ⟨_, rfl⟩
  rw [← hy2] at hL
  subst hL
  refine ⟨rfl, ⟨?_, ?_⟩, fun h => by cases h⟩
  · show some (Value.int v) = some (Value.int (r_lk (rX (mdZ s A x)) lo hi))
    rw [zR, hv]
  · show mdZ s A y2 = mdR (mdZ s A x) (x_nx (bF (mdZ s A x) 8) (oI (mdZ s A x) 0 15) (x_lk (rX (mdZ s A x)) lo hi))
    rw [zR, zM, zB8, zO15, hy2, hy]
def x_wb1 (x : zT) (g : Int32) : zT := x_mu (x_lk x 0 7) (if p_hb g (r_lk x 0 7) = 0 then 1 else 0) 4
def x_wb2 (x : zT) (g : Int32) : zT := if z_fa (x_wb1 x g) = 0 then (if z_hW (x_wb1 x g) < r_lk x 0 7 then u_hW (x_wb1 x g) (r_lk x 0 7) else x_wb1 x g) else x_wb1 x g
theorem x_wb2_J {x : zT} {t : Nat} (h : zJ x t) (g : Int32) : zJ (x_wb2 x g) t := by
  have h1 : zJ (x_wb1 x g) t := zJ_mu (x_lk_J h _ _) _ _
  unfold x_wb2
  split
  · split
    · exact h1
    · exact h1
  · exact h1
def c_X6_readWishBut : sCtr := ((yX6_readWishBut, cX6_readWishBut, 3, (some .int)), (7, 1, 2, 47), false,
  mdfp,
  fun vs L => ∃ (s : Nat → Int32) (A : Nat → Nat → Int32) (x : zT) (g : Int32) (t : Nat), vs = [.ref 0, .int g] ∧ L = mdZ s A x ∧ s 15 = nI t ∧ t ≤ 160 ∧ zJ x t,
  fun vs L r L' => r = some (.int (r_lk (rX L) 0 7)) ∧ L' = mdR L (x_nx (bF L 8) (oI L 0 15) (x_wb2 (rX L) (vI vs 1))))
theorem sta_X6_readWishBut : s_Sta c_X6_readWishBut := ⟨⟨by decide +kernel, by decide +kernel, by decide +kernel⟩, List.mem_of_getElem? (i := 998) (by decide +kernel), List.mem_of_getElem? (i := 70) (by decide +kernel), ⟨List.mem_of_getElem? (i := 997) (by decide +kernel), List.mem_of_getElem? (i := 43) (by decide +kernel), Or.inl ⟨_, rfl, rfl⟩⟩⟩

def k_X6_readWishBut : List sBk := [
  (0, false, [true, true, false], [o0 0 (.aload_n 0), oK 1 (.iconst 0) (.int 0), oK 2 (.bipush 7) (.int 7), oC 4 (.invokevirtual 139) [987] c_X6_looked, o0 7 (.istore_n 2), o0 8 (.aload_n 0), oN 9 (.getfield 97) [6, 20, 842], oN 12 (.ifCond .ne 21) [3], o0 15 (.aload_n 0), o0 16 (.iload_n 1), o0 17 (.iload_n 2), o0 18 .ishr, oK 19 (.iconst 1) (.int 1), o0 20 .iand, oN 21 (.ifCond .ne 7) [1], oK 24 (.iconst 1) (.int 1), oN 25 (.goto 4) [2]]),
  (28, false, [true, false, true], [oK 28 (.iconst 0) (.int 0), oN 29 .nop [2]]),
  (29, false, [true, false, true], [oK 29 (.iconst 4) (.int 4), oC 30 (.invokevirtual 135) [944] c_X6_must, oN 33 .nop [3]]),
  (33, true, [true, false, true], [o0 33 (.aload_n 0), oN 34 (.getfield 97) [6, 20, 842], oN 37 (.ifCond .ne 23) [6], o0 40 (.aload_n 0), o0 41 (.iload_n 2), o0 42 (.aload_n 0), oN 43 (.getfield 79) [6, 13, 835], oN 46 (.if_icmp .le 7) [4], o0 49 (.iload_n 2), oN 50 (.goto 7) [5]]),
  (53, false, [true, false, true], [o0 53 (.aload_n 0), oN 54 (.getfield 79) [6, 13, 835], oN 57 .nop [5]]),
  (57, false, [true, false, true], [oN 57 (.putfield 79) [6, 13, 835], oN 60 .nop [6]]),
  (60, true, [true, false, true], [o0 60 (.aload_n 0), oC 61 (.invokevirtual 143) [932] c_X6_next, o0 64 (.iload_n 2), o0 65 .ireturn])]
set_option maxRecDepth 100000 in
theorem ck_X6_readWishBut : s_ck RX6 cX6_readWishBut 3 2 47 k_X6_readWishBut = true := by decide +kernel

set_option maxRecDepth 100000 in
set_option maxHeartbeats 4000000 in
theorem ok_X6_readWishBut : s_Ok c_X6_readWishBut := by
  refine s_ok_of k_X6_readWishBut (by decide +kernel) sta_X6_readWishBut ck_X6_readWishBut (And.intro ok_X6_looked (And.intro ok_X6_must (And.intro ok_X6_next trivial))) ?_
  rintro vs L ⟨s, A, x, g, t, rfl, rfl, ht, ht2, hJ⟩
  refine ⟨rfl, fun G hG => ?_⟩
  obtain ⟨v, hv⟩ : ∃ v, v = r_lk x 0 7 := ⟨_, rfl⟩
  have g6 : ∀ y, y = x_wb2 x g → G 6 [some (.ref 0), none, some (.int v)] [] (mdZ s A y) := by
    intro y hy
    refine hG 6 _ _ _ ?_
    refine And.intro (zI_pre s A (y) ⟨ht, ht2, (by rw [hy]; exact (x_wb2_J hJ g).1)⟩) ?_
    rintro r L' ⟨rfl, hL⟩
    replace hL : L' = mdR (mdZ s A (y)) (x_nx (bF (mdZ s A (y)) 8) (oI (mdZ s A (y)) 0 15) (rX (mdZ s A (y)))) := hL
    rw [zR, zM, zB8, zO15] at hL
    obtain ⟨y2, hy2⟩ : ∃ q, q = x_nx (A 8) (s 15) (y) := ⟨_, rfl⟩
    rw [← hy2] at hL
    subst hL
    refine ⟨rfl, ⟨?_, ?_⟩, fun h => by cases h⟩
    · show some (Value.int v) = some (Value.int (r_lk (rX (mdZ s A x)) 0 7))
      rw [zR, hv]
    · show mdZ s A y2 = mdR (mdZ s A x) (x_nx (bF (mdZ s A x) 8) (oI (mdZ s A x) 0 15) (x_wb2 (rX (mdZ s A x)) g))
      rw [zR, zM, zB8, zO15, hy2, hy]
  have g3 : ∀ y, y = x_wb1 x g → G 3 [some (.ref 0), none, some (.int v)] [] (mdZ s A y) := by
    intro y hy
    refine hG 3 _ _ _ (And.intro (fun h => ?_) (fun h => ?_))
    · have h : z_fa y = 0 := h
      refine And.intro (fun h2 => ?_) (fun h2 => ?_)
      · have h2 : z_hW y < v := h2
        exact g6 (u_hW y v) (by rw [x_wb2, ← hv, ← hy, if_pos h, if_pos h2])
      · have h2 : ¬ z_hW y < v := h2
        exact g6 y (by rw [x_wb2, ← hv, ← hy, if_pos h, if_neg h2])
    · have h : ¬ z_fa y = 0 := h
      exact g6 y (by rw [x_wb2, ← hv, ← hy, if_neg h])
  refine hG 0 _ _ _ (And.intro ⟨s, A, x, 0, 7, rfl, rfl⟩ ?_)
  rintro r L' ⟨hr, hL⟩
  replace hL : L' = mdR (mdZ s A x) (x_lk (rX (mdZ s A x)) 0 7) := hL
  replace hr : r = some (.int (r_lk (rX (mdZ s A x)) 0 7)) := hr
  rw [zR, zM] at hL
  rw [zR] at hr
  obtain ⟨y, hy⟩ : ∃ y, y = x_lk x 0 7 := ⟨_, rfl⟩
  rw [← hy] at hL
  rw [← hv] at hr
  subst hL hr
  refine And.intro (fun h => ?_) (fun h => ?_)
  · refine And.intro (fun h2 => ?_) (fun h2 => ?_)
    · have h2 : p_hb g v = 0 := by rw [← p_hb_v]; exact h2
      refine And.intro ⟨s, A, y, _, _, rfl, rfl⟩ ?_
      rintro r L' ⟨rfl, hL⟩
      replace hL : L' = mdR (mdZ s A (y)) (x_mu (rX (mdZ s A (y))) (1) (4)) := hL
      rw [zR, zM] at hL
      obtain ⟨y2, hy2⟩ : ∃ q, q = x_mu (y) (1) (4) := ⟨_, rfl⟩
      rw [← hy2] at hL
      subst hL
      exact g3 y2 (by rw [hy2, hy, x_wb1, ← hv, if_pos h2])
    · have h2 : ¬ p_hb g v = 0 := by rw [← p_hb_v]; exact h2
      refine And.intro ⟨s, A, y, _, _, rfl, rfl⟩ ?_
      rintro r L' ⟨rfl, hL⟩
      replace hL : L' = mdR (mdZ s A (y)) (x_mu (rX (mdZ s A (y))) (0) (4)) := hL
      rw [zR, zM] at hL
      obtain ⟨y2, hy2⟩ : ∃ q, q = x_mu (y) (0) (4) := ⟨_, rfl⟩
      rw [← hy2] at hL
      subst hL
      exact g3 y2 (by rw [hy2, hy, x_wb1, ← hv, if_neg h2])
  · have h : ¬ z_fa y = 0 := h
    exact g3 y (by rw [x_wb1, ← hv, ← hy, x_mu_f _ _ _ h])
