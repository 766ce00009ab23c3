/-! ===== WishClerkModel: a line of one, wish, needs, clash ===== -/
theorem x_mu_so (x : zT) (b f : Int32) : z_so (x_mu x b f) = z_so x := by
  unfold x_mu
  split
  · split <;> rfl
  · rfl
theorem x_mu_dr (x : zT) (b f : Int32) : z_dr (x_mu x b f) = z_dr x := by
  unfold x_mu
  split
  · split <;> rfl
  · rfl
/-- no fault is told: what was asked for was so -/
theorem x_mu_ok {x : zT} {b f : Int32} (hf : ¬ f = 0) (h : z_fa (x_mu x b f) = 0) : z_fa x = 0 ∧ ¬ b = 0 ∧ x_mu x b f = x := by
  unfold x_mu at h ⊢
  by_cases c : b = 0
  · rw [if_pos c] at h
    by_cases c2 : z_fa x = 0
    · rw [if_pos c2] at h
      exact absurd h hf
    · rw [if_neg c2] at h
      exact absurd h c2
  · rw [if_neg c] at h ⊢
    exact ⟨h, c, rfl⟩
theorem x_lk_ok {x : zT} {lo hi : Int32} (h : z_fa (x_lk x lo hi) = 0) : z_fa x = 0 ∧ z_so x = 2 ∧ ¬ p_rg lo hi (z_va x) = 0 ∧ x_lk x lo hi = x := by
  unfold x_lk at h ⊢
  obtain ⟨h1, h2, h3⟩ := x_mu_ok (by decide) h
  rw [h3]
  unfold x_lk1 at h1 ⊢
  obtain ⟨h4, h5, h6⟩ := x_mu_ok (by decide) h1
  rw [h6]
  refine ⟨h4, ?_, h2, rfl⟩
  by_cases c : z_so x = 2
  · exact c
  · rw [if_neg c] at h5; exact absurd rfl h5
theorem p_rg_nI {v : Int32} {m : Nat} (hm : m < 2 ^ 31) (h : ¬ p_rg 0 (nI m) v = 0) : ∃ j : Nat, j ≤ m ∧ v = nI j := by
  unfold p_rg at h
  by_cases c : v < 0
  · rw [if_pos c] at h; exact absurd rfl h
  rw [if_neg c] at h
  by_cases c2 : nI m < v
  · rw [if_pos c2] at h; exact absurd rfl h
  obtain ⟨j, hj, rfl⟩ := nI_of c
  refine ⟨j, ?_, rfl⟩
  rw [nI_ltI hm hj] at c2
  omega
theorem r_lk_7 (x : zT) : ∃ j : Nat, j < 8 ∧ r_lk x 0 7 = nI j := by
  unfold r_lk
  by_cases h : z_fa (x_lk x 0 7) = 0
  · rw [if_pos h]
    obtain ⟨_, _, h3, _⟩ := x_lk_ok h
    obtain ⟨j, hj, e⟩ := p_rg_nI (m := 7) (by decide) h3
    exact ⟨j, by omega, e⟩
  · rw [if_neg h]
    exact ⟨0, by decide, rfl⟩
theorem x_nx_dr (ta : Nat → Int32) (ln : Int32) (x : zT) : z_dr (x_nx ta ln x) = z_dr x := by
  unfold x_nx
  split
  · rfl
  unfold x_n1
  split
  · rfl
  split
  · split
    · show z_dr (x_mu (x_n3 x (p_ru ta ln 32 32 161 (z_po x).toNatClampNeg) (p_ru ta ln 32 32 161 (z_po x).toNatClampNeg) 3) (if p_mlk ta ln (nI (p_ru ta ln 32 32 161 (z_po x).toNatClampNeg)) = 59 then 1 else 0) 1) = z_dr x
      rw [x_mu_dr]; rfl
    · rw [x_mu_dr]; rfl
  · rfl
theorem p_ru_S (ta : Nat → Int32) {t u : Nat} (lo hi : Int32) (h : 0 < lo) (ht : t ≤ 160) (hu : u < t) (hc : ¬ p_rg lo hi (p_mlk ta (nI t) (nI u)) = 0) : u < p_ru ta (nI t) lo hi 161 u := by
  rw [p_ru, if_neg hc]
  have := (p_ru_le ta (t := t) lo hi h ht 160 (u + 1) (by omega)).1
  omega
def zK (x : zT) (lo t : Nat) : Prop := ∃ p, z_po x = nI p ∧ lo ≤ p ∧ p ≤ t
/-- the place only grows, and grows where there was a token -/
theorem x_nx_K {ta : Nat → Int32} {x : zT} {lo t : Nat} (h2 : t ≤ 160) (h : zK x lo t) (hf : ¬ 0 < z_fa x) : zK (x_nx ta (nI t) x) lo t ∧ (¬ z_so (x_nx ta (nI t) x) = 0 → zK (x_nx ta (nI t) x) (lo + 1) t) := by
  obtain ⟨p, h3, h5, h4⟩ := h
  have hut := p_ru_le ta (t := t) 32 32 (by decide) h2 161 p h4
  rw [x_nx, if_neg hf, h3, nI_clamp (by omega)]
  obtain ⟨u, hu⟩ : ∃ u, u = p_ru ta (nI t) 32 32 161 p := ⟨_, rfl⟩
  rw [← hu] at hut ⊢
  unfold x_n1
  by_cases c1 : p_mlk ta (nI t) (nI u) < 0
  · rw [if_pos c1]
    exact ⟨⟨u, rfl, by omega, hut.2⟩, fun q => absurd rfl q⟩
  have hlt : u < t := p_mlk_n h2 (by omega) c1
  rw [if_neg c1]
  by_cases c2 : p_rg 97 122 (p_mlk ta (nI t) (nI u)) = 0
  rotate_left
  · rw [if_neg c2]
    have e := p_ru_le ta (t := t) 97 122 (by decide) h2 161 u hut.2
    have e2 := p_ru_S ta 97 122 (by decide) h2 hlt c2
    exact ⟨⟨_, rfl, by omega, e.2⟩, fun _ => ⟨_, rfl, by omega, e.2⟩⟩
  rw [if_pos c2]
  by_cases c3 : p_rg 48 57 (p_mlk ta (nI t) (nI u)) = 0
  · rw [if_pos c3]
    exact ⟨⟨u + 1, rfl, by omega, hlt⟩, fun _ => ⟨u + 1, rfl, by omega, hlt⟩⟩
  · rw [if_neg c3]
    have e := p_ru_le ta (t := t) 48 57 (by decide) h2 161 u hut.2
    have e2 := p_ru_S ta 48 57 (by decide) h2 hlt c3
    unfold zK
    rw [x_mu_po]
    exact ⟨⟨_, rfl, by omega, e.2⟩, fun _ => ⟨_, rfl, by omega, e.2⟩⟩
def r_kd (ta : Nat → Int32) (ln : Int32) (x : zT) : Int32 := if z_fa x = 0 then (if z_so x = 1 then p_mkn ta ln (z_po x) (z_fr x) else -4) else -4
def x_one1 (ta : Nat → Int32) (ln : Int32) (x : zT) : zT := x_nx ta ln (x_mu x (if r_kd ta ln x = -4 then 0 else 1) 2)
def p_flg (k c : Int32) : Int32 := if k = c then 1 else 0
def x_one2 (k : Int32) (y : zT) : zT := u_dr y (upd (z_dr y) 0 (z_dr y 0 ||| (p_flg k 0 <<< (z_dP y &&& 31))))
def x_one3 (k : Int32) (y : zT) : zT := u_dP (u_dr y (upd (z_dr y) 1 (z_dr y 1 ||| (p_flg k 2 <<< (z_dP y &&& 31))))) (z_dP y + 1)
def x_one (ta : Nat → Int32) (ln : Int32) (x : zT) : zT := x_one3 (r_kd ta ln x) (x_one2 (r_kd ta ln x) (x_one1 ta ln x))
def c_X6_readOne : sCtr := ((yX6_readOne, cX6_readOne, 2, none), (7, 0, 3, 65), false,
  mdfp,
  fun vs L => ∃ (s : Nat → Int32) (A : Nat → Nat → Int32) (x : zT) (t : Nat), vs = [.ref 0] ∧ L = mdZ s A x ∧ s 15 = nI t ∧ t ≤ 160 ∧ zJ x t,
  fun _ L r L' => r = none ∧ L' = mdR L (x_one (bF L 8) (oI L 0 15) (rX L)))
theorem sta_X6_readOne : s_Sta c_X6_readOne := ⟨⟨by decide +kernel, by decide +kernel, by decide +kernel⟩, List.mem_of_getElem? (i := 971) (by decide +kernel), List.mem_of_getElem? (i := 70) (by decide +kernel), ⟨List.mem_of_getElem? (i := 970) (by decide +kernel), List.mem_of_getElem? (i := 37) (by decide +kernel), Or.inl ⟨_, rfl, rfl⟩⟩⟩

def k_X6_readOne : List sBk := [
  (0, false, [true, false], [o0 0 (.aload_n 0), oN 1 (.getfield 97) [6, 20, 842], oN 4 (.ifCond .ne 18) [1], o0 7 (.aload_n 0), oN 8 (.getfield 121) [6, 18, 840], oK 11 (.iconst 1) (.int 1), oN 12 (.if_icmp .ne 10) [1], o0 15 (.aload_n 0), oC 16 (.invokevirtual 146) [972] c_X6_kindNow, oN 19 (.goto 5) [2]]),
  (22, false, [true, false], [oK 22 (.bipush (-4)) (.int (-4)), oN 24 .nop [2]]),
  (24, true, [true, false], [o0 24 (.istore_n 1), o0 25 (.aload_n 0), o0 26 (.iload_n 1), oK 27 (.bipush (-4)) (.int (-4)), oN 29 (.if_icmp .eq 7) [3], oK 32 (.iconst 1) (.int 1), oN 33 (.goto 4) [4]]),
  (36, false, [true, true], [oK 36 (.iconst 0) (.int 0), oN 37 .nop [4]]),
  (37, true, [true, true], [oK 37 (.iconst 2) (.int 2), oC 38 (.invokevirtual 135) [944] c_X6_must, o0 41 (.aload_n 0), oC 42 (.invokevirtual 143) [932] c_X6_next, o0 45 (.aload_n 0), oN 46 (.getfield 23) [6, 6, 828], oK 49 (.iconst 0) (.int 0), o0 50 .dup2, o0 51 .iaload, o0 52 (.iload_n 1), oN 53 (.ifCond .ne 7) [5], oK 56 (.iconst 1) (.int 1), oN 57 (.goto 4) [6]]),
  (60, false, [true, true], [oK 60 (.iconst 0) (.int 0), oN 61 .nop [6]]),
  (61, true, [true, true], [oC 61 (.invokestatic 150) [976] c_X6_flag, o0 64 (.aload_n 0), oN 65 (.getfield 65) [6, 7, 829], o0 68 .ishl, o0 69 .ior, o0 70 .iastore, o0 71 (.aload_n 0), oN 72 (.getfield 23) [6, 6, 828], oK 75 (.iconst 1) (.int 1), o0 76 .dup2, o0 77 .iaload, o0 78 (.iload_n 1), oK 79 (.iconst 2) (.int 2), oN 80 (.if_icmp .ne 7) [7], oK 83 (.iconst 1) (.int 1), oN 84 (.goto 4) [8]]),
  (87, false, [true, false], [oK 87 (.iconst 0) (.int 0), oN 88 .nop [8]]),
  (88, true, [true, false], [oC 88 (.invokestatic 150) [976] c_X6_flag, o0 91 (.aload_n 0), oN 92 (.getfield 65) [6, 7, 829], o0 95 .ishl, o0 96 .ior, o0 97 .iastore, o0 98 (.aload_n 0), o0 99 .dup, oN 100 (.getfield 65) [6, 7, 829], oK 103 (.iconst 1) (.int 1), o0 104 .iadd, oN 105 (.putfield 65) [6, 7, 829], o0 108 .return_])]
set_option maxRecDepth 100000 in
theorem ck_X6_readOne : s_ck RX6 cX6_readOne 2 3 65 k_X6_readOne = true := by decide +kernel

set_option maxRecDepth 100000 in
set_option maxHeartbeats 4000000 in
theorem ok_X6_readOne : s_Ok c_X6_readOne := by
  refine s_ok_of k_X6_readOne (by decide +kernel) sta_X6_readOne ck_X6_readOne (And.intro ok_X6_kindNow (And.intro ok_X6_must (And.intro ok_X6_next (And.intro ok_X6_flag (And.intro ok_X6_flag trivial))))) ?_
  rintro vs L ⟨s, A, x, t, rfl, rfl, ht, ht2, hJ⟩
  refine ⟨rfl, fun G hG => ?_⟩
  obtain ⟨k, hk⟩ : ∃ k, k = r_kd (A 8) (s 15) x := ⟨_, rfl⟩
  have g8 : ∀ (y : zT) (c : Int32), x_one (A 8) (s 15) x = x_one3 k y → c = p_flg k 2 → G 8 [some (.ref 0), none] [.int c, .int (z_dr y 1), .int 1, .ref 5] (mdZ s A y) := by
    intro y c hy hc
    refine hG 8 _ _ _ (And.intro ⟨_, rfl⟩ ?_)
    intro r hr
    obtain rfl : r = some (.int (p_flg k 2)) := by
      rw [show p_flg k 2 = (if c = 0 then 0 else 1) by
        rw [hc]; unfold p_flg; split <;> rfl]
      exact hr
    refine And.intro (vp_in_nI (n := 1) (N := 53) (by decide) (by decide)) ?_
    refine ⟨rfl, ⟨rfl, ?_⟩, fun h => by cases h⟩
    show mdZ s A (x_one3 k y) = mdR (mdZ s A x) (x_one (bF (mdZ s A x) 8) (oI (mdZ s A x) 0 15) (rX (mdZ s A x)))
    rw [zR, zM, zB8, zO15, hy]
  have g6 : ∀ (y : zT) (c : Int32), x_one (A 8) (s 15) x = x_one3 k (x_one2 k y) → c = p_flg k 0 → G 6 [some (.ref 0), some (.int k)] [.int c, .int (z_dr y 0), .int 0, .ref 5] (mdZ s A y) := by
    intro y c hy hc
    refine hG 6 _ _ _ (And.intro ⟨_, rfl⟩ ?_)
    intro r hr
    obtain rfl : r = some (.int (p_flg k 0)) := by
      rw [show p_flg k 0 = (if c = 0 then 0 else 1) by
        rw [hc]; unfold p_flg; split <;> rfl]
      exact hr
    refine And.intro (vp_in_nI (n := 0) (N := 53) (by decide) (by decide)) ?_
    refine And.intro (vp_in_nI (n := 1) (N := 53) (by decide) (by decide)) ?_
    refine And.intro (fun q => ?_) (fun q => ?_)
    · have q : k = 2 := q
      exact g8 (x_one2 k y) 1 hy (by rw [p_flg, if_pos q])
    · have q : ¬ k = 2 := q
      exact g8 (x_one2 k y) 0 hy (by rw [p_flg, if_neg q])
  have g4 : ∀ b, b = (if k = -4 then 0 else 1) → G 4 [some (.ref 0), some (.int k)] [.int b, .ref 0] (mdZ s A x) := by
    intro b hb
    refine hG 4 _ _ _ ?_
    refine And.intro ⟨s, A, x, _, _, rfl, rfl⟩ ?_
    rintro r L' ⟨rfl, hL⟩
    replace hL : L' = mdR (mdZ s A (x)) (x_mu (rX (mdZ s A (x))) (b) (2)) := hL
    rw [zR, zM] at hL
    obtain ⟨y, hy⟩ : ∃ q, q = x_mu (x) (b) (2) := ⟨_, rfl⟩
    rw [← hy] at hL
    subst hL
    refine And.intro (zI_pre s A (y) ⟨ht, ht2, (by rw [hy]; exact (zJ_mu hJ _ _).1)⟩) ?_
    rintro r L' ⟨rfl, hL⟩
    replace hL : L' = mdR (mdZ s A (y)) (x_nx (bF (mdZ s A (y)) 8) (oI (mdZ s A (y)) 0 15) (rX (mdZ s A (y)))) := hL
    rw [zR, zM, zB8, zO15] at hL
    obtain ⟨y2, hy2⟩ : ∃ q, q = x_nx (A 8) (s 15) (y) := ⟨_, rfl⟩
    rw [← hy2] at hL
    subst hL
    have e : x_one (A 8) (s 15) x = x_one3 k (x_one2 k y2) := by rw [x_one, x_one1, ← hk, ← hb, ← hy, ← hy2]
    refine And.intro (vp_in_nI (n := 0) (N := 53) (by decide) (by decide)) ?_
    refine And.intro (fun q => ?_) (fun q => ?_)
    · have q : k = 0 := q
      exact g6 y2 1 e (by rw [p_flg, if_pos q])
    · have q : ¬ k = 0 := q
      exact g6 y2 0 e (by rw [p_flg, if_neg q])
  have g2 : ∀ c, c = k → G 2 [some (.ref 0), none] [.int c] (mdZ s A x) := by
    intro c hc
    refine hG 2 _ _ _ (And.intro (fun q => ?_) (fun q => ?_))
    · have q : c = -4 := q
      rw [hc] at q ⊢
      exact g4 0 (by rw [if_pos q])
    · have q : ¬ c = -4 := q
      rw [hc] at q ⊢
      exact g4 1 (by rw [if_neg q])
  refine hG 0 _ _ _ (And.intro (fun h => ?_) (fun h => ?_))
  rotate_left
  · have h : ¬ z_fa x = 0 := h
    exact g2 (-4) (by rw [hk, r_kd, if_neg h])
  have h : z_fa x = 0 := h
  refine And.intro (fun h2 => ?_) (fun h2 => ?_)
  rotate_left
  · have h2 : ¬ z_so x = 1 := h2
    exact g2 (-4) (by rw [hk, r_kd, if_pos h, if_neg h2])
  have h2 : z_so x = 1 := h2
  obtain ⟨_, u, hu, hut⟩ := hJ
  refine And.intro ⟨zs s x, zA A x, u, t, rfl, mdZ_W s A x, hu, by omega, ht, ht2⟩ ?_
  intro r hr
  obtain ⟨c, hc⟩ : ∃ c, c = p_mkn (A 8) (s 15) (z_po x) (z_fr x) := ⟨_, rfl⟩
  obtain rfl : r = some (.int c) := by rw [hc]; exact hr
  exact g2 c (by rw [hk, r_kd, if_pos h, if_pos h2, hc])
