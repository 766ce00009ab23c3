/-! ===== WishClerkModel: text ===== -/
def r_mtx (L : sH) : zT × Nat := x_tx (bF L 8) (oI L 0 15) (rX L)
def q_mtx (L : sH) (r : Option Value) (L' : sH) (X : zT × Nat) : Prop :=
  (0 < z_fa X.1 → r = some (.int (-10 - z_wr X.1)) ∧ L' = mdZ (upd (oI L 0) 15 0) (bF L) X.1) ∧
  (¬ 0 < z_fa X.1 → r = some (.int (nI X.2)) ∧ L' = mdW (q_kdS (zs (upd (oI L 0) 15 0) X.1)) (q_kd (zA (bF L) X.1) (z_dW X.1).toNatClampNeg))
def c_X6_text : sCtr := ((yX6_text, cX6_text, 2, (some .int)), (7, 0, 6, 136), false,
  mdfp,
  fun vs L => ∃ (s : Nat → Int32) (A : Nat → Nat → Int32) (x : zT) (t : Nat), vs = [.ref 0] ∧ L = mdZ s A x ∧ s 15 = nI t ∧ t ≤ 160,
  fun _ L r L' => q_mtx L r L' (r_mtx L))
theorem sta_X6_text : s_Sta c_X6_text := ⟨⟨by decide +kernel, by decide +kernel, by decide +kernel⟩, List.mem_of_getElem? (i := 931) (by decide +kernel), List.mem_of_getElem? (i := 70) (by decide +kernel), ⟨List.mem_of_getElem? (i := 929) (by decide +kernel), List.mem_of_getElem? (i := 930) (by decide +kernel), Or.inl ⟨_, rfl, rfl⟩⟩⟩

def k_X6_text : List sBk := [
  (0, false, [true, false], [oK 0 (.iconst 0) (.int 0), o0 1 (.istore_n 1), o0 2 (.aload_n 0), oK 3 (.iconst 0) (.int 0), oN 4 (.putfield 97) [6, 20, 842], o0 7 (.aload_n 0), oK 8 (.iconst 0) (.int 0), oN 9 (.putfield 106) [6, 16, 838], o0 12 (.aload_n 0), oC 13 (.invokevirtual 59) [814] c_X6_firstDraft, o0 16 (.aload_n 0), oC 17 (.invokevirtual 143) [932] c_X6_next, oN 20 .nop [1]]),
  (20, true, [true, true], [o0 20 (.aload_n 0), oN 21 (.getfield 97) [6, 20, 842], oN 24 (.ifCond .ne 20) [2], o0 27 (.aload_n 0), oN 28 (.getfield 121) [6, 18, 840], oN 31 (.ifCond .eq 13) [2], o0 34 (.aload_n 0), oC 35 (.invokevirtual 179) [948] c_X6_readLine, oK 38 (.iinc 1 1) (.int 1), oN 41 (.goto (-21)) [1]]),
  (44, false, [true, true], [o0 44 (.aload_n 0), oN 45 (.getfield 97) [6, 20, 842], oN 48 (.ifCond .ne 36) [5], o0 51 (.aload_n 0), o0 52 (.aload_n 0), oN 53 (.getfield 76) [6, 12, 834], o0 56 (.aload_n 0), oN 57 (.getfield 65) [6, 7, 829], oN 60 (.if_icmp .ge 18) [3], o0 63 (.aload_n 0), oN 64 (.getfield 79) [6, 13, 835], o0 67 (.aload_n 0), oN 68 (.getfield 69) [6, 8, 830], oN 71 (.if_icmp .ge 7) [3], oK 74 (.iconst 1) (.int 1), oN 75 (.goto 4) [4]]),
  (78, false, [true, true], [oK 78 (.iconst 0) (.int 0), oN 79 .nop [4]]),
  (79, true, [true, true], [oK 79 (.bipush 6) (.int 6), oC 81 (.invokevirtual 135) [944] c_X6_must, oN 84 .nop [5]]),
  (84, true, [true, true], [o0 84 (.aload_n 0), oK 85 (.iconst 0) (.int 0), oN 86 (.putfield 94) [6, 15, 837], o0 89 (.aload_n 0), oN 90 (.getfield 97) [6, 20, 842], oN 93 (.ifCond .le 11) [6], oK 96 (.bipush (-10)) (.int (-10)), o0 98 (.aload_n 0), oN 99 (.getfield 103) [6, 21, 843], o0 102 .isub, o0 103 .ireturn]),
  (104, false, [true, true], [o0 104 (.aload_n 0), oC 105 (.invokevirtual 62) [818] c_X6_keepDraft, o0 108 (.iload_n 1), o0 109 .ireturn])]
set_option maxRecDepth 100000 in
theorem ck_X6_text : s_ck RX6 cX6_text 2 6 136 k_X6_text = true := by decide +kernel

set_option maxRecDepth 100000 in
set_option maxHeartbeats 4000000 in
theorem ok_X6_text : s_Ok c_X6_text := by
  refine s_ok_of k_X6_text (by decide +kernel) sta_X6_text ck_X6_text (And.intro ok_X6_firstDraft (And.intro ok_X6_next (And.intro ok_X6_readLine (And.intro ok_X6_must (And.intro ok_X6_keepDraft trivial))))) ?_
  rintro vs L ⟨s, A, x, t, rfl, rfl, ht, ht2⟩
  refine ⟨rfl, fun G hG => ?_⟩
  obtain ⟨X, hX⟩ : ∃ X, X = x_tx (A 8) (s 15) x := ⟨_, rfl⟩
  have hr : r_mtx (mdZ s A x) = X := by rw [r_mtx, zR, zB8, zO15, hX]
  have g5 : ∀ (z : zT) (n b : Nat) (c : Int32), X = (z, n) → c = nI n → b ≤ 8 → z_dW z = nI b → G 5 [some (.ref 0), some (.int c)] [] (mdZ s A z) := by
    intro z n b c hz hc hb8 hb
    refine hG 5 _ _ _ (And.intro (fun q => ?_) (fun q => ?_))
    · have q : 0 < z_fa z := q
      refine ⟨rfl, ?_, fun h => by cases h⟩
      show q_mtx (mdZ s A x) (some (.int (-10 - z_wr z))) (mdZ (upd s 15 0) A z) (r_mtx (mdZ s A x))
      rw [hr, hz]
      exact ⟨fun _ => ⟨rfl, rfl⟩, fun q2 => absurd q q2⟩
    · have q : ¬ 0 < z_fa z := q
      refine And.intro ⟨zs (upd s 15 0) z, zA A z, b, rfl, mdZ_W (upd s 15 0) A z, hb, hb8⟩ ?_
      rintro r L' ⟨rfl, hL⟩
      replace hL : L' = mdW (q_kdS (oI (mdZ (upd s 15 0) A z) 0)) (q_kd (bF (mdZ (upd s 15 0) A z)) (oI (mdZ (upd s 15 0) A z) 0 8).toNatClampNeg) := hL
      obtain rfl : L' = mdW (q_kdS (zs (upd s 15 0) z)) (q_kd (zA A z) (z_dW z).toNatClampNeg) := hL
      refine ⟨rfl, ?_, fun h => by cases h⟩
      show q_mtx (mdZ s A x) (some (.int c)) (mdW (q_kdS (zs (upd s 15 0) z)) (q_kd (zA A z) (z_dW z).toNatClampNeg)) (r_mtx (mdZ s A x))
      rw [hr, hz]
      exact ⟨fun q2 => absurd q2 q, fun _ => ⟨by rw [hc], rfl⟩⟩
  have g1 : ∀ (f lo n b : Nat) (y : zT) (c : Int32), zJ y t → b ≤ 8 → z_dW y = nI b → (z_fa y = 0 → (∃ m : Nat, m ≤ 6 ∧ z_dr y 29 = nI m) ∧ (¬ z_so y = 0 → zK y lo t ∧ t < f + lo)) → c = nI n → X = (x_te (x_tl (A 8) (s 15) f y n).1, (x_tl (A 8) (s 15) f y n).2) → G 1 [some (.ref 0), some (.int c)] [] (mdZ s A y) := by
    have ex : ∀ (n b : Nat) (y : zT) (c : Int32), b ≤ 8 → z_dW y = nI b → c = nI n → X = (x_te y, n) → z_fa y = 0 → s_go none k_X6_text G (s_PP (some .int) false c_X6_text.2.2.2.2.2 [.ref 0] (mdZ s A x)) false 99 2 [some (.ref 0), some (.int c)] [] (mdZ s A y) := by
      intro n b y c hb8 hb hc hz h0
      have g4 : ∀ d, d = (if z_h1 y < z_dP y then (if z_hW y < z_dW y then 1 else 0) else 0) → G 4 [some (.ref 0), some (.int c)] [.int d, .ref 0] (mdZ s A y) := by
        intro d hd
        refine hG 4 _ _ _ ?_
        refine And.intro ⟨s, A, y, _, _, rfl, rfl⟩ ?_
        rintro r L' ⟨rfl, hL⟩
        replace hL : L' = mdR (mdZ s A (y)) (x_mu (rX (mdZ s A (y))) (d) (6)) := hL
        rw [zR, zM] at hL
        obtain ⟨zz, hzz⟩ : ∃ q, q = x_mu (y) (d) (6) := ⟨_, rfl⟩
        rw [← hzz] at hL
        subst hL
        exact g5 zz n b c (by rw [hz, x_te, ← hd, ← hzz]) hc hb8 (by rw [hzz, zk_dW (x_mu_k y d 6)]; exact hb)
      refine And.intro (fun _ => ?_) (fun q => absurd h0 q)
      refine And.intro (fun q => ?_) (fun q => ?_)
      · have q : z_h1 y < z_dP y := q
        refine And.intro (fun q2 => ?_) (fun q2 => ?_)
        · have q2 : z_hW y < z_dW y := q2
          exact g4 1 (by rw [if_pos q, if_pos q2])
        · have q2 : ¬ z_hW y < z_dW y := q2
          exact g4 0 (by rw [if_pos q, if_neg q2])
      · have q : ¬ z_h1 y < z_dP y := q
        exact g4 0 (by rw [if_neg q])
    have ex2 : ∀ (n b : Nat) (y : zT) (c : Int32), b ≤ 8 → z_dW y = nI b → c = nI n → X = (x_te y, n) → ¬ z_fa y = 0 → s_go none k_X6_text G (s_PP (some .int) false c_X6_text.2.2.2.2.2 [.ref 0] (mdZ s A x)) false 99 2 [some (.ref 0), some (.int c)] [] (mdZ s A y) := by
      intro n b y c hb8 hb hc hz h0
      refine And.intro (fun q => absurd q h0) (fun _ => ?_)
      exact g5 y n b c (by rw [hz, x_te, x_mu_f _ _ _ h0]) hc hb8 hb
    intro f
    induction f with
    | zero =>
      intro lo n b y c hJy hb8 hb hinv hc hz
      refine hG 1 _ _ _ (And.intro (fun h => ?_) (fun h => ?_))
      · have h : z_fa y = 0 := h
        refine And.intro (fun h2 => ?_) (fun h2 => ?_)
        · exact ex n b y c hb8 hb hc hz h
        · have h2 : ¬ z_so y = 0 := h2
          obtain ⟨⟨p, _, q1, q2⟩, q3⟩ := (hinv h).2 h2
          omega
      · have h : ¬ z_fa y = 0 := h
        exact ex2 n b y c hb8 hb hc hz h
    | succ f ih =>
      intro lo n b y c hJy hb8 hb hinv hc hz
      refine hG 1 _ _ _ (And.intro (fun h => ?_) (fun h => ?_))
      rotate_left
      · have h : ¬ z_fa y = 0 := h
        exact ex2 n b y c hb8 hb hc (by rw [hz, x_tl, if_neg h]) h
      have h : z_fa y = 0 := h
      refine And.intro (fun h2 => ?_) (fun h2 => ?_)
      · have h2 : z_so y = 0 := h2
        exact ex n b y c hb8 hb hc (by rw [hz, x_tl, if_pos h, if_pos h2]) h
      have h2 : ¬ z_so y = 0 := h2
      obtain ⟨⟨m, hm6, hm⟩, hK⟩ := hinv h
      obtain ⟨hK1, hK2⟩ := hK h2
      refine And.intro ⟨s, A, y, t, b, m, rfl, rfl, ht, ht2, hJy, h, hb, hb8, hm, hm6⟩ ?_
      rintro r L' ⟨rfl, hL⟩
      replace hL : L' = mdR (mdZ s A y) (x_line (bF (mdZ s A y) 8) (oI (mdZ s A y) 0 15) (rX (mdZ s A y))) := hL
      rw [zR, zM, zB8, zO15] at hL
      have hok := x_line_ok (ta := A 8) ht2 ⟨hJy, hK1⟩ h hb hb8 hm hm6
      rw [← ht] at hok
      obtain ⟨y2, hy2⟩ : ∃ y2, y2 = x_line (A 8) (s 15) y := ⟨_, rfl⟩
      rw [← hy2] at hL hok
      subst hL
      obtain ⟨o1, ⟨b2, hb28, hb2⟩, o3⟩ := hok
      refine ih (lo + 1) (n + 1) b2 y2 _ o1 hb28 hb2 (fun q => ⟨(o3 q).2, fun q2 => ⟨(o3 q).1 q2, by omega⟩⟩) (by rw [hc, nI_1]) ?_
      rw [hz, x_tl, if_pos h, if_neg h2, ← hy2]
  refine hG 0 _ _ _ (And.intro ⟨zs s (u_po (u_fa x 0) 0), zA A (u_po (u_fa x 0) 0), rfl, mdZ_W s A (u_po (u_fa x 0) 0)⟩ ?_)
  rintro r L' ⟨rfl, hL⟩
  obtain rfl : L' = mdZ s A (x_t0 x) := hL
  refine And.intro (zI_pre s A (x_t0 x) ⟨ht, ht2, ⟨0, rfl, Nat.zero_le _⟩⟩) ?_
  rintro r L' ⟨rfl, hL⟩
  replace hL : L' = mdR (mdZ s A (x_t0 x)) (x_nx (bF (mdZ s A (x_t0 x)) 8) (oI (mdZ s A (x_t0 x)) 0 15) (rX (mdZ s A (x_t0 x)))) := hL
  rw [zR, zM, zB8, zO15] at hL
  obtain ⟨y1, hy1⟩ : ∃ q, q = x_nx (A 8) (s 15) (x_t0 x) := ⟨_, rfl⟩
  rw [← hy1] at hL
  subst hL
  have hJ1 : zJ y1 t := by rw [hy1, ht]; exact x_nx_I0 ht2 ⟨0, rfl, Nat.zero_le _⟩ (show ¬ (0 : Int32) < 0 by decide)
  have hk1 : zk8 y1 = zk8 (x_t0 x) := by rw [hy1, x_nx_k]
  refine g1 162 0 0 0 y1 _ hJ1 (by decide) (by rw [zk_dW hk1]; rfl) (fun _ => ⟨⟨0, by decide, by rw [zk_dr hk1]; rfl⟩, fun _ => ⟨?_, by omega⟩⟩) nI_0.symm (by rw [hX, x_tx, ← hy1])
  obtain ⟨⟨p, q1, q2⟩, _⟩ := hJ1
  exact ⟨p, q1, Nat.zero_le _, q2⟩
