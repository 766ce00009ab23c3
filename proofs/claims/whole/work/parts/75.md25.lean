/-! ===== WishClerkModel: the costs of rows ===== -/
theorem lt8_orI (a b : Nat) : nI a ||| nI b = nI (a ||| b) := by
  apply Int32.toBitVec_inj.1
  show BitVec.ofNat 32 a ||| BitVec.ofNat 32 b = BitVec.ofNat 32 (a ||| b)
  apply BitVec.eq_of_getLsbD_eq
  intro i hi
  simp [hi]
def lt8 (v : Int32) : Prop := ∃ j : Nat, j < 256 ∧ v = nI j
theorem lt8_or {a b : Int32} : lt8 a → lt8 b → lt8 (a ||| b) := by
  rintro ⟨i, hi, rfl⟩ ⟨j, hj, rfl⟩
  exact ⟨i ||| j, Nat.or_lt_two_pow (n := 8) hi hj, lt8_orI i j⟩
theorem lt8_0 : lt8 0 := ⟨0, by decide, rfl⟩
theorem p_ga_lt8 {f : Nat → Int32} : ∀ {n : Nat}, (∀ i, i < n → lt8 (f i)) → ∀ g, lt8 (p_ga f n g)
  | 0, _, _ => lt8_0
  | n + 1, h, g => by
    rw [p_ga]
    have ih := p_ga_lt8 (f := f) (n := n) (fun i hi => h i (by omega)) g
    split
    · exact ih
    · exact lt8_or ih (h n (by omega))
theorem p_it_lt8 {nd : Nat → Int32} {n : Nat} (h : ∀ i, i < n → lt8 (nd i)) {g : Int32} (hg : lt8 g) : ∀ k, lt8 (p_it nd n 0 g k)
  | 0 => hg
  | k + 1 => by
    rw [p_it, p_st, p_andm1]
    exact lt8_or (p_it_lt8 h hg k) (p_ga_lt8 h _)
theorem lt8_bit {w : Nat} (h : w < 8) : lt8 ((1 : Int32) <<< (nI w &&& 31)) := by
  rw [p_2n w (by omega)]
  exact ⟨2 ^ w, by have := Nat.pow_lt_pow_right (a := 2) (by decide) h; omega, rfl⟩
theorem p_as_lt {on nd cl : Nat → Int32} {n : Nat} (hnd : ∀ i, i < n → lt8 (nd i)) (l0 h0 ba : Int32) {w : Nat} (hw : w < 8) {h : Int32} (hh : lt8 h) (d : Nat) (li : Int32) : p_as on nd cl n l0 h0 ba (nI w) h d li = -4 ∨ lt8 (p_as on nd cl n l0 h0 ba (nI w) h d li) := by
  unfold p_as
  split
  · split
    · exact Or.inr (lt8_or hh (p_it_lt8 hnd (lt8_bit hw) 8))
    · exact Or.inl rfl
  · exact Or.inl rfl
/-- the rows' graph: from a state by a wish, or -4 -/
def p_AS (on nd cl : Nat → Int32) (n : Nat) (l0 h0 ba : Int32) (d : Nat) (li : Int32) (h w : Nat) : Int32 := p_as on nd cl n l0 h0 ba (nI w) (nI h) d li
def p_LB (on nd : Nat → Int32) (n : Nat) (l0 h0 : Int32) (h : Nat) : Int32 := p_lb on nd n l0 h0 (nI h)
def p_fcS (AS : Nat → Nat → Int32) (pr : Nat → Int32) (h k : Nat) (g : Nat → Int32) : Nat → Int32 := fun j => if g h < 1000000 then (if AS h k = -4 then g j else upd g (AS h k).toNatClampNeg (if g h + pr k < g (AS h k).toNatClampNeg then g h + pr k else g (AS h k).toNatClampNeg) j) else g j
def p_fcI (AS : Nat → Nat → Int32) (pr : Nat → Int32) (h : Nat) (g : Nat → Int32) : Nat → Nat → Int32
  | 0 => g
  | k + 1 => p_fcS AS pr h k (p_fcI AS pr h g k)
def p_fc (AS : Nat → Nat → Int32) (pr : Nat → Int32) (h0 n : Nat) : Nat → Nat → Int32
  | 0 => upd (fun _ => 1000000) h0 0
  | h + 1 => p_fcI AS pr h (p_fc AS pr h0 n h) n
def agr (f g : Nat → Int32) : Prop := ∀ j, j < 256 → f j = g j
theorem agr_upd {f g : Nat → Int32} (h : agr f g) (k : Nat) (v : Int32) : agr (upd f k v) (upd g k v) := by
  intro j hj
  unfold upd
  split
  · rfl
  · exact h j hj
theorem p_fcI_stop (AS : Nat → Nat → Int32) (pr : Nat → Int32) (h : Nat) (g : Nat → Int32) {i : Nat} (hs : ¬ p_fcI AS pr h g i h < 1000000) : ∀ d, p_fcI AS pr h g (i + d) = p_fcI AS pr h g i
  | 0 => rfl
  | d + 1 => by
    show p_fcS AS pr h (i + d) (p_fcI AS pr h g (i + d)) = _
    rw [p_fcI_stop AS pr h g hs d]
    funext j
    rw [p_fcS, if_neg hs]
def mdAS (s : Nat → Int32) (A : Nat → Nat → Int32) (e li : Int32) : Nat → Nat → Int32 := p_AS (mOn A) (mNd A) (mCl A) (s 3).toNatClampNeg (A 1 0) (A 1 26) (A 1 1) e.toNatClampNeg li
def c_X6_findCosts : sCtr := ((yX6_findCosts, cX6_findCosts, 7, none), (7, 2, 4, 100), false,
  mdfp,
  fun vs L => ∃ (s : Nat → Int32) (A : Nat → Nat → Int32) (e li : Int32) (n d : Nat), vs = [.ref 0, .int e, .int li] ∧ L = mdW s A ∧ s 3 = nI n ∧ n ≤ 8 ∧ e = nI d ∧ d ≤ 8 ∧ (∀ i, i < n → lt8 (A 1 (10 + i))) ∧ lt8 (A 1 26),
  fun vs L r L' => r = none ∧ ∃ f : Nat → Int32, L' = mdW (oI L 0) (va_up (bF L) 9 f) ∧ agr f (p_fc (mdAS (oI L 0) (bF L) (vI vs 1) (vI vs 2)) (bF L 4) (bF L 1 26).toNatClampNeg (oI L 0 3).toNatClampNeg 256))
theorem sta_X6_findCosts : s_Sta c_X6_findCosts := ⟨⟨by decide +kernel, by decide +kernel, by decide +kernel⟩, List.mem_of_getElem? (i := 1153) (by decide +kernel), List.mem_of_getElem? (i := 70) (by decide +kernel), ⟨List.mem_of_getElem? (i := 1152) (by decide +kernel), List.mem_of_getElem? (i := 59) (by decide +kernel), Or.inl ⟨_, rfl, rfl⟩⟩⟩

def k_X6_findCosts : List sBk := [
  (0, false, [true, true, true, false, false, false, false], [oK 0 (.iconst 0) (.int 0), o0 1 (.istore_n 3), oN 2 .nop [1]]),
  (2, true, [true, true, true, true, false, false, false], [o0 2 (.iload_n 3), oK 3 (.sipush 256) (.int 256), oN 6 (.if_icmp .ge 17) [2], o0 9 (.aload_n 0), oN 10 (.getfield 35) [6, 22, 844], o0 13 (.iload_n 3), oV 14 (.ldc 239) [1154] (.int 1000000), o0 16 .iastore, oK 17 (.iinc 3 1) (.int 1), oN 20 (.goto (-18)) [1]]),
  (23, false, [true, true, true, false, false, false, false], [o0 23 (.aload_n 0), oN 24 (.getfield 35) [6, 22, 844], o0 27 (.aload_n 0), oN 28 (.getfield 7) [6, 0, 822], oK 31 (.bipush 26) (.int 26), o0 33 .iaload, oK 34 (.iconst 0) (.int 0), o0 35 .iastore, oK 36 (.iconst 0) (.int 0), o0 37 (.istore_n 3), oN 38 .nop [3]]),
  (38, true, [true, true, true, true, false, false, false], [o0 38 (.iload_n 3), oK 39 (.sipush 256) (.int 256), oN 42 (.if_icmp .ge 103) [9], oK 45 (.iconst 0) (.int 0), o0 46 (.istore 4), oN 48 .nop [4]]),
  (48, true, [true, true, true, true, true, false, false], [o0 48 (.iload 4), o0 50 (.aload_n 0), oN 51 (.getfield 85) [6, 3, 825], oN 54 (.if_icmp .ge 85) [8], o0 57 (.aload_n 0), oN 58 (.getfield 35) [6, 22, 844], o0 61 (.iload_n 3), o0 62 .iaload, oV 63 (.ldc 239) [1154] (.int 1000000), oN 65 (.if_icmp .ge 74) [8], o0 68 (.aload_n 0), o0 69 (.iload 4), o0 71 (.iload_n 3), o0 72 (.iload_n 1), o0 73 (.iload_n 2), oC 74 (.invokevirtual 228) [1138] c_X6_askedBy, o0 77 (.istore 5), o0 79 (.aload_n 0), oN 80 (.getfield 35) [6, 22, 844], o0 83 (.iload_n 3), o0 84 .iaload, o0 85 (.aload_n 0), oN 86 (.getfield 20) [6, 5, 827], o0 89 (.iload 4), o0 91 .iaload, o0 92 .iadd, o0 93 (.istore 6), o0 95 (.iload 5), oK 97 (.bipush (-4)) (.int (-4)), oN 99 (.if_icmp .eq 34) [7], o0 102 (.aload_n 0), oN 103 (.getfield 35) [6, 22, 844], o0 106 (.iload 5), o0 108 (.iload 6), o0 110 (.aload_n 0), oN 111 (.getfield 35) [6, 22, 844], o0 114 (.iload 5), o0 116 .iaload, oN 117 (.if_icmp .ge 8) [5], o0 120 (.iload 6), oN 122 (.goto 10) [6]]),
  (125, false, [true, true, true, true, true, true, false], [o0 125 (.aload_n 0), oN 126 (.getfield 35) [6, 22, 844], o0 129 (.iload 5), o0 131 .iaload, oN 132 .nop [6]]),
  (132, false, [true, true, true, true, true, false, false], [o0 132 .iastore, oN 133 .nop [7]]),
  (133, false, [true, true, true, true, true, false, false], [oK 133 (.iinc 4 1) (.int 1), oN 136 (.goto (-88)) [4]]),
  (139, false, [true, true, true, true, false, false, false], [oK 139 (.iinc 3 1) (.int 1), oN 142 (.goto (-104)) [3]]),
  (145, false, [false, false, false, false, false, false, false], [o0 145 .return_])]
set_option maxRecDepth 100000 in
theorem ck_X6_findCosts : s_ck RX6 cX6_findCosts 7 4 100 k_X6_findCosts = true := by decide +kernel

set_option maxRecDepth 100000 in
set_option maxHeartbeats 4000000 in
theorem ok_X6_findCosts : s_Ok c_X6_findCosts := by
  refine s_ok_of k_X6_findCosts (by decide +kernel) sta_X6_findCosts ck_X6_findCosts (And.intro ok_X6_askedBy trivial) ?_
  rintro vs L ⟨s, A, e, li, n, d, rfl, rfl, hn, hn8, he, hd, hnd, h0, hh0, hh0e⟩
  refine ⟨rfl, fun G hG => ?_⟩
  have e3 : (s 3).toNatClampNeg = n := by rw [hn, nI_clamp (by omega)]
  have e26 : (A 1 26).toNatClampNeg = h0 := by rw [hh0e, nI_clamp (by omega)]
  obtain ⟨AS, hAS⟩ : ∃ AS, AS = mdAS s A e li := ⟨_, rfl⟩
  have hASe : ∀ h w : Nat, AS h w = p_asM s A (nI w) (nI h) e li := fun h w => by rw [hAS]; rfl
  have hASl : ∀ h w : Nat, h < 256 → w < n → AS h w = -4 ∨ lt8 (AS h w) := by
    intro h w hh hw
    rw [hASe, p_asM, e3]
    exact p_as_lt hnd _ _ _ (by omega) ⟨h, hh, rfl⟩ _ _
  have fin : ∀ f : Nat → Int32, agr f (p_fc AS (A 4) h0 n 256) → s_PP none false c_X6_findCosts.2.2.2.2.2 [.ref 0, .int e, .int li] (mdW s A) none (mdW s (va_up A 9 f)) := fun f hf => ⟨rfl, ⟨rfl, f, rfl, by rw [← e3, ← e26, hAS] at hf; exact hf⟩, fun h => by cases h⟩
  have l3 : ∀ (k h : Nat) (x : Int32) (f : Nat → Int32), h + k = 256 → x = nI h → agr f (p_fc AS (A 4) h0 n h) → G 3 [some (.ref 0), some (.int e), some (.int li), some (.int x), none, none, none] [] (mdW s (va_up A 9 f)) := by
    intro k
    induction k with
    | zero =>
      intro h x f hk hx hf
      refine hG 3 _ _ _ (And.intro (fun q => ?_) (fun q => ?_))
      · rw [hx, show (256 : Int32) = nI 256 from rfl, nI_ltI (by omega) (by omega)] at q; omega
      · exact fin f (by rw [show h = 256 by omega] at hf; exact hf)
    | succ k ih =>
      intro h x f hk hx hf
      have hinh : vp_in x 256 := by rw [hx]; exact vp_in_nI (by omega) (by omega)
      have hxc : x.toNatClampNeg = h := by rw [hx, nI_clamp (by omega)]
      have l4 : ∀ (k2 i : Nat) (y : Int32) (f : Nat → Int32), i + k2 = n → y = nI i → agr f (p_fcI AS (A 4) h (p_fc AS (A 4) h0 n h) i) → G 4 [some (.ref 0), some (.int e), some (.int li), some (.int x), some (.int y), none, none] [] (mdW s (va_up A 9 f)) := by
        intro k2
        induction k2 with
        | zero =>
          intro i y f hi hy hf
          refine hG 4 _ _ _ (And.intro (fun q => ?_) (fun q => ?_))
          · have q : y < s 3 := q
            rw [hy, hn, nI_ltI (by omega) (by omega)] at q; omega
          · exact ih (h + 1) _ f (by omega) (by rw [hx, nI_1]) (by rw [show i = n by omega] at hf; exact hf)
        | succ k2 ih2 =>
          intro i y f hi hy hf
          have hyc : y.toNatClampNeg = i := by rw [hy, nI_clamp (by omega)]
          refine hG 4 _ _ _ (And.intro (fun q => ?_) (fun q => ?_))
          rotate_left
          · have q : ¬ y < s 3 := q
            rw [hy, hn, nI_ltI (by omega) (by omega)] at q; omega
          refine And.intro hinh ?_
          have hfh : f x.toNatClampNeg = p_fcI AS (A 4) h (p_fc AS (A 4) h0 n h) i h := by rw [hxc]; exact hf h (by omega)
          refine And.intro (fun q2 => ?_) (fun q2 => ?_)
          rotate_left
          · have q2 : ¬ f x.toNatClampNeg < 1000000 := q2
            rw [hfh] at q2
            refine ih (h + 1) _ f (by omega) (by rw [hx, nI_1]) ?_
            have e := p_fcI_stop AS (A 4) h (p_fc AS (A 4) h0 n h) q2 (n - i)
            rw [show i + (n - i) = n by omega] at e
            show agr f (p_fcI AS (A 4) h (p_fc AS (A 4) h0 n h) n)
            rw [e]
            exact hf
          have q2 : f x.toNatClampNeg < 1000000 := q2
          refine And.intro ⟨s, va_up A 9 f, _, _, _, _, n, d, rfl, rfl, hn, hn8, he, hd⟩ ?_
          intro r hr
          obtain ⟨th, hth⟩ : ∃ th, th = AS h i := ⟨_, rfl⟩
          obtain rfl : r = some (.int th) := by rw [hth, hASe, ← hx, ← hy]; exact hr
          refine And.intro hinh (And.intro (by rw [hy]; exact vp_in_nI (by omega) (by omega)) ?_)
          have hq2 : p_fcI AS (A 4) h (p_fc AS (A 4) h0 n h) i h < 1000000 := by rw [← hfh]; exact q2
          refine And.intro (fun q3 => ?_) (fun q3 => ?_)
          · have q3 : th = -4 := q3
            refine ih2 (i + 1) _ f (by omega) (by rw [hy, nI_1]) ?_
            intro j hj
            rw [p_fcI, p_fcS, if_pos hq2, ← hth, if_pos q3]
            exact hf j hj
          · have q3 : ¬ th = -4 := q3
            obtain ⟨b, hb, hbe⟩ : lt8 th := by
              rcases hASl h i (by omega) (by omega) with q | q
              · rw [← hth] at q; exact absurd q q3
              · rw [← hth] at q; exact q
            have hbc : th.toNatClampNeg = b := by rw [hbe, nI_clamp (by omega)]
            have hinb : vp_in th 256 := by rw [hbe]; exact vp_in_nI hb (by omega)
            have key : ∀ v : Int32, v = (if f h + A 4 i < f b then f h + A 4 i else f b) → agr (upd f th.toNatClampNeg v) (p_fcI AS (A 4) h (p_fc AS (A 4) h0 n h) (i + 1)) := by
              intro v hv
              rw [hbc, hv]
              intro j hj
              rw [p_fcI, p_fcS, if_pos hq2, ← hth, if_neg q3, hbc, ← hf h (by omega), ← hf b hb]
              exact agr_upd hf b _ j hj
            refine And.intro hinb (And.intro (fun q4 => ?_) (fun q4 => ?_))
            · have q4 : f x.toNatClampNeg + A 4 y.toNatClampNeg < f th.toNatClampNeg := q4
              refine And.intro hinb ?_
              exact ih2 (i + 1) _ _ (by omega) (by rw [hy, nI_1]) (key (f x.toNatClampNeg + A 4 y.toNatClampNeg) (by rw [hxc, hyc, hbc] at q4; rw [if_pos q4, hxc, hyc]))
            · have q4 : ¬ f x.toNatClampNeg + A 4 y.toNatClampNeg < f th.toNatClampNeg := q4
              refine And.intro hinb (And.intro hinb ?_)
              exact ih2 (i + 1) _ _ (by omega) (by rw [hy, nI_1]) (key (f th.toNatClampNeg) (by rw [hxc, hyc, hbc] at q4; rw [if_neg q4, hbc]))
      refine hG 3 _ _ _ (And.intro (fun q => ?_) (fun q => ?_))
      · exact l4 n 0 _ f (by omega) nI_0.symm hf
      · rw [hx, show (256 : Int32) = nI 256 from rfl, nI_ltI (by omega) (by omega)] at q; omega
  have l1 : ∀ (k i : Nat) (x : Int32) (f : Nat → Int32), i + k = 256 → x = nI i → (∀ j, j < i → f j = 1000000) → G 1 [some (.ref 0), some (.int e), some (.int li), some (.int x), none, none, none] [] (mdW s (va_up A 9 f)) := by
    intro k
    induction k with
    | zero =>
      intro i x f hi hx hf
      refine hG 1 _ _ _ (And.intro (fun q => ?_) (fun q => ?_))
      · rw [hx, show (256 : Int32) = nI 256 from rfl, nI_ltI (by omega) (by omega)] at q; omega
      · refine And.intro (vp_in_nI (n := 26) (N := 159) (by decide) (by decide)) (And.intro ?_ ?_)
        · show vp_in (A 1 26) 256
          rw [hh0e]; exact vp_in_nI hh0 (by omega)
        · refine l3 256 0 _ (upd f (A 1 26).toNatClampNeg 0) (by omega) nI_0.symm ?_
          rw [e26, p_fc]
          exact agr_upd (fun j hj => hf j (by omega)) h0 0
    | succ k ih =>
      intro i x f hi hx hf
      have hxc : x.toNatClampNeg = i := by rw [hx, nI_clamp (by omega)]
      refine hG 1 _ _ _ (And.intro (fun q => ?_) (fun q => ?_))
      · refine And.intro (by rw [hx]; exact vp_in_nI (by omega) (by omega)) ?_
        refine ih (i + 1) _ (upd f x.toNatClampNeg 1000000) (by omega) (by rw [hx, nI_1]) ?_
        intro j hj
        rw [hxc]
        unfold upd
        split
        · rfl
        · exact hf j (by omega)
      · rw [hx, show (256 : Int32) = nI 256 from rfl, nI_ltI (by omega) (by omega)] at q; omega
  have l := l1 256 0 0 (A 9) (by omega) nI_0.symm (fun j hj => by omega)
  rw [va_upI] at l
  exact hG 0 _ _ _ l
