/-! ===== WishClerkModel: dates ===== -/
def p_mdl (d : Nat → Int32) (x : Int32) : Nat → Int32
  | 0 => 0
  | j + 1 => if p_hb x (nI j) = 0 then p_mdl d x j else if p_mdl d x j < d j then d j else p_mdl d x j
def p_md1 (ye nd : Nat → Int32) (g : Int32) (n : Nat) (d : Nat → Int32) : Nat → Nat → Int32
  | 0 => d
  | i + 1 => upd (p_md1 ye nd g n d i) i (ye i + (if p_hb g (nI i) = 0 then 0 else p_mdl (p_md1 ye nd g n d i) (nd i) n))
def p_mdr (ye nd : Nat → Int32) (g : Int32) (n : Nat) (d : Nat → Int32) : Nat → Nat → Int32
  | 0 => q_zk d 0 n
  | r + 1 => p_md1 ye nd g n (p_mdr ye nd g n d r) n
/-- does one of them go round -/
def p_mdg (st : Nat → Int32) (n : Nat) (g : Int32) : Nat → Nat → Int32
  | 0, _ => 0
  | r + 1, i => if p_hb g (nI i) = 0 then p_mdg st n g r (i + 1) else if p_mgo st n (nI i) = 0 then p_mdg st n g r (i + 1) else 1
def r_mdate (y : Int32) (n : Nat) (st ye d : Nat → Int32) (w : Int32) : Int32 := if p_in y w = 0 then -1 else if p_mdg st n (p_fw (fun i => st (10 + i)) n ((1 : Int32) <<< (w &&& 31))) n 0 = 0 then p_mdr ye (fun i => st (10 + i)) (p_fw (fun i => st (10 + i)) n ((1 : Int32) <<< (w &&& 31))) n d 8 w.toNatClampNeg else -4
def c_X6_date : sCtr := ((yX6_date, cX6_date, 7, (some .int)), (7, 1, 3, 68), false,
  mdfp,
  fun vs L => ∃ (s : Nat → Int32) (A : Nat → Nat → Int32) (w : Int32) (n : Nat), vs = [.ref 0, .int w] ∧ L = mdW s A ∧ s 3 = nI n ∧ n ≤ 8,
  fun vs L r L' => r = some (.int (r_mdate (oI L 0 3) (oI L 0 3).toNatClampNeg (bF L 1) (bF L 3) (bF L 13) (vI vs 1))) ∧ ∃ f, L' = mdW (oI L 0) (va_up (bF L) 13 f))
theorem sta_X6_date : s_Sta c_X6_date := ⟨⟨by decide +kernel, by decide +kernel, by decide +kernel⟩, List.mem_of_getElem? (i := 1178) (by decide +kernel), List.mem_of_getElem? (i := 70) (by decide +kernel), ⟨List.mem_of_getElem? (i := 1176) (by decide +kernel), List.mem_of_getElem? (i := 1177) (by decide +kernel), Or.inl ⟨_, rfl, rfl⟩⟩⟩

def k_X6_date : List sBk := [
  (0, false, [true, true, false, false, false, false, false], [o0 0 (.aload_n 0), o0 1 (.iload_n 1), oC 2 (.invokevirtual 185) [1015] c_X6_isWish, oN 5 (.ifCond .ne 5) [1], oK 8 (.iconst (-1)) (.int (-1)), o0 9 .ireturn]),
  (10, false, [true, true, false, false, false, false, false], [o0 10 (.aload_n 0), oK 11 (.iconst 1) (.int 1), o0 12 (.iload_n 1), o0 13 .ishl, oC 14 (.invokevirtual 189) [1019] c_X6_follow, o0 17 (.istore_n 2), oK 18 (.iconst 0) (.int 0), o0 19 (.istore_n 3), oN 20 .nop [2]]),
  (20, true, [true, true, true, true, false, false, false], [o0 20 (.iload_n 3), o0 21 (.aload_n 0), oN 22 (.getfield 85) [6, 3, 825], oN 25 (.if_icmp .ge 36) [4], o0 28 (.iload_n 2), o0 29 (.iload_n 3), o0 30 .ishr, oK 31 (.iconst 1) (.int 1), o0 32 .iand, oK 33 (.iconst 1) (.int 1), oN 34 (.if_icmp .ne 14) [3], o0 37 (.aload_n 0), o0 38 (.iload_n 3), oC 39 (.invokevirtual 247) [1179] c_X6_goesRound, oN 42 (.ifCond .eq 6) [3], oK 45 (.bipush (-4)) (.int (-4)), o0 47 .ireturn]),
  (48, false, [true, true, true, true, false, false, false], [o0 48 (.aload_n 0), oN 49 (.getfield 47) [6, 26, 848], o0 52 (.iload_n 3), oK 53 (.iconst 0) (.int 0), o0 54 .iastore, oK 55 (.iinc 3 1) (.int 1), oN 58 (.goto (-38)) [2]]),
  (61, false, [true, true, true, false, false, false, false], [oK 61 (.iconst 0) (.int 0), o0 62 (.istore_n 3), oN 63 .nop [5]]),
  (63, true, [true, true, true, true, false, false, false], [o0 63 (.iload_n 3), oK 64 (.bipush 8) (.int 8), oN 66 (.if_icmp .ge 120) [12], oK 69 (.iconst 0) (.int 0), o0 70 (.istore 4), oN 72 .nop [6]]),
  (72, true, [true, true, true, true, true, false, false], [o0 72 (.iload 4), o0 74 (.aload_n 0), oN 75 (.getfield 85) [6, 3, 825], oN 78 (.if_icmp .ge 102) [11], oK 81 (.iconst 0) (.int 0), o0 82 (.istore 5), oK 84 (.iconst 0) (.int 0), o0 85 (.istore 6), oN 87 .nop [7]]),
  (87, true, [true, true, true, true, true, true, true], [o0 87 (.iload 6), o0 89 (.aload_n 0), oN 90 (.getfield 85) [6, 3, 825], oN 93 (.if_icmp .ge 64) [10], o0 96 (.iload_n 2), o0 97 (.iload 4), o0 99 .ishr, oK 100 (.iconst 1) (.int 1), o0 101 .iand, oK 102 (.iconst 1) (.int 1), oN 103 (.if_icmp .ne 54) [10], o0 106 (.aload_n 0), oN 107 (.getfield 7) [6, 0, 822], oK 110 (.bipush 10) (.int 10), o0 112 (.iload 4), o0 114 .iadd, o0 115 .iaload, o0 116 (.iload 6), o0 118 .ishr, oK 119 (.iconst 1) (.int 1), o0 120 .iand, oK 121 (.iconst 1) (.int 1), oN 122 (.if_icmp .ne 25) [8], o0 125 (.aload_n 0), oN 126 (.getfield 47) [6, 26, 848], o0 129 (.iload 6), o0 131 .iaload, o0 132 (.iload 5), oN 134 (.if_icmp .le 13) [8], o0 137 (.aload_n 0), oN 138 (.getfield 47) [6, 26, 848], o0 141 (.iload 6), o0 143 .iaload, oN 144 (.goto 5) [9]]),
  (147, false, [true, true, true, true, true, true, true], [o0 147 (.iload 5), oN 149 .nop [9]]),
  (149, false, [true, true, true, true, true, false, true], [o0 149 (.istore 5), oK 151 (.iinc 6 1) (.int 1), oN 154 (.goto (-67)) [7]]),
  (157, false, [true, true, true, true, true, true, false], [o0 157 (.aload_n 0), oN 158 (.getfield 47) [6, 26, 848], o0 161 (.iload 4), o0 163 (.aload_n 0), oN 164 (.getfield 17) [6, 4, 826], o0 167 (.iload 4), o0 169 .iaload, o0 170 (.iload 5), o0 172 .iadd, o0 173 .iastore, oK 174 (.iinc 4 1) (.int 1), oN 177 (.goto (-105)) [6]]),
  (180, false, [true, true, true, true, false, false, false], [oK 180 (.iinc 3 1) (.int 1), oN 183 (.goto (-120)) [5]]),
  (186, false, [true, true, false, false, false, false, false], [o0 186 (.aload_n 0), oN 187 (.getfield 47) [6, 26, 848], o0 190 (.iload_n 1), o0 191 .iaload, o0 192 .ireturn])]
set_option maxRecDepth 100000 in
theorem ck_X6_date : s_ck RX6 cX6_date 7 3 68 k_X6_date = true := by decide +kernel

set_option maxRecDepth 100000 in
set_option maxHeartbeats 1000000 in
theorem ok_X6_date : s_Ok c_X6_date := by
  refine s_ok_of k_X6_date (by decide +kernel) sta_X6_date ck_X6_date (And.intro ok_X6_isWish (And.intro ok_X6_follow (And.intro ok_X6_goesRound trivial))) ?_
  rintro vs L ⟨s, A, w, n, rfl, rfl, hn, hn8⟩
  refine ⟨rfl, fun G hG => ?_⟩
  have e3 : (s 3).toNatClampNeg = n := by rw [hn, nI_clamp (by omega)]
  have fin : ∀ (a : Int32) (f : Nat → Int32), a = r_mdate (s 3) n (A 1) (A 3) (A 13) w → s_PP (some .int) false c_X6_date.2.2.2.2.2 [.ref 0, .int w] (mdW s A) (some (.int a)) (mdW s (va_up A 13 f)) := fun a f ha => ⟨rfl, ⟨by rw [ha, ← e3]; rfl, f, rfl⟩, fun h => by cases h⟩
  refine hG 0 _ _ _ (And.intro ⟨s, A, w, n, rfl, rfl, hn, hn8⟩ ?_)
  intro r hr
  obtain rfl : r = some (.int (p_in (s 3) w)) := hr
  refine And.intro (fun h => ?_) (fun h => ?_)
  · have t := fin (-1) (A 13) (by rw [r_mdate, if_pos h])
    rw [va_upI] at t
    exact t
  have h4 := h
  rw [hn] at h4
  obtain ⟨jw, hjw, hw⟩ := p_in_ne hn8 h4
  refine And.intro ⟨s, A, _, n, rfl, rfl, hn, hn8⟩ ?_
  intro r hr
  obtain ⟨nd, hnd⟩ : ∃ nd, nd = fun i => A 1 (10 + i) := ⟨_, rfl⟩
  obtain ⟨g, hg⟩ : ∃ g, g = p_fw nd n ((1 : Int32) <<< (w &&& 31)) := ⟨_, rfl⟩
  obtain rfl : r = some (.int g) := by rw [hg, hnd, ← e3]; exact hr
  have hP : ∀ a : Int32, a = (if p_mdg (A 1) n g n 0 = 0 then p_mdr (A 3) nd g n (A 13) 8 w.toNatClampNeg else -4) → a = r_mdate (s 3) n (A 1) (A 3) (A 13) w := fun a ha => by rw [ha, r_mdate, if_neg h, hg, hnd]
  have l7 : ∀ (c x : Int32) (i : Nat) (f : Nat → Int32), i < n → x = nI i → (∀ v : Int32, v = (if p_hb g (nI i) = 0 then 0 else p_mdl f (nd i) n) → G 6 [some (.ref 0), some (.int w), some (.int g), some (.int c), some (.int (x + 1)), none, none] [] (mdW s (va_up A 13 (upd f i (A 3 i + v))))) → ∀ (k j : Nat) (z v : Int32), j + k = n → z = nI j → (p_hb g (nI i) = 0 → j = 0) → v = p_mdl f (nd i) j → G 7 [some (.ref 0), some (.int w), some (.int g), some (.int c), some (.int x), some (.int v), some (.int z)] [] (mdW s (va_up A 13 f)) := by
    intro c x i f hi hx next k
    have hxi : vp_in x 8 := by rw [hx]; exact vp_in_nI (by omega) (by omega)
    have hxc : x.toNatClampNeg = i := by rw [hx, nI_clamp (by omega)]
    have e : (10 : Int32) + x = nI (10 + i) := by rw [hx]; exact nI_add 10 i
    have last : ∀ v : Int32, v = (if p_hb g (nI i) = 0 then 0 else p_mdl f (nd i) n) → vp_in x 8 ∧ vp_in x 8 ∧ G 6 [some (.ref 0), some (.int w), some (.int g), some (.int c), some (.int (x + 1)), none, none] [] (mdW s (va_up A 13 (upd f x.toNatClampNeg (A 3 x.toNatClampNeg + v)))) := fun v hv => ⟨hxi, hxi, by rw [hxc]; exact next v hv⟩
    induction k with
    | zero =>
      intro j z v hj hz h0 hv
      refine hG 7 _ _ _ (And.intro (fun q => ?_) (fun q => ?_))
      · have q : z < s 3 := q
        rw [hz, hn, nI_ltI (by omega) (by omega)] at q; omega
      · refine last v ?_
        by_cases hb : p_hb g (nI i) = 0
        · rw [if_pos hb, hv, h0 hb]; rfl
        · rw [if_neg hb, hv, show j = n by omega]
    | succ k ih =>
      intro j z v hj hz h0 hv
      have hzi : vp_in z 8 := by rw [hz]; exact vp_in_nI (by omega) (by omega)
      have hzc : z.toNatClampNeg = j := by rw [hz, nI_clamp (by omega)]
      refine hG 7 _ _ _ (And.intro (fun q => ?_) (fun q => ?_))
      · refine And.intro (fun h1 => ?_) (fun h1 => ?_)
        · have h1 : ¬ p_hb g (nI i) = 0 := by rw [← hx]; exact fun q => p_hb_0.mp q h1
          have nx : ∀ u : Int32, u = p_mdl f (nd i) (j + 1) → G 7 [some (.ref 0), some (.int w), some (.int g), some (.int c), some (.int x), some (.int u), some (.int (z + 1))] [] (mdW s (va_up A 13 f)) := fun u hu => ih (j + 1) _ _ (by omega) (by rw [hz, nI_1]) (fun q => absurd q h1) hu
          refine And.intro ?_ (And.intro (fun h2 => ?_) (fun h2 => ?_))
          · show vp_in ((10 : Int32) + x) 159
            rw [e]; exact vi159 _ (by omega)
          · have h2 : ¬ p_hb (A 1 ((10 : Int32) + x).toNatClampNeg) z = 0 := fun q => p_hb_0.mp q h2
            have h2 : ¬ p_hb (nd i) (nI j) = 0 := by rw [e, nI_clamp (by omega), hz] at h2; rw [hnd]; exact h2
            refine And.intro hzi (And.intro (fun h3 => ?_) (fun h3 => ?_))
            · have h3 : p_mdl f (nd i) j < f j := by rw [← hv, ← hzc]; exact h3
              refine And.intro hzi (nx _ ?_)
              show f z.toNatClampNeg = _
              rw [hzc, p_mdl, if_neg h2, if_pos h3]
            · have h3 : ¬ p_mdl f (nd i) j < f j := by rw [← hv, ← hzc]; exact h3
              exact nx _ (by rw [p_mdl, if_neg h2, if_neg h3, hv])
          · have h2 : p_hb (A 1 ((10 : Int32) + x).toNatClampNeg) z = 0 := p_hb_0.mpr h2
            have h2 : p_hb (nd i) (nI j) = 0 := by rw [e, nI_clamp (by omega), hz] at h2; rw [hnd]; exact h2
            exact nx _ (by rw [p_mdl, if_pos h2, hv])
        · have h1 : p_hb g (nI i) = 0 := by rw [← hx]; exact p_hb_0.mpr h1
          exact last v (by rw [if_pos h1, hv, h0 h1]; rfl)
      · have q : ¬ z < s 3 := q
        rw [hz, hn, nI_ltI (by omega) (by omega)] at q; omega
  have l6 : ∀ (c : Int32) (d : Nat → Int32), (∀ f, f = p_md1 (A 3) nd g n d n → G 5 [some (.ref 0), some (.int w), some (.int g), some (.int (c + 1)), none, none, none] [] (mdW s (va_up A 13 f))) → ∀ (k i : Nat) (x : Int32) (f : Nat → Int32), i + k = n → x = nI i → f = p_md1 (A 3) nd g n d i → G 6 [some (.ref 0), some (.int w), some (.int g), some (.int c), some (.int x), none, none] [] (mdW s (va_up A 13 f)) := by
    intro c d next k
    induction k with
    | zero =>
      intro i x f hi hx hf
      refine hG 6 _ _ _ (And.intro (fun q => ?_) (fun q => ?_))
      · have q : x < s 3 := q
        rw [hx, hn, nI_ltI (by omega) (by omega)] at q; omega
      · exact next f (by rw [hf, show i = n by omega])
    | succ k ih =>
      intro i x f hi hx hf
      refine hG 6 _ _ _ (And.intro (fun q => ?_) (fun q => ?_))
      · exact l7 c x i f (by omega) hx (fun v hv => ih (i + 1) _ _ (by omega) (by rw [hx, nI_1]) (by rw [p_md1, ← hf, hv])) n 0 0 0 (by omega) nI_0.symm (fun _ => rfl) rfl
      · have q : ¬ x < s 3 := q
        rw [hx, hn, nI_ltI (by omega) (by omega)] at q; omega
  have l5 : p_mdg (A 1) n g n 0 = 0 → ∀ (k r : Nat) (c : Int32) (f : Nat → Int32), r + k = 8 → c = nI r → f = p_mdr (A 3) nd g n (A 13) r → G 5 [some (.ref 0), some (.int w), some (.int g), some (.int c), none, none, none] [] (mdW s (va_up A 13 f)) := by
    intro hgo k
    induction k with
    | zero =>
      intro r c f hr hc hf
      refine hG 5 _ _ _ (And.intro (fun q => ?_) (fun q => ?_))
      · rw [hc, show (8 : Int32) = nI 8 from rfl, nI_ltI (by omega) (by omega)] at q; omega
      · refine And.intro ?_ (fin _ f (hP _ ?_))
        · show vp_in w 8
          rw [hw]; exact vp_in_nI (by omega) (by omega)
        · show f w.toNatClampNeg = _
          rw [if_pos hgo, hf, show r = 8 by omega]
    | succ k ih =>
      intro r c f hr hc hf
      refine hG 5 _ _ _ (And.intro (fun q => ?_) (fun q => ?_))
      · exact l6 c f (fun f2 hf2 => ih (r + 1) _ _ (by omega) (by rw [hc, nI_1]) (by rw [hf2, hf, p_mdr])) n 0 0 f (by omega) nI_0.symm rfl
      · rw [hc, show (8 : Int32) = nI 8 from rfl, nI_ltI (by omega) (by omega)] at q; omega
  have l2 : ∀ (k i : Nat) (x : Int32) (f : Nat → Int32), i + k = n → x = nI i → f = q_zk (A 13) 0 i → p_mdg (A 1) n g k i = p_mdg (A 1) n g n 0 → G 2 [some (.ref 0), some (.int w), some (.int g), some (.int x), none, none, none] [] (mdW s (va_up A 13 f)) := by
    intro k
    induction k with
    | zero =>
      intro i x f hi hx hf hq
      refine hG 2 _ _ _ (And.intro (fun q => ?_) (fun q => ?_))
      · have q : x < s 3 := q
        rw [hx, hn, nI_ltI (by omega) (by omega)] at q; omega
      · exact l5 (by rw [← hq]; rfl) 8 0 0 f (by omega) nI_0.symm (by rw [hf, p_mdr, show i = n by omega])
    | succ k ih =>
      intro i x f hi hx hf hq
      have hxi : vp_in x 8 := by rw [hx]; exact vp_in_nI (by omega) (by omega)
      have hxc : x.toNatClampNeg = i := by rw [hx, nI_clamp (by omega)]
      have nx : p_mdg (A 1) n g k (i + 1) = p_mdg (A 1) n g n 0 → vp_in x 8 ∧ G 2 [some (.ref 0), some (.int w), some (.int g), some (.int (x + 1)), none, none, none] [] (mdW s (va_up A 13 (upd f x.toNatClampNeg 0))) := fun hq2 => ⟨hxi, ih (i + 1) _ _ (by omega) (by rw [hx, nI_1]) (by rw [hxc, hf, ← q_zkS, Nat.zero_add]) hq2⟩
      refine hG 2 _ _ _ (And.intro (fun q => ?_) (fun q => ?_))
      · refine And.intro (fun h1 => ?_) (fun h1 => ?_)
        · have h1 : ¬ p_hb g (nI i) = 0 := by rw [← hx]; exact fun q => p_hb_0.mp q h1
          refine And.intro ⟨s, va_up A 13 f, x, i, n, rfl, rfl, hn, hn8, hx, by omega⟩ ?_
          intro r hr
          obtain ⟨o, ho⟩ : ∃ o, o = p_mgo (A 1) n (nI i) := ⟨_, rfl⟩
          obtain rfl : r = some (.int o) := by rw [ho, ← e3, ← hx]; exact hr
          refine And.intro (fun h2 => ?_) (fun h2 => ?_)
          · have h2 : p_mgo (A 1) n (nI i) = 0 := by rw [← ho]; exact h2
            exact nx (by rw [← hq, p_mdg, if_neg h1, if_pos h2])
          · have h2 : ¬ p_mgo (A 1) n (nI i) = 0 := by rw [← ho]; exact h2
            exact fin _ f (hP _ (by rw [← hq, p_mdg, if_neg h1, if_neg h2, if_neg (by decide)]))
        · have h1 : p_hb g (nI i) = 0 := by rw [← hx]; exact p_hb_0.mpr h1
          exact nx (by rw [← hq, p_mdg, if_pos h1])
      · have q : ¬ x < s 3 := q
        rw [hx, hn, nI_ltI (by omega) (by omega)] at q; omega
  have l0 := l2 n 0 0 (A 13) (by omega) nI_0.symm (q_zk0 _ _).symm rfl
  rw [va_upI] at l0
  exact l0
