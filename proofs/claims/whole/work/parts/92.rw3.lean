/-! ===== Rows: chart, leadTo, everAlive ===== -/
def cAS (L : sH) (e : Int32) : Nat → Nat → Int32 := p_AS (bF L 8) (bF L 9) (bF L 10) (oI L 5 1).toNatClampNeg (oI L 5 3) (oI L 5 5) (oI L 5 4) e.toNatClampNeg (oI L 5 6)
def cLB (L : sH) : Nat → Int32 := p_LB (bF L 8) (bF L 9) (oI L 5 1).toNatClampNeg (oI L 5 3) (oI L 5 5)
theorem bOK_fo {s : Nat → Int32} {F : Nat → Nat → Int32} {n h0 : Nat} (h : bOK s F n h0) : ∀ i, i < n → lt8 (F 6 i) := by
  obtain ⟨hn1, hn, hs5, hh0, hnd, hon, hfo, hwa⟩ := h
  intro i hi
  have := p_2le n hn
  have := foN_lt hn hnd hi
  exact ⟨_, by omega, hfo i hi⟩
def c_X2_chart : sCtr := ((yX2_chart, cX2_chart, 4, none), (3, 2, 5, 121), false,
  rwfp,
  fun vs L => ∃ (a b : Int32) (M : Nat → Nat → Int32) (s : Nat → Int32) (F : Nat → Nat → Int32) (e : Int32) (n h0 d : Nat), vs = [.ref 0, .ref 5, .int e] ∧ L = rwW a b M s F ∧ bOK s F n h0 ∧ e = nI d ∧ d ≤ 8,
  fun vs L r L' => r = none ∧ ∃ M', L' = rwW (oI L 5 5) ((1 : Int32) <<< (oI L 5 1 &&& 31)) M' (oI L 5) (bG 5 L) ∧ CHt (cAS L (vI vs 2)) (cLB L) (oI L 5 5).toNatClampNeg (oI L 5 1).toNatClampNeg (M' 1) (M' 2))
theorem sta_X2_chart : s_Sta c_X2_chart := ⟨⟨by decide +kernel, by decide +kernel, by decide +kernel⟩, List.mem_of_getElem? (i := 603) (by decide +kernel), List.mem_of_getElem? (i := 68) (by decide +kernel), ⟨List.mem_of_getElem? (i := 601) (by decide +kernel), List.mem_of_getElem? (i := 602) (by decide +kernel), Or.inl ⟨_, rfl, rfl⟩⟩⟩

def k_X2_chart : List sBk := [
  (0, false, [true, true, true, false], [o0 0 (.aload_n 0), o0 1 (.aload_n 1), oN 2 (.getfield 25) [0, 5, 132], oN 5 (.putfield 31) [2, 4, 259], o0 8 (.aload_n 0), o0 9 (.aload_n 1), oC 10 (.invokevirtual 34) [604] c_X0_sets, oN 13 (.putfield 38) [2, 5, 260], o0 16 (.aload_n 0), oN 17 (.getfield 31) [2, 4, 259], o0 20 (.istore_n 3), oN 21 .nop [1]]),
  (21, true, [true, true, true, true], [o0 21 (.iload_n 3), o0 22 (.aload_n 0), oN 23 (.getfield 38) [2, 5, 260], oN 26 (.if_icmp .ge 23) [2], o0 29 (.aload_n 0), oN 30 (.getfield 9) [2, 0, 255], o0 33 (.iload_n 3), oK 34 (.iconst (-1)) (.int (-1)), o0 35 .iastore, o0 36 (.aload_n 0), oN 37 (.getfield 21) [2, 3, 258], o0 40 (.iload_n 3), oK 41 (.iconst 0) (.int 0), o0 42 .bastore, oK 43 (.iinc 3 1) (.int 1), oN 46 (.goto (-25)) [1]]),
  (49, false, [true, true, true, false], [o0 49 (.aload_n 0), oN 50 (.getfield 21) [2, 3, 258], o0 53 (.aload_n 0), oN 54 (.getfield 31) [2, 4, 259], oK 57 (.iconst 1) (.int 1), o0 58 .bastore, o0 59 (.aload_n 0), oN 60 (.getfield 15) [2, 1, 256], o0 63 (.aload_n 0), oN 64 (.getfield 31) [2, 4, 259], o0 67 (.aload_n 1), oN 68 (.getfield 41) [0, 3, 125], o0 71 .iastore, o0 72 (.aload_n 0), oN 73 (.getfield 31) [2, 4, 259], o0 76 (.istore_n 3), oN 77 .nop [3]]),
  (77, true, [true, true, true, true], [o0 77 (.iload_n 3), o0 78 (.aload_n 0), oN 79 (.getfield 38) [2, 5, 260], oN 82 (.if_icmp .ge 44) [5], o0 85 (.aload_n 0), oN 86 (.getfield 21) [2, 3, 258], o0 89 (.iload_n 3), o0 90 .baload, oN 91 (.ifCond .eq 29) [4], o0 94 (.aload_n 0), oN 95 (.getfield 9) [2, 0, 255], o0 98 (.iload_n 3), o0 99 (.aload_n 0), o0 100 (.aload_n 1), o0 101 (.iload_n 3), o0 102 (.iload_n 2), oC 103 (.invokevirtual 44) [608] c_X2_grantedAt, o0 106 .iastore, o0 107 (.aload_n 0), o0 108 (.aload_n 1), o0 109 (.iload_n 3), oC 110 (.invokevirtual 48) [614] c_X2_bringToLife, o0 113 (.aload_n 0), o0 114 (.aload_n 1), o0 115 (.iload_n 3), oK 116 (.iconst 0) (.int 0), oC 117 (.invokevirtual 52) [618] c_X2_markNext, oN 120 .nop [4]]),
  (120, false, [true, true, true, true], [oK 120 (.iinc 3 1) (.int 1), oN 123 (.goto (-46)) [3]]),
  (126, false, [false, false, false, false], [o0 126 .return_])]
set_option maxRecDepth 100000 in
theorem ck_X2_chart : s_ck RX2 cX2_chart 4 5 121 k_X2_chart = true := by decide +kernel

set_option maxRecDepth 100000 in
set_option maxHeartbeats 4000000 in
theorem ok_X2_chart : s_Ok c_X2_chart := by
  refine s_ok_of k_X2_chart (by decide +kernel) sta_X2_chart ck_X2_chart (And.intro ok_X0_sets (And.intro ok_X2_grantedAt (And.intro ok_X2_bringToLife (And.intro ok_X2_markNext trivial)))) ?_
  rintro vs L ⟨a, b, M, s, F, e, n, h0, d, rfl, rfl, hb, he, hd⟩
  refine ⟨rfl, fun G hG => ?_⟩
  have hfo := bOK_fo hb
  obtain ⟨hn1, hn, hs5, hh0, hnd, hon, hfo', hwa⟩ := id hb
  have h28 := p_2le n hn
  have e1 : (s 1).toNatClampNeg = n := by rw [hn1, nI_clamp (by omega)]
  have e5 : (s 5).toNatClampNeg = h0 := by rw [hs5, nI_clamp (by omega)]
  have ed : e.toNatClampNeg = d := by rw [he, nI_clamp (by omega)]
  obtain ⟨S, hS⟩ : ∃ S, S = (1 : Int32) <<< (s 1 &&& 31) := ⟨_, rfl⟩
  have hSn : S = nI (2 ^ n) := by rw [hS, hn1, p_2n n (by omega)]
  obtain ⟨AS, hAS⟩ : ∃ AS, AS = p_AS (F 3) (F 4) (F 5) n (s 3) (nI h0) (s 4) d (s 6) := ⟨_, rfl⟩
  obtain ⟨LB, hLB⟩ : ∃ LB, LB = p_LB (F 3) (F 4) n (s 3) (nI h0) := ⟨_, rfl⟩
  have hst := fun k mv al mk (q0 : h0 ≤ k) (q1 : k < 2 ^ n) => InvC_step (d := d) (k := k) (mv := mv) (al := al) (mk := mk) hb q0 q1
  rw [← hAS, ← hLB] at hst
  have fin : ∀ M', CHt AS LB h0 n (M' 1) (M' 2) → s_PP none false c_X2_chart.2.2.2.2.2 [.ref 0, .ref 5, .int e] (rwW a b M s F) none (rwW (s 5) S M' s F) := by
    intro M' hc
    refine ⟨rfl, ⟨rfl, M', by rw [hS]; rfl, ?_⟩, fun h => by cases h⟩
    rw [hAS, hLB] at hc
    show CHt (p_AS (F 3) (F 4) (F 5) (s 1).toNatClampNeg (s 3) (s 5) (s 4) e.toNatClampNeg (s 6)) (p_LB (F 3) (F 4) (s 1).toNatClampNeg (s 3) (s 5)) (s 5).toNatClampNeg (s 1).toNatClampNeg (M' 1) (M' 2)
    rw [e5, e1, ed, hs5]
    exact hc
  have l3 : ∀ (i k : Nat) (x : Int32) (M' : Nat → Nat → Int32), k + i = 2 ^ n → h0 ≤ k → x = nI k → InvC AS LB h0 n k (M' 1) (M' 2) (M' 4) → G 3 [some (.ref 0), some (.ref 5), some (.int e), some (.int x)] [] (rwW (s 5) S M' s F) := by
    intro i
    induction i with
    | zero =>
      intro k x M' hk hk0 hx hI
      refine hG 3 _ _ _ (And.intro (fun q => ?_) (fun q => ?_))
      · have q : x < S := q
        rw [hx, hSn, nI_ltI (by omega) (by omega)] at q; omega
      · rw [show k = 2 ^ n by omega] at hI
        exact fin M' (CHt_of hI)
    | succ i ih =>
      intro k x M' hk hk0 hx hI
      have hin : vp_in x 256 := by rw [hx]; exact vp_in_nI (by omega) (by omega)
      have hxc : x.toNatClampNeg = k := by rw [hx, nI_clamp (by omega)]
      have hs2 := hst k (M' 1) (M' 2) (M' 4) hk0 (by omega) hI
      refine hG 3 _ _ _ (And.intro (fun q => ?_) (fun q => ?_))
      rotate_left
      · have q : ¬ x < S := q
        rw [hx, hSn, nI_ltI (by omega) (by omega)] at q; omega
      refine And.intro hin (And.intro (fun q2 => ?_) (fun q2 => ?_))
      · have q2 : M' 4 x.toNatClampNeg = 0 := q2
        rw [hxc] at q2
        exact ih (k + 1) _ M' (by omega) (by omega) (by rw [hx, nI_1]) (hs2.1 q2)
      have q2 : ¬ M' 4 x.toNatClampNeg = 0 := q2
      rw [hxc] at q2
      refine And.intro ⟨s 5, S, M', s, F, x, e, k, n, d, rfl, rfl, hx, by omega, hn1, hn, he, hd⟩ ?_
      intro r hr
      obtain ⟨v, hv⟩ : ∃ v, v = p_gr (F 3) (F 4) (F 5) n (s 6) (s 4) (nI k) (M' 2 k) d n := ⟨_, rfl⟩
      have hr : r = some (.int (p_gr (F 3) (F 4) (F 5) (s 1).toNatClampNeg (s 6) (s 4) x (M' 2 x.toNatClampNeg) e.toNatClampNeg (s 1).toNatClampNeg)) := hr
      rw [e1, ed, hxc, hx, ← hv] at hr
      subst hr
      refine And.intro hin ?_
      refine And.intro ⟨s 5, S, va_up M' 1 (upd (M' 1) x.toNatClampNeg v), s, F, x, k, n, rfl, rfl, hx, by omega, hn1, hn, hfo⟩ ?_
      rintro r L' ⟨rfl, hL⟩
      replace hL : L' = rwW (s 5) S (va_up (va_up M' 1 (upd (M' 1) x.toNatClampNeg v)) 2 (p_bl (upd (M' 1) x.toNatClampNeg v x.toNatClampNeg) (F 6) (F 7) x (M' 2) (s 1).toNatClampNeg)) s F := hL
      rw [e1, show upd (M' 1) x.toNatClampNeg v x.toNatClampNeg = v by rw [upd, if_pos rfl], hxc] at hL
      obtain ⟨m1, hm1⟩ : ∃ m, m = upd (M' 1) k v := ⟨_, rfl⟩
      obtain ⟨m2, hm2⟩ : ∃ m, m = p_bl v (F 6) (F 7) x (M' 2) n := ⟨_, rfl⟩
      rw [← hm1, ← hm2] at hL
      subst hL
      refine And.intro ⟨s 5, S, va_up (va_up M' 1 m1) 2 m2, s, F, x, 0, k, n, rfl, rfl, hx, by omega, hn1, hn, hfo⟩ ?_
      rintro r L' ⟨rfl, hL⟩
      replace hL : L' = rwW (s 5) S (va_up (va_up (va_up M' 1 m1) 2 m2) 4 (p_mn (m1 x.toNatClampNeg &&& (0 ^^^ (-1))) (F 6) x (M' 4) (s 1).toNatClampNeg)) s F := hL
      rw [e1, hxc, show m1 k = v by rw [hm1, upd, if_pos rfl]] at hL
      obtain ⟨m4, hm4⟩ : ∃ m, m = p_mn (v &&& (0 ^^^ (-1))) (F 6) x (M' 4) n := ⟨_, rfl⟩
      rw [← hm4] at hL
      subst hL
      refine ih (k + 1) _ (va_up (va_up (va_up M' 1 m1) 2 m2) 4 m4) (by omega) (by omega) (by rw [hx, nI_1]) ?_
      have k2 := hs2.2 q2
      rw [← hv, ← hx, ← hm1, ← hm2, ← hm4] at k2
      exact k2
  have l1 : ∀ (i k : Nat) (x : Int32) (M' : Nat → Nat → Int32), k + i = 2 ^ n → h0 ≤ k → x = nI k → (∀ j, h0 ≤ j → j < k → M' 1 j = -1 ∧ M' 4 j = 0) → G 1 [some (.ref 0), some (.ref 5), some (.int e), some (.int x)] [] (rwW (s 5) S M' s F) := by
    intro i
    induction i with
    | zero =>
      intro k x M' hk hk0 hx hI
      refine hG 1 _ _ _ (And.intro (fun q => ?_) (fun q => ?_))
      · have q : x < S := q
        rw [hx, hSn, nI_ltI (by omega) (by omega)] at q; omega
      · have hin5 : vp_in (s 5) 256 := by rw [hs5]; exact vp_in_nI (by omega) (by omega)
        refine And.intro hin5 (And.intro hin5 ?_)
        refine l3 (2 ^ n - h0) h0 _ (va_up (va_up M' 4 (upd (M' 4) (s 5).toNatClampNeg 1)) 2 (upd (M' 2) (s 5).toNatClampNeg (s 3))) (by omega) (Nat.le_refl _) hs5 ?_
        intro j hj0 hj
        obtain ⟨i1, i2⟩ := hI j hj0 (by omega)
        rw [p_mk_low AS h0 n h0 (Nat.le_refl _), e5]
        refine ⟨?_, fun q => ?_, fun q => by omega, fun q => by omega, fun _ => i1⟩
        · show upd (M' 4) h0 1 j = upd (fun _ => 0) h0 1 j
          unfold upd
          split
          · rfl
          · exact i2
        · show upd (M' 2) h0 (s 3) j = LB j
          by_cases e0 : j = h0
          · rw [upd, if_pos e0, e0, hLB, p_LB, p_lb, dN_nI (by omega) (by omega)]
            have z : dN h0 h0 = 0 := by
              apply sub8_eq
              · intro i hi
                rw [dN_bit (by omega)] at hi
                exact absurd hi.1 hi.2
              · intro i hi
                rw [Nat.zero_testBit] at hi; cases hi
            have z2 : fwN (tn (F 4)) n 0 = 0 := by
              apply sub8_eq
              · refine itN_min (fun i hi => hi) ?_ 8
                intro i hi
                rw [gaN_bit] at hi
                obtain ⟨w, _, h2, _⟩ := hi
                rw [Nat.zero_testBit] at h2; cases h2
              · intro i hi
                rw [Nat.zero_testBit] at hi; cases hi
            rw [z, fw_nI hn hnd (Nat.two_pow_pos n), z2]
            have z3 : p_ga (F 3) n (nI 0) = 0 := by
              rw [ga_nI (f' := tn (F 3)) (by decide) hn (fun w hw => (tn_e (m := 8) (by decide) (hon w hw)).1)]
              have : gaN (tn (F 3)) n 0 = 0 := by
                apply sub8_eq
                · intro i hi
                  rw [gaN_bit] at hi
                  obtain ⟨w, _, h2, _⟩ := hi
                  rw [Nat.zero_testBit] at h2; cases h2
                · intro i hi
                  rw [Nat.zero_testBit] at hi; cases hi
              rw [this]; rfl
            rw [z3, p_or0]
          · rw [upd, if_neg e0] at q; exact absurd q (by decide)
    | succ i ih =>
      intro k x M' hk hk0 hx hI
      have hin : vp_in x 256 := by rw [hx]; exact vp_in_nI (by omega) (by omega)
      have hxc : x.toNatClampNeg = k := by rw [hx, nI_clamp (by omega)]
      refine hG 1 _ _ _ (And.intro (fun q => ?_) (fun q => ?_))
      rotate_left
      · have q : ¬ x < S := q
        rw [hx, hSn, nI_ltI (by omega) (by omega)] at q; omega
      refine And.intro hin (And.intro hin ?_)
      refine ih (k + 1) _ (va_up (va_up M' 1 (upd (M' 1) x.toNatClampNeg (-1))) 4 (upd (M' 4) x.toNatClampNeg 0)) (by omega) (by omega) (by rw [hx, nI_1]) ?_
      intro j hj0 hj
      show upd (M' 1) x.toNatClampNeg (-1) j = -1 ∧ upd (M' 4) x.toNatClampNeg 0 j = 0
      rw [hxc]
      unfold upd
      by_cases e : j = k
      · rw [if_pos e, if_pos e]; exact ⟨rfl, rfl⟩
      · rw [if_neg e, if_neg e]; exact hI j hj0 (by omega)
  refine hG 0 _ _ _ (And.intro ⟨_, _, _, rfl, rfl⟩ ?_)
  intro r hr
  obtain rfl : r = some (.int S) := by rw [hS]; exact hr
  exact l1 (2 ^ n - h0) h0 _ M (by omega) (Nat.le_refl _) hs5 (fun j q1 q2 => by omega)
/-- the marks of leadTo, as it makes them -/
def p_lm (mv fo : Nat → Int32) (st : Int32) (n h0 : Nat) : Nat → Nat → Int32
  | 0 => upd (fun _ => 0) h0 1
  | k + 1 => fun j => if p_lm mv fo st n h0 k k = 0 then p_lm mv fo st n h0 k j else p_mn (mv k &&& (st ^^^ (-1))) fo (nI k) (p_lm mv fo st n h0 k) n j
def p_ldr (mv al fo : Nat → Int32) (st p : Int32) (n h0 : Nat) : Nat → Int32
  | 0 => 0
  | k + 1 => if p_lm mv fo st n h0 k k = 0 then p_ldr mv al fo st p n h0 k else if p_hb (al k) p = 0 then p_ldr mv al fo st p n h0 k else 1
theorem p_lm_low (mv fo : Nat → Int32) (st : Int32) (n h0 : Nat) : ∀ k, k ≤ h0 → p_lm mv fo st n h0 k = upd (fun _ => 0) h0 1
  | 0, _ => rfl
  | k + 1, h => by
    have ih := p_lm_low mv fo st n h0 k (by omega)
    funext j
    show (if p_lm mv fo st n h0 k k = 0 then p_lm mv fo st n h0 k j else p_mn (mv k &&& (st ^^^ (-1))) fo (nI k) (p_lm mv fo st n h0 k) n j) = _
    rw [ih, if_pos (by rw [upd, if_neg (by omega)])]
theorem p_ldr_low (mv al fo : Nat → Int32) (st p : Int32) (n h0 : Nat) : ∀ k, k ≤ h0 → p_ldr mv al fo st p n h0 k = 0
  | 0, _ => rfl
  | k + 1, h => by
    rw [p_ldr, p_lm_low _ _ _ _ _ k (by omega), if_pos (by rw [upd, if_neg (by omega)]), p_ldr_low mv al fo st p n h0 k (by omega)]
theorem p_ldr_1 (mv al fo : Nat → Int32) (st p : Int32) (n h0 : Nat) {k : Nat} (h : p_ldr mv al fo st p n h0 k = 1) : ∀ d, p_ldr mv al fo st p n h0 (k + d) = 1
  | 0 => h
  | d + 1 => by
    have ih := p_ldr_1 mv al fo st p n h0 h d
    show p_ldr mv al fo st p n h0 ((k + d) + 1) = 1
    rw [p_ldr]
    split
    · exact ih
    · split
      · exact ih
      · rfl
/-- marks agree where there are states -/
def agM (n h0 : Nat) (f g : Nat → Int32) : Prop := ∀ j, h0 ≤ j → j < 2 ^ n → f j = g j
theorem agM_mn {n h0 : Nat} {f g : Nat → Int32} (h : agM n h0 f g) (mv : Int32) (fo : Nat → Int32) (x : Int32) : ∀ i, agM n h0 (p_mn mv fo x f i) (p_mn mv fo x g i)
  | 0 => h
  | i + 1 => by
    have ih := agM_mn h mv fo x i
    intro j hj0 hj
    show (if p_hb mv (nI i) = 0 then p_mn mv fo x f i j else upd (p_mn mv fo x f i) (x ||| fo i).toNatClampNeg 1 j) = (if p_hb mv (nI i) = 0 then p_mn mv fo x g i j else upd (p_mn mv fo x g i) (x ||| fo i).toNatClampNeg 1 j)
    split
    · exact ih j hj0 hj
    · unfold upd
      split
      · rfl
      · exact ih j hj0 hj
def c_X2_leadTo : sCtr := ((yX2_leadTo, cX2_leadTo, 5, (some .boolean)), (3, 3, 2, 45), false,
  rwfp,
  fun vs L => ∃ (a b : Int32) (M : Nat → Nat → Int32) (s : Nat → Int32) (F : Nat → Nat → Int32) (p st : Int32) (n h0 : Nat), vs = [.ref 0, .ref 5, .int p, .int st] ∧ L = rwW a b M s F ∧ bOK s F n h0 ∧ a = nI h0 ∧ b = nI (2 ^ n),
  fun vs L r L' => r = some (.int (p_ldr (bF L 1) (bF L 2) (bF L 11) (vI vs 3) (vI vs 2) (oI L 5 1).toNatClampNeg (oI L 0 4).toNatClampNeg (oI L 0 5).toNatClampNeg)) ∧ ∃ g, L' = rwW (oI L 0 4) (oI L 0 5) (va_up (bF L) 4 g) (oI L 5) (bG 5 L))
theorem sta_X2_leadTo : s_Sta c_X2_leadTo := ⟨⟨by decide +kernel, by decide +kernel, by decide +kernel⟩, List.mem_of_getElem? (i := 653) (by decide +kernel), List.mem_of_getElem? (i := 68) (by decide +kernel), ⟨List.mem_of_getElem? (i := 651) (by decide +kernel), List.mem_of_getElem? (i := 652) (by decide +kernel), Or.inl ⟨_, rfl, rfl⟩⟩⟩

def k_X2_leadTo : List sBk := [
  (0, false, [true, true, true, true, false], [o0 0 (.aload_n 0), oN 1 (.getfield 31) [2, 4, 259], o0 4 (.istore 4), oN 6 .nop [1]]),
  (6, true, [true, true, true, true, true], [o0 6 (.iload 4), o0 8 (.aload_n 0), oN 9 (.getfield 38) [2, 5, 260], oN 12 (.if_icmp .ge 17) [2], o0 15 (.aload_n 0), oN 16 (.getfield 21) [2, 3, 258], o0 19 (.iload 4), oK 21 (.iconst 0) (.int 0), o0 22 .bastore, oK 23 (.iinc 4 1) (.int 1), oN 26 (.goto (-20)) [1]]),
  (29, false, [true, true, true, true, false], [o0 29 (.aload_n 0), oN 30 (.getfield 21) [2, 3, 258], o0 33 (.aload_n 0), oN 34 (.getfield 31) [2, 4, 259], oK 37 (.iconst 1) (.int 1), o0 38 .bastore, o0 39 (.aload_n 0), oN 40 (.getfield 31) [2, 4, 259], o0 43 (.istore 4), oN 45 .nop [3]]),
  (45, true, [true, true, true, true, true], [o0 45 (.iload 4), o0 47 (.aload_n 0), oN 48 (.getfield 38) [2, 5, 260], oN 51 (.if_icmp .ge 43) [6], o0 54 (.aload_n 0), oN 55 (.getfield 21) [2, 3, 258], o0 58 (.iload 4), o0 60 .baload, oN 61 (.ifCond .eq 27) [5], o0 64 (.aload_n 0), oN 65 (.getfield 15) [2, 1, 256], o0 68 (.iload 4), o0 70 .iaload, o0 71 (.iload_n 2), oC 72 (.invokestatic 59) [3, 0] c_X5_hasBit, oN 75 (.ifCond .eq 5) [4], oK 78 (.iconst 1) (.int 1), o0 79 .ireturn]),
  (80, false, [true, true, true, true, true], [o0 80 (.aload_n 0), o0 81 (.aload_n 1), o0 82 (.iload 4), o0 84 (.iload_n 3), oC 85 (.invokevirtual 52) [618] c_X2_markNext, oN 88 .nop [5]]),
  (88, false, [true, true, true, true, true], [oK 88 (.iinc 4 1) (.int 1), oN 91 (.goto (-46)) [3]]),
  (94, false, [false, false, false, false, false], [oK 94 (.iconst 0) (.int 0), o0 95 .ireturn])]
set_option maxRecDepth 100000 in
theorem ck_X2_leadTo : s_ck RX2 cX2_leadTo 5 2 45 k_X2_leadTo = true := by decide +kernel

set_option maxRecDepth 100000 in
set_option maxHeartbeats 4000000 in
theorem ok_X2_leadTo : s_Ok c_X2_leadTo := by
  refine s_ok_of k_X2_leadTo (by decide +kernel) sta_X2_leadTo ck_X2_leadTo (And.intro ok_X5_hasBit (And.intro ok_X2_markNext trivial)) ?_
  rintro vs L ⟨a, b, M, s, F, p, st, n, h0, rfl, rfl, hb, ha, hbe⟩
  refine ⟨rfl, fun G hG => ?_⟩
  have hfo := bOK_fo hb
  obtain ⟨hn1, hn, hs5, hh0, hnd, hon, hfo', hwa⟩ := id hb
  have h28 := p_2le n hn
  have e1 : (s 1).toNatClampNeg = n := by rw [hn1, nI_clamp (by omega)]
  have ea : a.toNatClampNeg = h0 := by rw [ha, nI_clamp (by omega)]
  have eb : b.toNatClampNeg = 2 ^ n := by rw [hbe, nI_clamp (by omega)]
  have fin : ∀ (v : Int32) (g : Nat → Int32), v = 0 ∨ v = 1 → v = p_ldr (M 1) (M 2) (F 6) st p n h0 (2 ^ n) → (v = 0 ∨ v = 1) ∧ s_PP (some .boolean) false c_X2_leadTo.2.2.2.2.2 [.ref 0, .ref 5, .int p, .int st] (rwW a b M s F) (some (.int v)) (rwW a b (va_up M 4 g) s F) := by
    intro v g h01 hv
    refine ⟨h01, rfl, ⟨?_, g, rfl⟩, fun h => by cases h⟩
    show some (Value.int v) = some (Value.int (p_ldr (M 1) (M 2) (F 6) st p (s 1).toNatClampNeg a.toNatClampNeg b.toNatClampNeg))
    rw [e1, ea, eb, hv]
  have l3 : ∀ (i k : Nat) (x : Int32) (g : Nat → Int32), k + i = 2 ^ n → h0 ≤ k → x = nI k → agM n h0 g (p_lm (M 1) (F 6) st n h0 k) → p_ldr (M 1) (M 2) (F 6) st p n h0 k = 0 → G 3 [some (.ref 0), some (.ref 5), some (.int p), some (.int st), some (.int x)] [] (rwW a b (va_up M 4 g) s F) := by
    intro i
    induction i with
    | zero =>
      intro k x g hk hk0 hx hI hl
      refine hG 3 _ _ _ (And.intro (fun q => ?_) (fun q => ?_))
      · have q : x < b := q
        rw [hx, hbe, nI_ltI (by omega) (by omega)] at q; omega
      · exact fin 0 g (Or.inl rfl) (by rw [← show k = 2 ^ n by omega, hl])
    | succ i ih =>
      intro k x g hk hk0 hx hI hl
      have hin : vp_in x 256 := by rw [hx]; exact vp_in_nI (by omega) (by omega)
      have hxc : x.toNatClampNeg = k := by rw [hx, nI_clamp (by omega)]
      refine hG 3 _ _ _ (And.intro (fun q => ?_) (fun q => ?_))
      rotate_left
      · have q : ¬ x < b := q
        rw [hx, hbe, nI_ltI (by omega) (by omega)] at q; omega
      refine And.intro hin (And.intro (fun q2 => ?_) (fun q2 => ?_))
      · have q2 : g x.toNatClampNeg = 0 := q2
        rw [hxc, hI k hk0 (by omega)] at q2
        refine ih (k + 1) _ g (by omega) (by omega) (by rw [hx, nI_1]) ?_ (by rw [p_ldr, if_pos q2, hl])
        intro j hj0 hj
        show g j = (if p_lm (M 1) (F 6) st n h0 k k = 0 then p_lm (M 1) (F 6) st n h0 k j else p_mn (M 1 k &&& (st ^^^ (-1))) (F 6) (nI k) (p_lm (M 1) (F 6) st n h0 k) n j)
        rw [if_pos q2]; exact hI j hj0 hj
      have q2 : ¬ g x.toNatClampNeg = 0 := q2
      rw [hxc, hI k hk0 (by omega)] at q2
      refine And.intro hin (And.intro ⟨_, _, rfl⟩ ?_)
      intro r hr
      obtain ⟨c, hc⟩ : ∃ c, c = p_hb (M 2 k) p := ⟨_, rfl⟩
      obtain rfl : r = some (.int c) := by rw [hc, ← hxc]; exact hr
      refine And.intro (fun q3 => ?_) (fun q3 => ?_)
      rotate_left
      · have q3 : ¬ c = 0 := q3
        refine fin 1 g (Or.inr rfl) ?_
        have k1 : p_ldr (M 1) (M 2) (F 6) st p n h0 (k + 1) = 1 := by rw [p_ldr, if_neg q2, ← hc, if_neg q3]
        have k2 := p_ldr_1 (M 1) (M 2) (F 6) st p n h0 k1 (2 ^ n - (k + 1))
        rw [show k + 1 + (2 ^ n - (k + 1)) = 2 ^ n by omega] at k2
        exact k2.symm
      have q3 : c = 0 := q3
      refine And.intro ⟨a, b, va_up M 4 g, s, F, x, st, k, n, rfl, rfl, hx, by omega, hn1, hn, hfo⟩ ?_
      rintro r L' ⟨rfl, hL⟩
      replace hL : L' = rwW a b (va_up (va_up M 4 g) 4 (p_mn (M 1 x.toNatClampNeg &&& (st ^^^ (-1))) (F 6) x g (s 1).toNatClampNeg)) s F := hL
      rw [e1, hxc, hx] at hL
      obtain ⟨g2, hg2⟩ : ∃ g2, g2 = p_mn (M 1 k &&& (st ^^^ (-1))) (F 6) (nI k) g n := ⟨_, rfl⟩
      rw [← hg2] at hL
      obtain rfl : L' = rwW a b (va_up M 4 g2) s F := hL
      refine ih (k + 1) _ g2 (by omega) (by omega) (by rw [hx, nI_1]) ?_ (by rw [p_ldr, if_neg q2, ← hc, if_pos q3, hl])
      intro j hj0 hj
      show g2 j = (if p_lm (M 1) (F 6) st n h0 k k = 0 then p_lm (M 1) (F 6) st n h0 k j else p_mn (M 1 k &&& (st ^^^ (-1))) (F 6) (nI k) (p_lm (M 1) (F 6) st n h0 k) n j)
      rw [if_neg q2, hg2]
      exact agM_mn hI _ _ _ n j hj0 hj
  have l1 : ∀ (i k : Nat) (x : Int32) (g : Nat → Int32), k + i = 2 ^ n → h0 ≤ k → x = nI k → (∀ j, h0 ≤ j → j < k → g j = 0) → G 1 [some (.ref 0), some (.ref 5), some (.int p), some (.int st), some (.int x)] [] (rwW a b (va_up M 4 g) s F) := by
    intro i
    induction i with
    | zero =>
      intro k x g hk hk0 hx hI
      refine hG 1 _ _ _ (And.intro (fun q => ?_) (fun q => ?_))
      · have q : x < b := q
        rw [hx, hbe, nI_ltI (by omega) (by omega)] at q; omega
      · refine And.intro (by show vp_in a 256; rw [ha]; exact vp_in_nI (by omega) (by omega)) ?_
        refine l3 (2 ^ n - h0) h0 _ (upd g a.toNatClampNeg 1) (by omega) (Nat.le_refl _) ha ?_ (p_ldr_low _ _ _ _ _ _ _ _ (Nat.le_refl _))
        intro j hj0 hj
        rw [p_lm_low _ _ _ _ _ h0 (Nat.le_refl _), ea]
        unfold upd
        split
        · rfl
        · exact hI j hj0 (by omega)
    | succ i ih =>
      intro k x g hk hk0 hx hI
      have hxc : x.toNatClampNeg = k := by rw [hx, nI_clamp (by omega)]
      refine hG 1 _ _ _ (And.intro (fun q => ?_) (fun q => ?_))
      rotate_left
      · have q : ¬ x < b := q
        rw [hx, hbe, nI_ltI (by omega) (by omega)] at q; omega
      refine And.intro (by rw [hx]; exact vp_in_nI (by omega) (by omega)) ?_
      refine ih (k + 1) _ (upd g x.toNatClampNeg 0) (by omega) (by omega) (by rw [hx, nI_1]) ?_
      intro j hj0 hj
      rw [hxc]
      unfold upd
      split
      · rfl
      · exact hI j hj0 (by omega)
  have l := l1 (2 ^ n - h0) h0 a (M 4) (by omega) (Nat.le_refl _) ha (fun j q1 q2 => by omega)
  rw [va_upI] at l
  exact hG 0 _ _ _ l
