/-! ===== WishClerkModel: the shortest row, breadth first ===== -/
theorem hb_nI : ∀ a, a < 256 → ∀ i, i < 8 → p_hb (nI a) (nI i) = if a.testBit i then 1 else 0 := by decide +kernel
theorem nI_n4 {a : Nat} (h : a < 256) : ¬ nI a = -4 := by
  intro q
  have q2 : (nI a).toInt = (-4 : Int32).toInt := by rw [q]
  rw [nI_toInt (by omega), show (-4 : Int32).toInt = -4 from rfl] at q2
  omega
/-- what follows of a wish, as a number -/
theorem p_fw_ex {nd : Nat → Int32} {n : Nat} (hnd : ∀ i, i < n → lt8 (nd i)) {w : Nat} (hw : w < 8) : ∃ j : Nat, j < 256 ∧ p_fw nd n ((1 : Int32) <<< (nI w &&& 31)) = nI j ∧ j.testBit w = true := by
  have key : ∀ k, ∃ j : Nat, j < 256 ∧ p_it nd n 0 ((1 : Int32) <<< (nI w &&& 31)) k = nI j ∧ j.testBit w = true := by
    intro k
    induction k with
    | zero =>
      refine ⟨2 ^ w, by have := Nat.pow_lt_pow_right (a := 2) (by decide) hw; omega, p_2n w (by omega), ?_⟩
      rw [Nat.testBit_two_pow_self]
    | succ k ih =>
      obtain ⟨j, hj, e, ht⟩ := ih
      obtain ⟨i, hi, e2⟩ := p_ga_lt8 hnd (p_it nd n 0 ((1 : Int32) <<< (nI w &&& 31)) k)
      refine ⟨j ||| i, Nat.or_lt_two_pow (n := 8) hj hi, ?_, ?_⟩
      · rw [p_it, p_st, p_andm1, e2, e, lt8_orI]
      · rw [Nat.testBit_or, ht]; rfl
  exact key 8
theorem p_as_gt {on nd cl : Nat → Int32} {n : Nat} (hnd : ∀ i, i < n → lt8 (nd i)) (l0 h0 ba : Int32) {w : Nat} (hw : w < 8) {h : Nat} (hh : h < 256) (d : Nat) (li : Int32) (hne : ¬ p_AS on nd cl n l0 h0 ba d li h w = -4) : ∃ b : Nat, b < 256 ∧ h < b ∧ p_AS on nd cl n l0 h0 ba d li h w = nI b := by
  unfold p_AS p_as at hne ⊢
  by_cases c1 : p_hb (nI h) (nI w) = 0
  · rw [if_pos c1] at hne ⊢
    by_cases c2 : p_re on nd cl n li ba (nI w) (nI h) (p_lb on nd n l0 h0 (nI h)) d = 0
    · rw [if_pos c2]
      obtain ⟨j, hj, e, ht⟩ := p_fw_ex hnd hw
      rw [hb_nI h hh w hw] at c1
      have hb : h.testBit w = false := by
        cases hq : h.testBit w with
        | false => rfl
        | true => rw [hq] at c1; exact absurd c1 (by decide)
      refine ⟨h ||| j, Nat.or_lt_two_pow (n := 8) hh hj, ?_, by rw [e, lt8_orI]⟩
      have h1 : h ≤ h ||| j := Nat.left_le_or
      rcases Nat.lt_or_eq_of_le h1 with q | q
      · exact q
      · have : (h ||| j).testBit w = true := by rw [Nat.testBit_or, ht, Bool.or_true]
        rw [← q, hb] at this
        cases this
    · rw [if_neg c2] at hne
      exact absurd rfl hne
  · rw [if_neg c1] at hne
    exact absurd rfl hne
/-- by, before, line, how many -/
abbrev bQ : Type := (Nat → Int32) × (Nat → Nat) × (Nat → Nat) × Nat
def b_up {α : Type} (f : Nat → α) (k : Nat) (v : α) : Nat → α := fun j => if j = k then v else f j
def p_bqS (AS : Nat → Nat → Int32) (h w : Nat) (q : bQ) : bQ := if AS h w = -4 then q else if q.1 (AS h w).toNatClampNeg = -4 then (upd q.1 (AS h w).toNatClampNeg (nI w), b_up q.2.1 (AS h w).toNatClampNeg h, b_up q.2.2.1 q.2.2.2 (AS h w).toNatClampNeg, q.2.2.2 + 1) else q
def p_bqI (AS : Nat → Nat → Int32) (h : Nat) (q : bQ) : Nat → bQ
  | 0 => q
  | k + 1 => p_bqS AS h k (p_bqI AS h q k)
def p_bq (AS : Nat → Nat → Int32) (lb : Nat → Int32) (p : Int32) (n : Nat) : Nat → Nat → bQ → Int32 × bQ
  | 0, _, q => (-4, q)
  | f + 1, i, q => if i < q.2.2.2 then (if p_hb (lb (q.2.2.1 i)) p = 0 then p_bq AS lb p n f (i + 1) (p_bqI AS (q.2.2.1 i) q n) else (nI (q.2.2.1 i), q)) else (-4, q)
def p_bq0 (h0 : Nat) : bQ := (upd (fun _ => -4) h0 8, fun _ => 0, fun _ => h0, 1)
def p_cn (f : Nat → Int32) : Nat → Nat
  | 0 => 0
  | k + 1 => if f k = -4 then p_cn f k else p_cn f k + 1
theorem p_cn_le (f : Nat → Int32) : ∀ k, p_cn f k ≤ k
  | 0 => Nat.le_refl _
  | k + 1 => by
    have := p_cn_le f k
    rw [p_cn]
    split <;> omega
theorem p_cn_lt {f : Nat → Int32} {b : Nat} (hb : f b = -4) : ∀ k, b < k → p_cn f k < k
  | 0, h => by omega
  | k + 1, h => by
    rw [p_cn]
    rcases Nat.lt_or_ge b k with q | q
    · have := p_cn_lt hb k q
      split <;> omega
    · rw [show k = b by omega, if_pos hb]
      have := p_cn_le f b
      omega
theorem p_cn_up0 (f : Nat → Int32) {b : Nat} (v : Int32) : ∀ k, k ≤ b → p_cn (upd f b v) k = p_cn f k
  | 0, _ => rfl
  | k + 1, h => by
    rw [p_cn, p_cn, p_cn_up0 f v k (by omega), show upd f b v k = f k by rw [upd, if_neg (by omega)]]
theorem p_cn_up {f : Nat → Int32} {b : Nat} (hb : f b = -4) {v : Int32} (hv : ¬ v = -4) : ∀ k, b < k → p_cn (upd f b v) k = p_cn f k + 1
  | 0, h => by omega
  | k + 1, h => by
    rw [p_cn, p_cn]
    rcases Nat.lt_or_ge b k with q | q
    · rw [p_cn_up hb hv k q, show upd f b v k = f k by rw [upd, if_neg (by omega)]]
      split <;> rfl
    · rw [show k = b by omega, p_cn_up0 f v b (Nat.le_refl _), if_pos hb, show upd f b v b = v by rw [upd, if_pos rfl], if_neg hv]
/-- what holds of the queue -/
def bWF (q : bQ) : Prop := p_cn q.1 256 = q.2.2.2 ∧ 0 < q.2.2.2 ∧ (∀ j, j < q.2.2.2 → q.2.2.1 j < 256 ∧ ¬ q.1 (q.2.2.1 j) = -4) ∧ (∀ x, x < 256 → ¬ q.1 x = -4 → q.1 x = 8 ∨ (q.2.1 x < x ∧ ¬ q.1 (q.2.1 x) = -4))
theorem bWF_0 {h0 : Nat} (h : h0 < 256) : bWF (p_bq0 h0) := by
  refine ⟨?_, Nat.one_pos, fun j hj => ⟨h, ?_⟩, fun x hx hq => Or.inl ?_⟩
  · show p_cn (upd (fun _ => -4) h0 8) 256 = 1
    rw [p_cn_up (b := h0) rfl (by decide) 256 h]
    have : ∀ k, p_cn (fun _ => (-4 : Int32)) k = 0 := by
      intro k
      induction k with
      | zero => rfl
      | succ k ih => rw [p_cn, if_pos rfl, ih]
    rw [this]
  · show ¬ upd (fun _ => -4) h0 8 h0 = -4
    rw [upd, if_pos rfl]; decide
  · have hq : ¬ upd (fun _ => -4) h0 8 x = -4 := hq
    show upd (fun _ => -4) h0 8 x = 8
    rw [upd] at hq ⊢
    split
    · rfl
    · next hn => rw [if_neg hn] at hq; exact absurd rfl hq
theorem bWF_S {AS : Nat → Nat → Int32} {h w : Nat} {q : bQ} (hw : w < 8) (hq : bWF q) (hh : ¬ q.1 h = -4) (hA : AS h w = -4 ∨ ∃ b, b < 256 ∧ h < b ∧ AS h w = nI b) : bWF (p_bqS AS h w q) ∧ ¬ (p_bqS AS h w q).1 h = -4 := by
  unfold p_bqS
  by_cases c1 : AS h w = -4
  · rw [if_pos c1]; exact ⟨hq, hh⟩
  rw [if_neg c1]
  rcases hA with hA | ⟨b, hb, hhb, hA⟩
  · exact absurd hA c1
  have hbc : (AS h w).toNatClampNeg = b := by rw [hA, nI_clamp (by omega)]
  rw [hbc]
  by_cases c2 : q.1 b = -4
  rotate_left
  · rw [if_neg c2]; exact ⟨hq, hh⟩
  rw [if_pos c2]
  obtain ⟨h1, h2, h3, h4⟩ := hq
  have hv : ¬ nI w = -4 := nI_n4 (by omega)
  have up : ∀ x, ¬ q.1 x = -4 → ¬ upd q.1 b (nI w) x = -4 := by
    intro x hx
    unfold upd
    split
    · exact hv
    · exact hx
  refine ⟨⟨?_, Nat.succ_pos _, ?_, ?_⟩, up h hh⟩
  · show p_cn (upd q.1 b (nI w)) 256 = q.2.2.2 + 1
    rw [p_cn_up c2 hv 256 hb, h1]
  · intro j hj
    show b_up q.2.2.1 q.2.2.2 b j < 256 ∧ ¬ upd q.1 b (nI w) (b_up q.2.2.1 q.2.2.2 b j) = -4
    unfold b_up
    split
    · refine ⟨hb, ?_⟩
      rw [upd, if_pos rfl]; exact hv
    · next hn =>
      have hj : j < q.2.2.2 + 1 := hj
      exact ⟨(h3 j (by omega)).1, up _ (h3 j (by omega)).2⟩
  · intro x hx hxq
    show upd q.1 b (nI w) x = 8 ∨ (b_up q.2.1 b h x < x ∧ ¬ upd q.1 b (nI w) (b_up q.2.1 b h x) = -4)
    by_cases e : x = b
    · refine Or.inr ?_
      rw [b_up, if_pos e]
      exact ⟨by omega, up h hh⟩
    · have hxq : ¬ upd q.1 b (nI w) x = -4 := hxq
      rw [upd, if_neg e] at hxq
      rw [show upd q.1 b (nI w) x = q.1 x by rw [upd, if_neg e], b_up, if_neg e]
      rcases h4 x hx hxq with r | r
      · exact Or.inl r
      · exact Or.inr ⟨r.1, up _ r.2⟩
/-- the arrays as the queue says -/
def bRq (g : Nat → Nat → Int32) (q : bQ) : Prop := (∀ j, j < 256 → g 11 j = q.1 j) ∧ (∀ j, j < 256 → ¬ q.1 j = -4 → ¬ q.1 j = 8 → g 10 j = nI (q.2.1 j)) ∧ (∀ j, j < q.2.2.2 → g 12 j = nI (q.2.2.1 j))
def mdBQ (s : Nat → Int32) (A : Nat → Nat → Int32) (p : Int32) : Int32 × bQ := p_bq (mdAS s A (A 1 28) (A 1 27)) (mdLB s A) p (s 3).toNatClampNeg 257 0 (p_bq0 (A 1 26).toNatClampNeg)
def c_X6_findRow : sCtr := ((yX6_findRow, cX6_findRow, 7, (some .int)), (7, 1, 4, 100), false,
  mdfp,
  fun vs L => ∃ (s : Nat → Int32) (A : Nat → Nat → Int32) (p : Int32) (n d : Nat), vs = [.ref 0, .int p] ∧ L = mdW s A ∧ s 3 = nI n ∧ n ≤ 8 ∧ A 1 28 = nI d ∧ d ≤ 8 ∧ (∀ i, i < n → lt8 (A 1 (10 + i))) ∧ lt8 (A 1 26),
  fun vs L r L' => r = some (.int (mdBQ (oI L 0) (bF L) (vI vs 1)).1) ∧ ∃ g, L' = mdW (oI L 0) (md4 (bF L) g) ∧ bRq g (mdBQ (oI L 0) (bF L) (vI vs 1)).2 ∧ bWF (mdBQ (oI L 0) (bF L) (vI vs 1)).2 ∧ ((mdBQ (oI L 0) (bF L) (vI vs 1)).1 = -4 ∨ ∃ h : Nat, h < 256 ∧ (mdBQ (oI L 0) (bF L) (vI vs 1)).1 = nI h ∧ ¬ (mdBQ (oI L 0) (bF L) (vI vs 1)).2.1 h = -4))
theorem sta_X6_findRow : s_Sta c_X6_findRow := ⟨⟨by decide +kernel, by decide +kernel, by decide +kernel⟩, List.mem_of_getElem? (i := 1133) (by decide +kernel), List.mem_of_getElem? (i := 70) (by decide +kernel), ⟨List.mem_of_getElem? (i := 1132) (by decide +kernel), List.mem_of_getElem? (i := 55) (by decide +kernel), Or.inl ⟨_, rfl, rfl⟩⟩⟩

def k_X6_findRow : List sBk := [
  (0, false, [true, true, false, false, false, false, false], [oK 0 (.iconst 1) (.int 1), o0 1 (.istore_n 2), oK 2 (.iconst 0) (.int 0), o0 3 (.istore_n 3), oN 4 .nop [1]]),
  (4, true, [true, true, true, true, false, false, false], [o0 4 (.iload_n 3), oK 5 (.sipush 256) (.int 256), oN 8 (.if_icmp .ge 17) [2], o0 11 (.aload_n 0), oN 12 (.getfield 41) [6, 24, 846], o0 15 (.iload_n 3), oK 16 (.bipush (-4)) (.int (-4)), o0 18 .iastore, oK 19 (.iinc 3 1) (.int 1), oN 22 (.goto (-18)) [1]]),
  (25, false, [true, true, true, false, false, false, false], [o0 25 (.aload_n 0), oN 26 (.getfield 44) [6, 25, 847], oK 29 (.iconst 0) (.int 0), o0 30 (.aload_n 0), oN 31 (.getfield 7) [6, 0, 822], oK 34 (.bipush 26) (.int 26), o0 36 .iaload, o0 37 .iastore, o0 38 (.aload_n 0), oN 39 (.getfield 41) [6, 24, 846], o0 42 (.aload_n 0), oN 43 (.getfield 7) [6, 0, 822], oK 46 (.bipush 26) (.int 26), o0 48 .iaload, oK 49 (.bipush 8) (.int 8), o0 51 .iastore, oK 52 (.iconst 0) (.int 0), o0 53 (.istore_n 3), oN 54 .nop [3]]),
  (54, true, [true, true, true, true, false, false, false], [o0 54 (.iload_n 3), o0 55 (.iload_n 2), oN 56 (.if_icmp .ge 124) [8], o0 59 (.aload_n 0), oN 60 (.getfield 44) [6, 25, 847], o0 63 (.iload_n 3), o0 64 .iaload, o0 65 (.istore 4), o0 67 (.aload_n 0), o0 68 (.iload 4), oC 70 (.invokevirtual 225) [1134] c_X6_livingBy, o0 73 (.iload_n 1), o0 74 .ishr, oK 75 (.iconst 1) (.int 1), o0 76 .iand, oK 77 (.iconst 1) (.int 1), oN 78 (.if_icmp .ne 6) [4], o0 81 (.iload 4), o0 83 .ireturn]),
  (84, false, [true, true, true, true, true, false, false], [oK 84 (.iconst 0) (.int 0), o0 85 (.istore 5), oN 87 .nop [5]]),
  (87, true, [true, true, true, true, true, true, false], [o0 87 (.iload 5), o0 89 (.aload_n 0), oN 90 (.getfield 85) [6, 3, 825], oN 93 (.if_icmp .ge 81) [7], o0 96 (.aload_n 0), o0 97 (.iload 5), o0 99 (.iload 4), o0 101 (.aload_n 0), oN 102 (.getfield 7) [6, 0, 822], oK 105 (.bipush 28) (.int 28), o0 107 .iaload, o0 108 (.aload_n 0), oN 109 (.getfield 7) [6, 0, 822], oK 112 (.bipush 27) (.int 27), o0 114 .iaload, oC 115 (.invokevirtual 228) [1138] c_X6_askedBy, o0 118 (.istore 6), o0 120 (.iload 6), oK 122 (.bipush (-4)) (.int (-4)), oN 124 (.if_icmp .eq 44) [6], o0 127 (.aload_n 0), oN 128 (.getfield 41) [6, 24, 846], o0 131 (.iload 6), o0 133 .iaload, oK 134 (.bipush (-4)) (.int (-4)), oN 136 (.if_icmp .ne 32) [6], o0 139 (.aload_n 0), oN 140 (.getfield 41) [6, 24, 846], o0 143 (.iload 6), o0 145 (.iload 5), o0 147 .iastore, o0 148 (.aload_n 0), oN 149 (.getfield 38) [6, 23, 845], o0 152 (.iload 6), o0 154 (.iload 4), o0 156 .iastore, o0 157 (.aload_n 0), oN 158 (.getfield 44) [6, 25, 847], o0 161 (.iload_n 2), o0 162 (.iload 6), o0 164 .iastore, oK 165 (.iinc 2 1) (.int 1), oN 168 .nop [6]]),
  (168, false, [true, true, true, true, true, true, false], [oK 168 (.iinc 5 1) (.int 1), oN 171 (.goto (-84)) [5]]),
  (174, false, [true, true, true, true, false, false, false], [oK 174 (.iinc 3 1) (.int 1), oN 177 (.goto (-123)) [3]]),
  (180, false, [false, false, false, false, false, false, false], [oK 180 (.bipush (-4)) (.int (-4)), o0 182 .ireturn])]
set_option maxRecDepth 100000 in
theorem ck_X6_findRow : s_ck RX6 cX6_findRow 7 4 100 k_X6_findRow = true := by decide +kernel

set_option maxRecDepth 100000 in
set_option maxHeartbeats 4000000 in
theorem ok_X6_findRow : s_Ok c_X6_findRow := by
  refine s_ok_of k_X6_findRow (by decide +kernel) sta_X6_findRow ck_X6_findRow (And.intro ok_X6_livingBy (And.intro ok_X6_askedBy trivial)) ?_
  rintro vs L ⟨s, A, p, n, d, rfl, rfl, hn, hn8, he, hd, hnd, h0, hh0, hh0e⟩
  refine ⟨rfl, fun G hG => ?_⟩
  have e3 : (s 3).toNatClampNeg = n := by rw [hn, nI_clamp (by omega)]
  have e26 : (A 1 26).toNatClampNeg = h0 := by rw [hh0e, nI_clamp (by omega)]
  obtain ⟨AS, hAS⟩ : ∃ AS, AS = mdAS s A (A 1 28) (A 1 27) := ⟨_, rfl⟩
  obtain ⟨LB, hLB⟩ : ∃ LB, LB = mdLB s A := ⟨_, rfl⟩
  have hASe : ∀ h w : Nat, AS h w = p_asM s A (nI w) (nI h) (A 1 28) (A 1 27) := fun h w => by rw [hAS]; rfl
  have hASl : ∀ h w : Nat, h < 256 → w < n → AS h w = -4 ∨ ∃ b, b < 256 ∧ h < b ∧ AS h w = nI b := by
    intro h w hh hw
    by_cases q : AS h w = -4
    · exact Or.inl q
    · rw [hAS, mdAS, e3] at q ⊢
      exact Or.inr (p_as_gt hnd _ _ _ (by omega) hh _ _ q)
  obtain ⟨R, hR⟩ : ∃ R, R = mdBQ s A p := ⟨_, rfl⟩
  have fin : ∀ (a : Int32) (g : Nat → Nat → Int32), a = R.1 → bRq g R.2 → bWF R.2 → (R.1 = -4 ∨ ∃ h : Nat, h < 256 ∧ R.1 = nI h ∧ ¬ R.2.1 h = -4) → s_PP (some .int) false c_X6_findRow.2.2.2.2.2 [.ref 0, .int p] (mdW s A) (some (.int a)) (mdW s (md4 A g)) := fun a g ha h1 h2 h3 => by
    rw [hR] at ha h1 h2 h3
    exact ⟨rfl, ⟨by rw [ha]; rfl, g, rfl, h1, h2, h3⟩, fun h => by cases h⟩
  have l3 : ∀ (f i : Nat) (q : bQ) (x y : Int32) (g : Nat → Nat → Int32), 256 < f + i → i ≤ q.2.2.2 → x = nI i → y = nI q.2.2.2 → bWF q → bRq g q → R = p_bq AS LB p n f i q → G 3 [some (.ref 0), some (.int p), some (.int y), some (.int x), none, none, none] [] (mdW s (md4 A g)) := by
    intro f
    induction f with
    | zero =>
      intro i q x y g hf hi hx hy hw hr hR2
      have := p_cn_le q.1 256
      rw [hw.1] at this; omega
    | succ f ih =>
      intro i q x y g hf hi hx hy hw hr hR2
      have hm : q.2.2.2 ≤ 256 := by rw [← hw.1]; exact p_cn_le q.1 256
      refine hG 3 _ _ _ (And.intro (fun c => ?_) (fun c => ?_))
      rotate_left
      · have c : ¬ i < q.2.2.2 := by
          intro z
          apply c
          rw [hx, hy, nI_ltI (by omega) (by omega)]; exact z
        rw [p_bq, if_neg c] at hR2
        exact fin (-4) g (by rw [hR2]) (by rw [hR2]; exact hr) (by rw [hR2]; exact hw) (Or.inl (by rw [hR2]))
      have c : i < q.2.2.2 := by
        rw [hx, hy, nI_ltI (by omega) (by omega)] at c; exact c
      rw [p_bq, if_pos c] at hR2
      obtain ⟨h, hh⟩ : ∃ h, h = q.2.2.1 i := ⟨_, rfl⟩
      have hh2 : h < 256 ∧ ¬ q.1 h = -4 := by rw [hh]; exact hw.2.2.1 i c
      rw [← hh] at hR2
      refine And.intro (by rw [hx]; exact vp_in_nI (by omega) (by omega)) ?_
      obtain ⟨hv, hhv⟩ : ∃ v, v = g 12 x.toNatClampNeg := ⟨_, rfl⟩
      have hve : hv = nI h := by rw [hhv, hx, nI_clamp (by omega), hh]; exact hr.2.2 i c
      refine And.intro ⟨s, md4 A g, _, n, rfl, rfl, hn, hn8⟩ ?_
      intro r hr2
      obtain ⟨v, hv2⟩ : ∃ v, v = LB h := ⟨_, rfl⟩
      obtain rfl : r = some (.int v) := by rw [hv2, hLB, mdLB, p_LB, ← hve, hhv]; exact hr2
      rw [← hv2] at hR2
      refine And.intro (fun c2 => ?_) (fun c2 => ?_)
      · have c2 : ¬ p_hb v p = 0 := fun z => p_hb_0.mp z c2
        rw [if_neg c2] at hR2
        exact fin (g 12 x.toNatClampNeg) g (by rw [hR2, ← hhv, hve]) (by rw [hR2]; exact hr) (by rw [hR2]; exact hw) (Or.inr ⟨h, hh2.1, by rw [hR2], by rw [hR2]; exact hh2.2⟩)
      have c2 : p_hb v p = 0 := p_hb_0.mpr c2
      rw [if_pos c2] at hR2
      have l5 : ∀ (k w : Nat) (q2 : bQ) (u y : Int32) (g : Nat → Nat → Int32), w + k = n → u = nI w → y = nI q2.2.2.2 → q2 = p_bqI AS h q w → q.2.2.2 ≤ q2.2.2.2 → bWF q2 → ¬ q2.1 h = -4 → bRq g q2 → G 5 [some (.ref 0), some (.int p), some (.int y), some (.int x), some (.int hv), some (.int u), none] [] (mdW s (md4 A g)) := by
        intro k
        induction k with
        | zero =>
          intro w q2 u y g hk hu hy hq2 hle hw2 hvis hr2
          refine hG 5 _ _ _ (And.intro (fun c => ?_) (fun c => ?_))
          · have c : u < s 3 := c
            rw [hu, hn, nI_ltI (by omega) (by omega)] at c; omega
          · refine ih (i + 1) q2 _ y g (by omega) (by omega) (by rw [hx, nI_1]) hy hw2 hr2 ?_
            rw [hR2, hq2, show w = n by omega]
        | succ k ih2 =>
          intro w q2 u y g hk hu hy hq2 hle hw2 hvis hr2
          have hS := bWF_S (AS := AS) (h := h) (w := w) (by omega) hw2 hvis (hASl h w hh2.1 (by omega))
          have hI : p_bqI AS h q (w + 1) = p_bqS AS h w q2 := by rw [p_bqI, ← hq2]
          have skip : p_bqS AS h w q2 = q2 → G 5 [some (.ref 0), some (.int p), some (.int y), some (.int x), some (.int hv), some (.int (u + 1)), none] [] (mdW s (md4 A g)) := fun e => ih2 (w + 1) q2 _ y g (by omega) (by rw [hu, nI_1]) hy (by rw [hI, e]) hle hw2 hvis hr2
          refine hG 5 _ _ _ (And.intro (fun c => ?_) (fun c => ?_))
          rotate_left
          · have c : ¬ u < s 3 := c
            rw [hu, hn, nI_ltI (by omega) (by omega)] at c; omega
          refine And.intro (vp_in_nI (n := 28) (N := 159) (by decide) (by decide)) (And.intro (vp_in_nI (n := 27) (N := 159) (by decide) (by decide)) ?_)
          refine And.intro ⟨s, md4 A g, _, _, _, _, n, d, rfl, rfl, hn, hn8, he, hd⟩ ?_
          intro r hr3
          obtain ⟨th, hth⟩ : ∃ th, th = AS h w := ⟨_, rfl⟩
          obtain rfl : r = some (.int th) := by rw [hth, hASe, ← hve, ← hu]; exact hr3
          refine And.intro (fun c3 => ?_) (fun c3 => ?_)
          · have c3 : th = -4 := c3
            exact skip (by rw [p_bqS, ← hth, if_pos c3])
          have c3 : ¬ th = -4 := c3
          obtain ⟨b, hb, hhb, hbe⟩ : ∃ b, b < 256 ∧ h < b ∧ th = nI b := by
            rcases hASl h w hh2.1 (by omega) with z | z
            · rw [← hth] at z; exact absurd z c3
            · rw [← hth] at z; exact z
          have hbc : th.toNatClampNeg = b := by rw [hbe, nI_clamp (by omega)]
          have hinb : vp_in th 256 := by rw [hbe]; exact vp_in_nI hb (by omega)
          have hgb : g 11 th.toNatClampNeg = q2.1 b := by rw [hbc]; exact hr2.1 b hb
          refine And.intro hinb (And.intro (fun c4 => ?_) (fun c4 => ?_))
          rotate_left
          · have c4 : ¬ g 11 th.toNatClampNeg = -4 := c4
            rw [hgb] at c4
            exact skip (by rw [p_bqS, ← hth, if_neg c3, hbc, if_neg c4])
          have c4 : g 11 th.toNatClampNeg = -4 := c4
          rw [hgb] at c4
          have hlt := p_cn_lt c4 256 hb
          rw [hw2.1] at hlt
          have hyc : y.toNatClampNeg = q2.2.2.2 := by rw [hy, nI_clamp (by omega)]
          have hq3 : p_bqS AS h w q2 = (upd q2.1 b (nI w), b_up q2.2.1 b h, b_up q2.2.2.1 q2.2.2.2 b, q2.2.2.2 + 1) := by rw [p_bqS, ← hth, if_neg c3, hbc, if_pos c4]
          rw [hq3] at hS hI
          refine And.intro hinb (And.intro hinb (And.intro (by rw [hy]; exact vp_in_nI hlt (by omega)) ?_))
          refine ih2 (w + 1) (upd q2.1 b (nI w), b_up q2.2.1 b h, b_up q2.2.2.1 q2.2.2.2 b, q2.2.2.2 + 1) _ _ (va_up (va_up (va_up g 11 (upd (g 11) th.toNatClampNeg u)) 10 (upd (g 10) th.toNatClampNeg hv)) 12 (upd (g 12) y.toNatClampNeg th)) (by omega) (by rw [hu, nI_1]) (by rw [hy, nI_1]) hI.symm (by show q.2.2.2 ≤ q2.2.2.2 + 1; omega) hS.1 hS.2 ⟨?_, ?_, ?_⟩
          · intro j hj
            show upd (g 11) th.toNatClampNeg u j = upd q2.1 b (nI w) j
            rw [hbc, hu]
            exact agr_upd hr2.1 b (nI w) j hj
          · intro j hj hj4 hj8
            show upd (g 10) th.toNatClampNeg hv j = nI (b_up q2.2.1 b h j)
            rw [hbc, hve]
            unfold upd b_up
            by_cases e : j = b
            · rw [if_pos e, if_pos e]
            · rw [if_neg e, if_neg e]
              have hj4 : ¬ upd q2.1 b (nI w) j = -4 := hj4
              have hj8 : ¬ upd q2.1 b (nI w) j = 8 := hj8
              rw [upd, if_neg e] at hj4 hj8
              exact hr2.2.1 j hj hj4 hj8
          · intro j hj
            show upd (g 12) y.toNatClampNeg th j = nI (b_up q2.2.2.1 q2.2.2.2 b j)
            rw [hyc, hbe]
            unfold upd b_up
            by_cases e : j = q2.2.2.2
            · rw [if_pos e, if_pos e]
            · rw [if_neg e, if_neg e]
              have hj : j < q2.2.2.2 + 1 := hj
              exact hr2.2.2 j (by omega)
      have k5 := l5 n 0 q 0 y g (by omega) nI_0.symm hy rfl (Nat.le_refl _) hw hh2.2 hr
      rw [hhv] at k5
      exact k5
  have l1 : ∀ (k i : Nat) (x : Int32) (f : Nat → Int32), i + k = 256 → x = nI i → (∀ j, j < i → f j = -4) → G 1 [some (.ref 0), some (.int p), some (.int 1), some (.int x), none, none, none] [] (mdW s (va_up A 11 f)) := by
    intro k
    induction k with
    | zero =>
      intro i x f hi hx hf
      refine hG 1 _ _ _ (And.intro (fun q => ?_) (fun q => ?_))
      · rw [hx, show (256 : Int32) = nI 256 from rfl, nI_ltI (by omega) (by omega)] at q; omega
      · refine And.intro (vp_in_nI (n := 26) (N := 159) (by decide) (by decide)) (And.intro (vp_in_nI (n := 0) (N := 256) (by decide) (by decide)) (And.intro (vp_in_nI (n := 26) (N := 159) (by decide) (by decide)) (And.intro ?_ ?_)))
        · show vp_in (A 1 26) 256
          rw [hh0e]; exact vp_in_nI hh0 (by omega)
        · refine l3 257 0 (p_bq0 h0) _ _ (va_up (va_up A 11 (upd f (A 1 26).toNatClampNeg 8)) 12 (upd (A 12) 0 (A 1 26))) (by omega) (Nat.zero_le _) nI_0.symm rfl (bWF_0 hh0) ⟨?_, ?_, ?_⟩ (by rw [hR, mdBQ, ← hAS, ← hLB, e3, e26])
          · show ∀ j, j < 256 → upd f (A 1 26).toNatClampNeg 8 j = upd (fun _ => -4) h0 8 j
            rw [e26]
            exact agr_upd (fun j hj => hf j (by omega)) h0 8
          · intro j hj h4 h8
            have h4 : ¬ upd (fun _ => -4) h0 8 j = -4 := h4
            have h8 : ¬ upd (fun _ => -4) h0 8 j = 8 := h8
            rw [upd] at h4 h8
            by_cases e : j = h0
            · rw [if_pos e] at h8; exact absurd rfl h8
            · rw [if_neg e] at h4; exact absurd rfl h4
          · intro j hj
            have hj : j < 1 := hj
            show upd (A 12) 0 (A 1 26) j = nI h0
            rw [upd, if_pos (by omega), hh0e]
    | succ k ih =>
      intro i x f hi hx hf
      have hxc : x.toNatClampNeg = i := by rw [hx, nI_clamp (by omega)]
      refine hG 1 _ _ _ (And.intro (fun q => ?_) (fun q => ?_))
      · refine And.intro (by rw [hx]; exact vp_in_nI (by omega) (by omega)) ?_
        refine ih (i + 1) _ (upd f x.toNatClampNeg (-4)) (by omega) (by rw [hx, nI_1]) ?_
        intro j hj
        rw [hxc]
        unfold upd
        split
        · rfl
        · exact hf j (by omega)
      · rw [hx, show (256 : Int32) = nI 256 from rfl, nI_ltI (by omega) (by omega)] at q; omega
  have l := l1 256 0 0 (A 11) (by omega) nI_0.symm (fun j hj => by omega)
  rw [va_upI] at l
  exact hG 0 _ _ _ l
