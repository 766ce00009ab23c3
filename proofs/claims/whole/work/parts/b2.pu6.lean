/-! ===== striking wishes; the least depth ===== -/
theorem hb_or {a b w : Nat} (ha : a < 256) (hb : b < 256) (hw : w < 8) : p_hb (nI a ||| nI b) (nI w) = 0 ↔ p_hb (nI a) (nI w) = 0 ∧ p_hb (nI b) (nI w) = 0 := by
  rw [lt8_orI, hb_nI _ (Nat.or_lt_two_pow (n := 8) ha hb) w hw, hb_nI a ha w hw, hb_nI b hb w hw, Nat.testBit_or]
  cases a.testBit w <;> cases b.testBit w <;> decide
theorem hb_01 (x i : Int32) : p_hb x i = 0 ∨ p_hb x i = 1 := by
  unfold p_hb
  split
  · exact Or.inl rfl
  · exact Or.inr rfl
/-- more on the list is less in the graph -/
theorem AS_strike {on nd cl : Nat → Int32} {n d l t : Nat} {l0 h0 ba : Int32} (hl : l < 256) (ht : t < 256) (h : Nat) {w : Nat} (hw : w < 8) : p_AS on nd cl n l0 h0 ba d (nI l ||| nI t) h w = aSt (p_AS on nd cl n l0 h0 ba d (nI l)) (nI t) h w := by
  have ho := hb_or hl ht hw
  unfold aSt p_AS p_as p_re
  by_cases c : p_hb (nI t) (nI w) = 0
  · rw [if_pos c]
    by_cases c2 : p_hb (nI l) (nI w) = 0
    · rw [if_pos (ho.mpr ⟨c2, c⟩), if_pos c2]
    · rw [if_neg (fun q => c2 (ho.mp q).1), if_neg c2]
  · rw [if_neg c, if_neg (fun q => c (ho.mp q).2), if_neg (show ¬ (1 : Int32) = 0 by decide)]
    split <;> rfl
theorem aSt_0 (AS : Nat → Nat → Int32) (h w : Nat) (hw : w < 8) : aSt AS (nI 0) h w = AS h w := by
  unfold aSt
  rw [hb_nI 0 (by decide) w hw, Nat.zero_testBit]
  rfl
/-- graphs that are alike below n wishes have the same marks -/
theorem p_mk_congr {AS AS' : Nat → Nat → Int32} {h0 n : Nat} (h : ∀ a w, w < n → AS a w = AS' a w) : ∀ k, p_mk AS h0 n k = p_mk AS' h0 n k := by
  have hI : ∀ a g k, k ≤ n → p_mkI AS a g k = p_mkI AS' a g k := by
    intro a g k
    induction k with
    | zero => intro _; rfl
    | succ k ih =>
      intro hk
      funext j
      rw [p_mkI, p_mkI, p_mkS, p_mkS, ih (by omega), h a k (by omega)]
  intro k
  induction k with
  | zero => rfl
  | succ k ih =>
    funext j
    show (if p_mk AS h0 n k k = 0 then p_mk AS h0 n k j else p_mkI AS k (p_mk AS h0 n k) n j) = (if p_mk AS' h0 n k k = 0 then p_mk AS' h0 n k j else p_mkI AS' k (p_mk AS' h0 n k) n j)
    rw [ih, hI k _ n (Nat.le_refl _)]
theorem dp_eq {c k : Nat → Int32} (h : ∀ d, c d = -4 ↔ k d = 0) : ∀ f d, p_dpF c f d = p_dpZ k f d
  | 0, _ => rfl
  | f + 1, d => by
    rw [p_dpF, p_dpZ, dp_eq h f (d + 1)]
    by_cases q : k d = 0
    · rw [if_pos ((h d).mpr q), if_pos q]
    · rw [if_neg (fun z => q ((h d).mp z)), if_neg q]
/-- deep: the class's answer is the model's, for one depth -/
theorem deep_eq {on nd cl pr : Nat → Int32} {n h0 d : Nat} {l0 ba li p : Int32} (hn : n ≤ 8) (hnd : ∀ w, w < n → ltn n (nd w)) (hh : h0 < 2 ^ n) (hpr : ∀ w, w < n → ∃ q : Nat, q ≤ 9 ∧ pr w = nI q) : p_cO (p_AS on nd cl n l0 (nI h0) ba d li) pr (p_LB on nd n l0 (nI h0)) h0 n p = -4 ↔ kAny (fun d => p_AS on nd cl n l0 (nI h0) ba d li) (p_LB on nd n l0 (nI h0)) n h0 p d 0 = 0 := by
  rw [cO_any (AS_up hn hnd) (p_2le n hn) hh hpr, kAny, p_mk_congr (AS' := p_AS on nd cl n l0 (nI h0) ba d li) (fun a w hw => aSt_0 _ a w (by omega))]
