/-! ===== sets as numbers: what is gathered, what follows ===== -/
def sub8 (a b : Nat) : Prop := ∀ i, a.testBit i = true → b.testBit i = true
theorem sub8_eq {a b : Nat} (h1 : sub8 a b) (h2 : sub8 b a) : a = b := by
  apply Nat.eq_of_testBit_eq
  intro i
  cases ha : a.testBit i with
  | true => exact (h1 i ha).symm
  | false =>
    cases hb : b.testBit i with
    | true => rw [h2 i hb] at ha; cases ha
    | false => rfl
theorem sub8_or {a b c : Nat} (h1 : sub8 a c) (h2 : sub8 b c) : sub8 (a ||| b) c := by
  intro i hi
  rw [Nat.testBit_or, Bool.or_eq_true] at hi
  exact hi.elim (h1 i) (h2 i)
theorem sub8_l (a b : Nat) : sub8 a (a ||| b) := by
  intro i hi
  rw [Nat.testBit_or, hi]; rfl
theorem sub8_r (a b : Nat) : sub8 b (a ||| b) := by
  intro i hi
  rw [Nat.testBit_or, hi, Bool.or_true]
theorem sub8_t {a b c : Nat} (h1 : sub8 a b) (h2 : sub8 b c) : sub8 a c := fun i hi => h2 i (h1 i hi)
def gaN (f : Nat → Nat) : Nat → Nat → Nat
  | 0, _ => 0
  | n + 1, g => if g.testBit n = true then gaN f n g ||| f n else gaN f n g
theorem gaN_bit (f : Nat → Nat) (g i : Nat) : ∀ n, (gaN f n g).testBit i = true ↔ ∃ w, w < n ∧ g.testBit w = true ∧ (f w).testBit i = true
  | 0 => by
    rw [gaN, Nat.zero_testBit]
    exact ⟨fun h => (by cases h), fun ⟨w, hw, _⟩ => (by omega)⟩
  | n + 1 => by
    have ih := gaN_bit f g i n
    rw [gaN]
    by_cases c : g.testBit n = true
    · rw [if_pos c, Nat.testBit_or, Bool.or_eq_true, ih]
      constructor
      · rintro (⟨w, h1, h2⟩ | h)
        · exact ⟨w, by omega, h2⟩
        · exact ⟨n, by omega, c, h⟩
      · rintro ⟨w, h1, h2, h3⟩
        rcases Nat.lt_or_eq_of_le (Nat.le_of_lt_succ h1) with q | q
        · exact Or.inl ⟨w, q, h2, h3⟩
        · rw [q] at h3; exact Or.inr h3
    · rw [if_neg c, ih]
      constructor
      · rintro ⟨w, h1, h2⟩
        exact ⟨w, by omega, h2⟩
      · rintro ⟨w, h1, h2, h3⟩
        rcases Nat.lt_or_eq_of_le (Nat.le_of_lt_succ h1) with q | q
        · exact ⟨w, q, h2, h3⟩
        · rw [q] at h2; exact absurd h2 c
theorem gaN_lt {f : Nat → Nat} {m : Nat} : ∀ {n : Nat}, (∀ w, w < n → f w < 2 ^ m) → ∀ g, gaN f n g < 2 ^ m
  | 0, _, _ => Nat.two_pow_pos m
  | n + 1, h, g => by
    have ih := gaN_lt (f := f) (m := m) (n := n) (fun w hw => h w (by omega)) g
    rw [gaN]
    split
    · exact Nat.or_lt_two_pow ih (h n (by omega))
    · exact ih
theorem gaN_mono {f : Nat → Nat} {n a b : Nat} (h : sub8 a b) : sub8 (gaN f n a) (gaN f n b) := by
  intro i hi
  rw [gaN_bit] at hi ⊢
  obtain ⟨w, h1, h2, h3⟩ := hi
  exact ⟨w, h1, h w h2, h3⟩
theorem gaN_or (f : Nat → Nat) (n a b : Nat) : gaN f n (a ||| b) = gaN f n a ||| gaN f n b := by
  apply sub8_eq
  · intro i hi
    rw [gaN_bit] at hi
    obtain ⟨w, h1, h2, h3⟩ := hi
    rw [Nat.testBit_or, Bool.or_eq_true] at h2 ⊢
    rw [gaN_bit, gaN_bit]
    exact h2.imp (fun q => ⟨w, h1, q, h3⟩) (fun q => ⟨w, h1, q, h3⟩)
  · exact sub8_or (gaN_mono (sub8_l _ _)) (gaN_mono (sub8_r _ _))
theorem ga_nI {f : Nat → Int32} {f' : Nat → Nat} {g : Nat} (hg : g < 256) : ∀ {n : Nat}, n ≤ 8 → (∀ w, w < n → f w = nI (f' w)) → p_ga f n (nI g) = nI (gaN f' n g)
  | 0, _, _ => rfl
  | n + 1, hn, h => by
    have ih := ga_nI (f := f) (f' := f') hg (n := n) (by omega) (fun w hw => h w (by omega))
    rw [p_ga, gaN, ih, hb_nI g hg n (by omega), h n (by omega), lt8_orI]
    by_cases c : g.testBit n = true
    · rw [if_pos c, if_pos c, if_neg (by decide)]
    · rw [if_neg c, if_neg c, if_pos rfl]
def itN (nd : Nat → Nat) (n g : Nat) : Nat → Nat
  | 0 => g
  | k + 1 => itN nd n g k ||| gaN nd n (itN nd n g k)
theorem itN_lt {nd : Nat → Nat} {n m g : Nat} (h : ∀ w, w < n → nd w < 2 ^ m) (hg : g < 2 ^ m) : ∀ k, itN nd n g k < 2 ^ m
  | 0 => hg
  | k + 1 => Nat.or_lt_two_pow (itN_lt h hg k) (gaN_lt h _)
theorem it_nI {nd : Nat → Int32} {nd' : Nat → Nat} {n g : Nat} (hn : n ≤ 8) (h : ∀ w, w < n → nd w = nI (nd' w)) (hl : ∀ w, w < n → nd' w < 256) (hg : g < 256) : ∀ k, p_it nd n 0 (nI g) k = nI (itN nd' n g k)
  | 0 => rfl
  | k + 1 => by
    rw [p_it, p_st, p_andm1, it_nI hn h hl hg k, ga_nI (itN_lt (m := 8) hl hg k) hn h, lt8_orI, itN]
def cbN (x : Nat) : Nat → Nat
  | 0 => 0
  | k + 1 => if x.testBit k = true then cbN x k + 1 else cbN x k
theorem cbN_le (x : Nat) : ∀ k, cbN x k ≤ k
  | 0 => Nat.le_refl _
  | k + 1 => by
    have := cbN_le x k
    rw [cbN]
    split <;> omega
theorem cbN_mono {a b : Nat} (h : sub8 a b) : ∀ k, cbN a k ≤ cbN b k
  | 0 => Nat.le_refl _
  | k + 1 => by
    have ih := cbN_mono h k
    rw [cbN, cbN]
    by_cases c : a.testBit k = true
    · rw [if_pos c, if_pos (h k c)]; omega
    · rw [if_neg c]
      split <;> omega
theorem cbN_lt {a b : Nat} (h : sub8 a b) {i : Nat} (h1 : ¬ a.testBit i = true) (h2 : b.testBit i = true) : ∀ k, i < k → cbN a k < cbN b k
  | 0, hi => by omega
  | k + 1, hi => by
    rw [cbN, cbN]
    rcases Nat.lt_or_eq_of_le (Nat.le_of_lt_succ hi) with q | q
    · have ih := cbN_lt h h1 h2 k q
      by_cases c : a.testBit k = true
      · rw [if_pos c, if_pos (h k c)]; omega
      · rw [if_neg c]
        split <;> omega
    · rw [← q, if_neg h1, if_pos h2]
      have := cbN_mono h i
      omega
theorem bit_lt {x i m : Nat} (hx : x < 2 ^ m) (h : x.testBit i = true) : i < m := by
  rcases Nat.lt_or_ge i m with q | q
  · exact q
  · rw [Nat.testBit_lt_two_pow (Nat.lt_of_lt_of_le hx (Nat.pow_le_pow_right (by decide) q))] at h
    cases h
theorem ne_bit {a b : Nat} (h : sub8 a b) (hne : ¬ a = b) : ∃ i, ¬ a.testBit i = true ∧ b.testBit i = true := by
  refine Classical.byContradiction (fun hn => hne (sub8_eq h (fun i hi => ?_)))
  refine Classical.byContradiction (fun hq => hn ⟨i, hq, hi⟩)
theorem itN_fix {nd : Nat → Nat} {n g i : Nat} (hf : itN nd n g (i + 1) = itN nd n g i) : ∀ d, itN nd n g (i + d) = itN nd n g i
  | 0 => rfl
  | d + 1 => by
    show itN nd n g (i + d) ||| gaN nd n (itN nd n g (i + d)) = _
    rw [itN_fix hf d]; exact hf
/-- after as many steps as there are wishes nothing more follows -/
theorem itN_stab {nd : Nat → Nat} {n g : Nat} (h : ∀ w, w < n → nd w < 2 ^ n) (hg : g < 2 ^ n) : ∀ k, n ≤ k → itN nd n g k = itN nd n g n := by
  have key : ∀ k, (∃ j, j < k ∧ itN nd n g (j + 1) = itN nd n g j) ∨ cbN g n + k ≤ cbN (itN nd n g k) n := by
    intro k
    induction k with
    | zero => exact Or.inr (Nat.le_refl _)
    | succ k ih =>
      rcases ih with ⟨j, hj, e⟩ | q
      · exact Or.inl ⟨j, by omega, e⟩
      · by_cases c : itN nd n g (k + 1) = itN nd n g k
        · exact Or.inl ⟨k, by omega, c⟩
        · refine Or.inr ?_
          have hs : sub8 (itN nd n g k) (itN nd n g (k + 1)) := sub8_l _ _
          obtain ⟨i, h1, h2⟩ := ne_bit hs (fun q => c q.symm)
          have := cbN_lt hs h1 h2 n (bit_lt (itN_lt h hg (k + 1)) h2)
          omega
  have hfix : ∃ j, j ≤ n ∧ itN nd n g (j + 1) = itN nd n g j := by
    by_cases g0 : cbN g n = 0
    · refine ⟨0, Nat.zero_le _, ?_⟩
      have : g = 0 := by
        refine Classical.byContradiction (fun hne => ?_)
        obtain ⟨i, h1, h2⟩ := ne_bit (a := 0) (b := g) (fun i hi => by rw [Nat.zero_testBit] at hi; cases hi) (fun q => hne q.symm)
        have := cbN_lt (a := 0) (b := g) (fun i hi => by rw [Nat.zero_testBit] at hi; cases hi) h1 h2 n (bit_lt hg h2)
        omega
      show g ||| gaN nd n g = g
      rw [this]
      have : gaN nd n 0 = 0 := by
        apply sub8_eq
        · intro i hi
          rw [gaN_bit] at hi
          obtain ⟨w, _, h2, _⟩ := hi
          rw [Nat.zero_testBit] at h2; cases h2
        · intro i hi
          rw [Nat.zero_testBit] at hi; cases hi
      rw [this]; rfl
    · rcases key n with ⟨j, hj, e⟩ | q
      · exact ⟨j, by omega, e⟩
      · have := cbN_le (itN nd n g n) n
        omega
  obtain ⟨j, hj, e⟩ := hfix
  intro k hk
  have e1 := itN_fix e (k - j)
  have e2 := itN_fix e (n - j)
  rw [show j + (k - j) = k by omega] at e1
  rw [show j + (n - j) = n by omega] at e2
  rw [e1, e2]
def fwN (nd : Nat → Nat) (n g : Nat) : Nat := itN nd n g 8
theorem fwN_lt {nd : Nat → Nat} {n m g : Nat} (h : ∀ w, w < n → nd w < 2 ^ m) (hg : g < 2 ^ m) : fwN nd n g < 2 ^ m := itN_lt h hg 8
theorem itN_sup (nd : Nat → Nat) (n g : Nat) : ∀ k, sub8 g (itN nd n g k)
  | 0 => fun _ h => h
  | k + 1 => sub8_t (itN_sup nd n g k) (sub8_l _ _)
theorem itN_min {nd : Nat → Nat} {n g c : Nat} (h1 : sub8 g c) (h2 : sub8 (gaN nd n c) c) : ∀ k, sub8 (itN nd n g k) c
  | 0 => h1
  | k + 1 => sub8_or (itN_min h1 h2 k) (sub8_t (gaN_mono (itN_min h1 h2 k)) h2)
theorem fwN_cl {nd : Nat → Nat} {n g : Nat} (hn : n ≤ 8) (h : ∀ w, w < n → nd w < 2 ^ n) (hg : g < 2 ^ n) : sub8 (gaN nd n (fwN nd n g)) (fwN nd n g) := by
  have e : itN nd n g 9 = itN nd n g 8 := by rw [itN_stab h hg 9 (by omega), itN_stab h hg 8 hn]
  unfold fwN
  intro i hi
  rw [← e]
  exact sub8_r _ _ i hi
theorem fwN_or {nd : Nat → Nat} {n a b : Nat} (hn : n ≤ 8) (h : ∀ w, w < n → nd w < 2 ^ n) (ha : a < 2 ^ n) (hb : b < 2 ^ n) : fwN nd n (a ||| b) = fwN nd n a ||| fwN nd n b := by
  apply sub8_eq
  · refine itN_min ?_ ?_ 8
    · exact sub8_or (sub8_t (itN_sup nd n a 8) (sub8_l _ _)) (sub8_t (itN_sup nd n b 8) (sub8_r _ _))
    · rw [gaN_or]
      exact sub8_or (sub8_t (fwN_cl hn h ha) (sub8_l _ _)) (sub8_t (fwN_cl hn h hb) (sub8_r _ _))
  · have hc := fwN_cl hn h (Nat.or_lt_two_pow ha hb)
    exact sub8_or (itN_min (sub8_t (sub8_l _ _) (itN_sup nd n (a ||| b) 8)) hc 8) (itN_min (sub8_t (sub8_r _ _) (itN_sup nd n (a ||| b) 8)) hc 8)
/-- what follows of a part that holds w is no less than what follows of w -/
theorem fwN_in {nd : Nat → Nat} {n g c : Nat} (hn : n ≤ 8) (h : ∀ w, w < n → nd w < 2 ^ n) (hc : c < 2 ^ n) (hg : sub8 g (fwN nd n c)) : sub8 (fwN nd n g) (fwN nd n c) := itN_min hg (fwN_cl hn h hc) 8
