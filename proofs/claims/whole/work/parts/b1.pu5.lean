/-! ===== all; whether a row leads to somebody ===== -/
theorem p_mk_ge {AS : Nat → Nat → Int32} {h0 n N j : Nat} (hA : gUp AS n N) (hN : N ≤ 256) (hj : p_mk AS h0 n N j = 1) : h0 ≤ j := by
  refine p_mk_ind hA hN (fun j => h0 ≤ j) (Nat.le_refl _) ?_ N (Nat.le_refl _) j hj
  intro h w b hh hw hP hb hbN
  rcases hA h w hh hw with q | ⟨b', h1, h2, q⟩
  · rw [q] at hb; exact absurd hb.symm (nI_n4 (by omega))
  · rw [q] at hb
    have := (nI_eq (by omega) (by omega)).mp hb
    omega
theorem nI_n1 {a : Nat} (h : a < 256) : ¬ nI a = -1 := by
  intro q
  have q2 : (nI a).toInt = (-1 : Int32).toInt := by rw [q]
  rw [nI_toInt (by omega), show (-1 : Int32).toInt = -1 from rfl] at q2
  omega
/-- all: the class's answer is the model's -/
theorem all_eq {AS : Nat → Nat → Int32} {LB mv al c : Nat → Int32} {h0 n : Nat} (hA : gUp AS n (2 ^ n)) (hN : 2 ^ n ≤ 256) (hh : h0 < 2 ^ n) (hC : CHt AS LB h0 n mv al) (hc : fcI AS h0 n (2 ^ n) (2 ^ n) c) : p_ea mv al h0 (2 ^ n - h0) = p_al c LB 256 := by
  have e0 : (1000000 : Int32) = nI 1000000 := rfl
  have un : ∀ j, j < h0 → p_mk AS h0 n (2 ^ n) j = 0 := by
    intro j hj
    rcases p_mk_01 AS h0 n (2 ^ n) j with q | q
    · exact q
    · have := p_mk_ge hA hN q; omega
  have low : ∀ k, k ≤ h0 → p_al c LB k = 0 := by
    intro k
    induction k with
    | zero => intro _; rfl
    | succ k ih =>
      intro hk
      rw [p_al, (hc.2 k (by omega)).1 (un k (by omega)), if_neg (by decide), ih (by omega)]
  have mid : ∀ i, h0 + i ≤ 2 ^ n → p_al c LB (h0 + i) = p_ea mv al h0 i := by
    intro i
    induction i with
    | zero => intro _; exact low h0 (Nat.le_refl _)
    | succ i ih =>
      intro hi
      have ih := ih (by omega)
      show p_al c LB ((h0 + i) + 1) = p_ea mv al h0 (i + 1)
      rw [p_al, p_ea, ih]
      obtain ⟨m1, m0⟩ := hC (h0 + i) (by omega) (by omega)
      obtain ⟨k0, k1⟩ := hc.2 (h0 + i) (by omega)
      rcases p_mk_01 AS h0 n (2 ^ n) (h0 + i) with q | q
      · rw [k0 q, if_neg (by decide), m0 q, if_pos rfl]
      · obtain ⟨cc, hcc, ec⟩ := k1 q
        obtain ⟨ha, u, hu, hv, _⟩ := m1 q
        rw [ec, if_pos (by rw [e0, nI_ltI (by omega) (by omega)]; omega), hv, if_neg (nI_n1 hu), ha]
  have high : ∀ d, 2 ^ n + d ≤ 256 → p_al c LB (2 ^ n + d) = p_al c LB (2 ^ n) := by
    intro d
    induction d with
    | zero => intro _; rfl
    | succ d ih =>
      intro hd
      show p_al c LB ((2 ^ n + d) + 1) = _
      rw [p_al, hc.1 (2 ^ n + d) (by omega), if_neg (by decide), ih (by omega)]
  have h1 := high (256 - 2 ^ n) (by omega)
  rw [show 2 ^ n + (256 - 2 ^ n) = 256 by omega] at h1
  have h2 := mid (2 ^ n - h0) (by omega)
  rw [show h0 + (2 ^ n - h0) = 2 ^ n by omega] at h2
  rw [h1, h2]
/-- the model's least cost is none just where no state that a row leads to has him alive -/
theorem cb_any {AS : Nat → Nat → Int32} {LB c : Nat → Int32} {h0 n N : Nat} {p : Int32} (hN : N ≤ 256) (hc : fcI AS h0 n N N c) : (p_cb c LB p 256 = 1000000 ∧ p_any (p_mk AS h0 n N) LB p N = 0) ∨ (∃ m : Nat, m ≤ 2304 ∧ p_cb c LB p 256 = nI m ∧ p_any (p_mk AS h0 n N) LB p N = 1) := by
  have e0 : (1000000 : Int32) = nI 1000000 := rfl
  have key : ∀ k, k ≤ N → (p_cb c LB p k = 1000000 ∧ p_any (p_mk AS h0 n N) LB p k = 0) ∨ (∃ m : Nat, m ≤ 2304 ∧ p_cb c LB p k = nI m ∧ p_any (p_mk AS h0 n N) LB p k = 1) := by
    intro k
    induction k with
    | zero => intro _; exact Or.inl ⟨rfl, rfl⟩
    | succ k ih =>
      intro hk
      have ih := ih (by omega)
      obtain ⟨k0, k1⟩ := hc.2 k (by omega)
      rw [p_cb, p_any]
      rcases p_mk_01 AS h0 n N k with q | q
      · rw [k0 q, q, if_pos rfl]
        rcases ih with ⟨a1, a2⟩ | ⟨m, hm, a1, a2⟩
        · rw [a1, if_neg (by decide)]; exact Or.inl ⟨rfl, a2⟩
        · rw [a1, if_neg (by rw [e0, nI_ltI (by omega) (by omega)]; omega)]; exact Or.inr ⟨m, hm, rfl, a2⟩
      · obtain ⟨cc, hcc, ec⟩ := k1 q
        rw [ec, q, if_neg (show ¬ (1 : Int32) = 0 by decide)]
        by_cases w : p_hb (LB k) p = 0
        · rw [if_pos w, if_pos w]
          rcases ih with ⟨a1, a2⟩ | ⟨m, hm, a1, a2⟩
          · rw [a1]
            refine Or.inl ⟨?_, a2⟩
            split <;> rfl
          · rw [a1]
            refine Or.inr ⟨m, hm, ?_, a2⟩
            split <;> rfl
        · rw [if_neg w, if_neg w]
          refine Or.inr ?_
          rcases ih with ⟨a1, a2⟩ | ⟨m, hm, a1, a2⟩
          · rw [a1, if_pos (by rw [e0, nI_ltI (by omega) (by omega)]; omega)]
            exact ⟨cc, by omega, rfl, rfl⟩
          · rw [a1]
            by_cases z : nI cc < nI m
            · rw [if_pos z]; exact ⟨cc, by omega, rfl, rfl⟩
            · rw [if_neg z]; exact ⟨m, hm, rfl, rfl⟩
  have high : ∀ d, N + d ≤ 256 → p_cb c LB p (N + d) = p_cb c LB p N := by
    intro d
    induction d with
    | zero => intro _; rfl
    | succ d ih =>
      intro hd
      have ih := ih (by omega)
      show p_cb c LB p ((N + d) + 1) = _
      rw [p_cb, hc.1 (N + d) (by omega), ih]
      rcases key N (Nat.le_refl _) with ⟨a1, _⟩ | ⟨m, hm, a1, _⟩
      · rw [a1, if_neg (by decide)]
      · rw [a1, if_neg (by rw [e0, nI_ltI (by omega) (by omega)]; omega)]
  have h1 := high (256 - N) (by omega)
  rw [show N + (256 - N) = 256 by omega] at h1
  rw [h1]
  exact key N (Nat.le_refl _)
theorem cO_any {AS : Nat → Nat → Int32} {pr LB : Nat → Int32} {h0 n N : Nat} {p : Int32} (hA : gUp AS n N) (hN : N ≤ 256) (hh : h0 < N) (hpr : ∀ w, w < n → ∃ q : Nat, q ≤ 9 ∧ pr w = nI q) : p_cO AS pr LB h0 n p = -4 ↔ p_any (p_mk AS h0 n N) LB p N = 0 := by
  unfold p_cO
  rcases cb_any (LB := LB) (p := p) hN (fc_all hA hN hh hpr) with ⟨a1, a2⟩ | ⟨m, hm, a1, a2⟩
  · rw [a1, a2, if_pos rfl]
    exact ⟨fun _ => rfl, fun _ => rfl⟩
  · have e0 : (1000000 : Int32) = nI 1000000 := rfl
    rw [a1, a2, if_neg (by rw [e0, nI_eq (by omega) (by omega)]; omega)]
    refine ⟨fun q => ?_, fun q => absurd q (by decide)⟩
    have q2 : (nI m).toInt = (-4 : Int32).toInt := by rw [q]
    rw [nI_toInt (by omega), show (-4 : Int32).toInt = -4 from rfl] at q2
    omega
