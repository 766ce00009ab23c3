/-! ===== cheap, second half: the class's cost is reached ===== -/
theorem dM_wit (AS : Nat → Nat → Int32) (pr g : Nat → Nat) (h : Nat) : ∀ k, dM AS pr g h k = 1000000 ∨ ∃ w, w < k ∧ ¬ AS h w = -4 ∧ dM AS pr g h k = pr w + g (AS h w).toNatClampNeg
  | 0 => Or.inl rfl
  | k + 1 => by
    have ih := dM_wit AS pr g h k
    have go : dM AS pr g h k = 1000000 ∨ ∃ w, w < k + 1 ∧ ¬ AS h w = -4 ∧ dM AS pr g h k = pr w + g (AS h w).toNatClampNeg := ih.imp id (fun ⟨w, h1, h2⟩ => ⟨w, by omega, h2⟩)
    rw [dM]
    by_cases q : AS h k = -4
    · rw [if_pos q]; exact go
    · rw [if_neg q]
      by_cases q2 : pr k + g (AS h k).toNatClampNeg < dM AS pr g h k
      · rw [if_pos q2]; exact Or.inr ⟨k, by omega, q, rfl⟩
      · rw [if_neg q2]; exact go
theorem fc_top {AS : Nat → Nat → Int32} {pr : Nat → Int32} {h0 n N : Nat} (hA : gUp AS n N) (hN : N ≤ 256) (hh : h0 < N) (hpr : ∀ w, w < n → ∃ q : Nat, q ≤ 9 ∧ pr w = nI q) : ∀ j, N ≤ j → p_fc AS pr h0 n N j = 1000000 := by
  have key : ∀ k, k ≤ N → fcI AS h0 n N k (p_fc AS pr h0 n k) := by
    intro k
    induction k with
    | zero =>
      intro _
      refine ⟨fun j hj => ?_, fun j hj => ⟨fun q => ?_, fun q => ?_⟩⟩
      · show upd (fun _ => 1000000) h0 0 j = 1000000
        rw [upd, if_neg (by omega)]
      · show upd (fun _ => 1000000) h0 0 j = 1000000
        rw [p_mk, upd] at q
        by_cases e : j = h0
        · rw [if_pos e] at q; exact absurd q (by decide)
        · rw [upd, if_neg e]
      · show ∃ c : Nat, c ≤ 9 * j ∧ upd (fun _ => 1000000) h0 0 j = nI c
        rw [p_mk, upd] at q
        by_cases e : j = h0
        · exact ⟨0, Nat.zero_le _, by rw [upd, if_pos e]; rfl⟩
        · rw [if_neg e] at q; exact absurd q (by decide)
    | succ k ih =>
      intro hk
      exact fc_step hA hN (by omega) hpr _ (ih (by omega))
  exact (key N (Nat.le_refl _)).1
theorem cheap_hi {AS : Nat → Nat → Int32} {LB prI : Nat → Int32} {p : Int32} {pr : Nat → Nat} {h0 n N : Nat} (hA : gUp AS n N) (hN : N ≤ 256) (hh : h0 < N) (hpr : ∀ w, w < n → pr w ≤ 9 ∧ prI w = nI (pr w)) : ∀ m h, h < N → N - h ≤ m → p_mk AS h0 n N h = 1 → dD AS LB p pr n N h < 1000000 → (p_cb (p_fc AS prI h0 n 256) LB p 256).toInt ≤ (p_fc AS prI h0 n 256 h).toInt + (dD AS LB p pr n N h : Int)
  | 0, h, h1, h2, _, _ => by omega
  | m + 1, h, h1, h2, hm, hd => by
    have hpr2 : ∀ w, w < n → ∃ q : Nat, q ≤ 9 ∧ prI w = nI q := fun w hw => ⟨pr w, (hpr w hw).1, (hpr w hw).2⟩
    have hfc := fc_all (AS := AS) (pr := prI) hA hN hh hpr2
    obtain ⟨ch, hch, ech⟩ := (hfc.2 h h1).2 hm
    rw [dD_eq hA hN h1] at hd ⊢
    by_cases w : p_hb (LB h) p = 0
    rotate_left
    · rw [if_neg w]
      have k := cb_min (p_fc AS prI h0 n 256) LB p w 256 (by omega)
      rw [Int32.lt_iff_toInt_lt] at k
      omega
    · rw [if_pos w] at hd ⊢
      rcases dM_wit AS pr (dD AS LB p pr n N) h n with q | ⟨v, hv, q, e⟩
      · omega
      · rcases hA h v h1 hv with z | ⟨b, b1, b2, z⟩
        · exact absurd z q
        · rw [z, nI_clamp (by omega)] at e
          have hmb := p_mk_cl hA hN h1 hv hm z b1
          have ih := cheap_hi (LB := LB) (p := p) hA hN hh hpr m b b1 (by omega) hmb (by omega)
          have eN : p_fc AS prI h0 n 256 = p_fc AS prI h0 n N := fc_256 hN (fc_top hA hN hh hpr2)
          have hl := fc_low (pr := prI) (h0 := h0) hA hN (N - h) (h := h) (by omega)
          rw [show h + (N - h) = N by omega, ← eN, ech] at hl
          have ed := fc_edge (pr := prI) (h0 := h0) hA hN h1 hv z b1 (by rw [← hl, show (1000000 : Int32) = nI 1000000 from rfl, nI_ltI (by omega) (by omega)]; omega) (N - (h + 1)) (by omega)
          rw [show h + 1 + (N - (h + 1)) = N by omega, ← eN, ← hl, (hpr v hv).2, nI_add, nI_toInt (by have := (hpr v hv).1; omega)] at ed
          rw [ech, nI_toInt (by omega), e]
          omega
