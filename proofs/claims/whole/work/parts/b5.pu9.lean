/-! ===== costs upward are costs of rows ===== -/
theorem fc_256 {AS : Nat → Nat → Int32} {pr : Nat → Int32} {h0 n N : Nat} (hN : N ≤ 256) (hh : ∀ j, N ≤ j → p_fc AS pr h0 n N j = 1000000) : p_fc AS pr h0 n 256 = p_fc AS pr h0 n N := by
  have rest : ∀ d, N + d ≤ 256 → p_fc AS pr h0 n (N + d) = p_fc AS pr h0 n N := by
    intro d
    induction d with
    | zero => intro _; rfl
    | succ d ih =>
      intro hd
      have ih := ih (by omega)
      show p_fcI AS pr (N + d) (p_fc AS pr h0 n (N + d)) n = _
      have hg : ¬ p_fcI AS pr (N + d) (p_fc AS pr h0 n (N + d)) 0 (N + d) < 1000000 := by
        show ¬ p_fc AS pr h0 n (N + d) (N + d) < 1000000
        rw [ih, hh (N + d) (by omega)]; decide
      have e2 := p_fcI_stop AS pr (N + d) (p_fc AS pr h0 n (N + d)) hg n
      rw [Nat.zero_add] at e2
      rw [e2]
      exact ih
  have r := rest (256 - N) (by omega)
  rw [show N + (256 - N) = 256 by omega] at r
  exact r
/-- what holds of the costs of rows holds of what is found -/
theorem fc_gen {AS : Nat → Nat → Int32} {pr : Nat → Int32} {h0 n N : Nat} (hA : gUp AS n N) (hN : N ≤ 256) (hh : h0 < N) (hpr : ∀ w, w < n → ∃ q : Nat, q ≤ 9 ∧ pr w = nI q) (Q : Nat → Nat → Prop) (q0 : Q h0 0)
    (qs : ∀ h w b c q, h < N → w < n → AS h w = nI b → b < N → pr w = nI q → q ≤ 9 → Q h c → Q b (c + q)) : ∀ j, j < N → p_mk AS h0 n N j = 1 → ∃ c : Nat, c ≤ 9 * j ∧ Q j c ∧ p_fc AS pr h0 n 256 j = nI c := by
  have e0 : (1000000 : Int32) = nI 1000000 := rfl
  have key : ∀ k, k ≤ N → (∀ j, N ≤ j → p_fc AS pr h0 n k j = 1000000) ∧ ∀ j, j < N → (p_mk AS h0 n k j = 0 → p_fc AS pr h0 n k j = 1000000) ∧ (p_mk AS h0 n k j = 1 → ∃ c : Nat, c ≤ 9 * j ∧ Q j c ∧ p_fc AS pr h0 n k j = nI c) := by
    intro k
    induction k with
    | zero =>
      intro _
      refine ⟨fun j hj => ?_, fun j hj => ⟨fun q => ?_, fun q => ?_⟩⟩
      · show upd (fun _ => 1000000) h0 0 j = 1000000
        rw [upd, if_neg (by omega)]
      · show upd (fun _ => 1000000) h0 0 j = 1000000
        rw [p_mk, upd] at q
        by_cases e : j = h0
        · rw [if_pos e] at q; exact absurd q (by decide)
        · rw [upd, if_neg e]
      · show ∃ c : Nat, c ≤ 9 * j ∧ Q j c ∧ upd (fun _ => 1000000) h0 0 j = nI c
        rw [p_mk, upd] at q
        by_cases e : j = h0
        · exact ⟨0, Nat.zero_le _, by rw [e]; exact q0, by rw [upd, if_pos e]; rfl⟩
        · rw [if_neg e] at q; exact absurd q (by decide)
    | succ k ih =>
      intro hk1
      have hk : k < N := hk1
      have hI := ih (by omega)
      obtain ⟨g, hg⟩ : ∃ g, g = p_fc AS pr h0 n k := ⟨_, rfl⟩
      rw [← hg] at hI
      have eg : p_fc AS pr h0 n (k + 1) = p_fcI AS pr k g n := by rw [hg]; rfl
      rw [eg]
      by_cases c : p_mk AS h0 n k k = 0
      · have e : p_mk AS h0 n (k + 1) = p_mk AS h0 n k := by
          funext j
          show (if p_mk AS h0 n k k = 0 then p_mk AS h0 n k j else p_mkI AS k (p_mk AS h0 n k) n j) = _
          rw [if_pos c]
        have hg0 : ¬ p_fcI AS pr k g 0 k < 1000000 := by
          show ¬ g k < 1000000
          rw [(hI.2 k hk).1 c]; decide
        have e2 := p_fcI_stop AS pr k g hg0 n
        rw [Nat.zero_add] at e2
        rw [e2, e]
        exact hI
      · have c1 := (p_mk_01 AS h0 n k k).resolve_left c
        have e : p_mk AS h0 n (k + 1) = p_mkI AS k (p_mk AS h0 n k) n := by
          funext j
          show (if p_mk AS h0 n k k = 0 then p_mk AS h0 n k j else p_mkI AS k (p_mk AS h0 n k) n j) = _
          rw [if_neg c]
        obtain ⟨ck, hck, hQk, hgk⟩ := (hI.2 k hk).2 c1
        have inn : ∀ i, i ≤ n → p_fcI AS pr k g i k = nI ck ∧ (∀ j, N ≤ j → p_fcI AS pr k g i j = 1000000) ∧ ∀ j, j < N → (p_mkI AS k (p_mk AS h0 n k) i j = 0 → p_fcI AS pr k g i j = 1000000) ∧ (p_mkI AS k (p_mk AS h0 n k) i j = 1 → ∃ c : Nat, c ≤ 9 * j ∧ Q j c ∧ p_fcI AS pr k g i j = nI c) := by
          intro i
          induction i with
          | zero => intro _; exact ⟨hgk, hI.1, hI.2⟩
          | succ i ih =>
            intro hi
            obtain ⟨i1, i2, i3⟩ := ih (by omega)
            have hlt : p_fcI AS pr k g i k < 1000000 := by rw [i1, e0, nI_ltI (by omega) (by omega)]; omega
            rcases hA k i hk (by omega) with q | ⟨b, hb, hkb, q⟩
            · have b1 : p_fcI AS pr k g (i + 1) = p_fcI AS pr k g i := by
                funext j; rw [p_fcI, p_fcS, if_pos hlt, if_pos q]
              have b2 : p_mkI AS k (p_mk AS h0 n k) (i + 1) = p_mkI AS k (p_mk AS h0 n k) i := by
                funext j; rw [p_mkI, p_mkS, if_pos q]
              rw [b1, b2]
              exact ⟨i1, i2, i3⟩
            · have q4 : ¬ AS k i = -4 := by rw [q]; exact nI_n4 (by omega)
              obtain ⟨pq, hpq, hpe⟩ := hpr i (by omega)
              have hsum : p_fcI AS pr k g i k + pr i = nI (ck + pq) := by rw [i1, hpe, nI_add]
              have b1 : p_fcI AS pr k g (i + 1) = upd (p_fcI AS pr k g i) b (if nI (ck + pq) < p_fcI AS pr k g i b then nI (ck + pq) else p_fcI AS pr k g i b) := by
                funext j; rw [p_fcI, p_fcS, if_pos hlt, if_neg q4, q, nI_clamp (by omega), hsum]
              have b2 : p_mkI AS k (p_mk AS h0 n k) (i + 1) = upd (p_mkI AS k (p_mk AS h0 n k) i) b 1 := by
                funext j; rw [p_mkI, p_mkS, if_neg q4, q, nI_clamp (by omega)]
              rw [b1, b2]
              refine ⟨?_, fun j hj => ?_, fun j hj => ?_⟩
              · rw [upd, if_neg (by omega)]; exact i1
              · rw [upd, if_neg (by omega)]; exact i2 j hj
              · unfold upd
                by_cases ej : j = b
                · rw [if_pos ej, if_pos ej, ej]
                  refine ⟨fun z => absurd z (by decide), fun _ => ?_⟩
                  by_cases w : nI (ck + pq) < p_fcI AS pr k g i b
                  · rw [if_pos w]; exact ⟨ck + pq, by omega, qs k i b ck pq hk (by omega) q hb hpe hpq hQk, rfl⟩
                  · rw [if_neg w]
                    have hb2 := p_mkI_01 (h := k) (fun j => p_mk_01 AS h0 n k j) (AS := AS) i b
                    rcases hb2 with z | z
                    · rw [(i3 b hb).1 z, e0, nI_ltI (by omega) (by omega)] at w; omega
                    · exact (i3 b hb).2 z
                · rw [if_neg ej, if_neg ej]; exact i3 j hj
        obtain ⟨_, k2, k3⟩ := inn n (Nat.le_refl _)
        rw [e]
        exact ⟨k2, k3⟩
  obtain ⟨kN, kM⟩ := key N (Nat.le_refl _)
  intro j hj hm
  rw [fc_256 hN kN]
  exact (kM j hj).2 hm
/-- from a state the cost is no more than a step and the cost from there -/
theorem dM_ge (AS : Nat → Nat → Int32) (pr g : Nat → Nat) (h w : Nat) (hw : ¬ AS h w = -4) : ∀ k, w < k → dM AS pr g h k ≤ pr w + g (AS h w).toNatClampNeg
  | 0, h1 => by omega
  | k + 1, h1 => by
    rw [dM]
    rcases Nat.lt_or_eq_of_le (Nat.le_of_lt_succ h1) with q | q
    · have ih := dM_ge AS pr g h w hw k q
      split
      · exact ih
      · split <;> omega
    · rw [← q, if_neg hw]
      split <;> omega
