/-! ===== costs by the graph, downward ===== -/
def dM (AS : Nat → Nat → Int32) (pr g : Nat → Nat) (h : Nat) : Nat → Nat
  | 0 => 1000000
  | k + 1 => if AS h k = -4 then dM AS pr g h k else (if pr k + g (AS h k).toNatClampNeg < dM AS pr g h k then pr k + g (AS h k).toNatClampNeg else dM AS pr g h k)
/-- the least cost of a row from h behind which p lives, by f steps -/
def dC (AS : Nat → Nat → Int32) (LB : Nat → Int32) (p : Int32) (pr : Nat → Nat) (n : Nat) : Nat → Nat → Nat
  | 0, _ => 1000000
  | f + 1, h => if p_hb (LB h) p = 0 then dM AS pr (dC AS LB p pr n f) h n else 0
theorem dM_le (AS : Nat → Nat → Int32) (pr g : Nat → Nat) (h : Nat) : ∀ k, dM AS pr g h k ≤ 1000000
  | 0 => Nat.le_refl _
  | k + 1 => by
    have ih := dM_le AS pr g h k
    rw [dM]
    split
    · exact ih
    · split <;> omega
theorem dC_le (AS : Nat → Nat → Int32) (LB : Nat → Int32) (p : Int32) (pr : Nat → Nat) (n : Nat) : ∀ f h, dC AS LB p pr n f h ≤ 1000000
  | 0, _ => Nat.le_refl _
  | f + 1, h => by
    rw [dC]
    split
    · exact dM_le _ _ _ _ _
    · omega
theorem dM_congr {AS : Nat → Nat → Int32} {pr g g' : Nat → Nat} {h n N : Nat} (hA : gUp AS n N) (hN : N ≤ 256) (hh : h < N) (hg : ∀ b, h < b → b < N → g b = g' b) : ∀ k, k ≤ n → dM AS pr g h k = dM AS pr g' h k
  | 0, _ => rfl
  | k + 1, hk => by
    have ih := dM_congr hA hN hh hg (pr := pr) k (by omega)
    rw [dM, dM, ih]
    rcases hA h k hh (by omega) with q | ⟨b, h1, h2, q⟩
    · rw [if_pos q, if_pos q]
    · rw [q, nI_clamp (by omega), hg b h2 h1]
theorem dC_fuel {AS : Nat → Nat → Int32} {LB : Nat → Int32} {p : Int32} {pr : Nat → Nat} {n N : Nat} (hA : gUp AS n N) (hN : N ≤ 256) : ∀ f f' h, h < N → N - h ≤ f → N - h ≤ f' → dC AS LB p pr n f h = dC AS LB p pr n f' h
  | 0, _, h, hh, h1, _ => by omega
  | f + 1, 0, h, hh, _, h2 => by omega
  | f + 1, f' + 1, h, hh, h1, h2 => by
    rw [dC, dC, dM_congr hA hN hh (fun b b1 b2 => dC_fuel hA hN f f' b b2 (by omega) (by omega)) n (Nat.le_refl _)]
/-- the least cost from a state -/
def dD (AS : Nat → Nat → Int32) (LB : Nat → Int32) (p : Int32) (pr : Nat → Nat) (n N h : Nat) : Nat := dC AS LB p pr n N h
theorem dD_eq {AS : Nat → Nat → Int32} {LB : Nat → Int32} {p : Int32} {pr : Nat → Nat} {n N h : Nat} (hA : gUp AS n N) (hN : N ≤ 256) (hh : h < N) : dD AS LB p pr n N h = if p_hb (LB h) p = 0 then dM AS pr (dD AS LB p pr n N) h n else 0 := by
  unfold dD
  rw [dC_fuel hA hN N (N + 1) h hh (by omega) (by omega), dC]
/-- the class's costs are these, on the states that rows lead to -/
theorem lkc_sem {AS : Nat → Nat → Int32} {LB mv al c0 prI : Nat → Int32} {s : Nat → Int32} {F : Nat → Nat → Int32} {n h0 : Nat} {p z : Int32} {pr : Nat → Nat} (hb : bOK s F n h0) (hup : gUp AS n (2 ^ n)) (hed : gEd AS (F 4) n) (hC : CHt AS LB h0 n mv al) (hpr : ∀ w, w < n → pr w ≤ 9 ∧ (if z = 0 then 1 else prI w) = nI (pr w)) :
    ∀ i, i ≤ 2 ^ n - h0 → ∀ h, 2 ^ n - i ≤ h → h < 2 ^ n → p_mk AS h0 n (2 ^ n) h = 1 → p_lkc mv al (F 6) prI p z n (2 ^ n) c0 i h = nI (dD AS LB p pr n (2 ^ n) h) := by
  obtain ⟨hn1, hn, hs5, hh0, hnd, hon, hfo, hwa⟩ := hb
  have h28 := p_2le n hn
  have hl := fun h => dC_le AS LB p pr n (2 ^ n) h
  intro i
  induction i with
  | zero => intro _ h h1 h2; omega
  | succ i ih =>
    intro hi h h1 h2 hm
    have ih := ih (by omega)
    obtain ⟨x, hx⟩ : ∃ x, x = 2 ^ n - 1 - i := ⟨_, rfl⟩
    rw [p_lkc, p_lkS, ← hx]
    by_cases c : mv x = -1
    · rw [if_pos c]
      by_cases e : h = x
      · obtain ⟨u, hu, hv, _⟩ := ((hC h (by omega) h2).1 hm).2
        rw [← e, hv] at c; exact absurd c (nI_n1 hu)
      · exact ih h (by omega) h2 hm
    · rw [if_neg c]
      by_cases e : h = x
      rotate_left
      · rw [upd, if_neg e]; exact ih h (by omega) h2 hm
      · rw [upd, if_pos e, ← e]
        obtain ⟨ha, u, hu, hv, hbit⟩ := (hC h (by omega) h2).1 hm
        rw [ha, dD_eq hup h28 h2]
        by_cases w : p_hb (LB h) p = 0
        rotate_left
        · rw [if_neg w, if_neg w]; rfl
        · rw [if_pos w, if_pos w]
          have key : ∀ k, k ≤ n → p_cx (mv h) (F 6) prI (p_lkc mv al (F 6) prI p z n (2 ^ n) c0 i) (nI h) z k = nI (dM AS pr (dD AS LB p pr n (2 ^ n)) h k) := by
            intro k
            induction k with
            | zero => intro _; rfl
            | succ k ihk =>
              intro hk
              have ihk := ihk (by omega)
              have hbk := hbit k (by omega)
              rw [← hv] at hbk
              have hle := dM_le AS pr (dD AS LB p pr n (2 ^ n)) h k
              rw [p_cx, dM, ihk]
              by_cases q : AS h k = -4
              · rw [if_pos (hbk.mpr q), if_pos q]
              · rw [if_neg (fun z => q (hbk.mp z)), if_neg q]
                have hbe := (hed h k h2 (by omega)).resolve_left q
                have hbl := Nat.or_lt_two_pow h2 (foN_lt hn hnd (show k < n by omega))
                rcases hup h k h2 (by omega) with z2 | ⟨b, b1, b2, z2⟩
                · exact absurd z2 q
                have hbb : h ||| foN (F 4) n k = b := by
                  rw [hbe] at z2
                  exact (nI_eq (by omega) (by omega)).mp z2
                have hmb := p_mk_cl hup h28 h2 (show k < n by omega) hm z2 b1
                have hcb := ih b (by omega) b1 hmb
                have hlb := hl b
                rw [hfo k (by omega), lt8_orI, hbb, nI_clamp (by omega), hcb, z2, nI_clamp (by omega), (hpr k (by omega)).2, nI_add]
                have hp9 := (hpr k (by omega)).1
                have hlb2 : dD AS LB p pr n (2 ^ n) b ≤ 1000000 := hlb
                by_cases y : pr k + dD AS LB p pr n (2 ^ n) b < dM AS pr (dD AS LB p pr n (2 ^ n)) h k
                · rw [if_pos y, if_pos (by rw [nI_ltI (by omega) (by omega)]; exact y)]
                · rw [if_neg y, if_neg (by rw [nI_ltI (by omega) (by omega)]; exact y)]
          exact key n (Nat.le_refl _)
