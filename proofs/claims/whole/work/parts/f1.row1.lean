/-! ===== row: how far, and the first of the shortest rows ===== -/
/-- D tells how many steps a row wants -/
def DD (AS : Nat → Nat → Int32) (LB : Nat → Int32) (p : Int32) (n M : Nat) (D : Nat → Nat) : Prop := (∀ h, h < M → (D h = 0 ↔ ¬ p_hb (LB h) p = 0)) ∧ (∀ h w b, h < M → w < n → AS h w = nI b → b < M → D h ≤ D b + 1) ∧ (∀ h, h < M → 0 < D h → D h < 1000000 → ∃ w b, w < n ∧ AS h w = nI b ∧ b < M ∧ D b + 1 = D h) ∧ ∀ h, D h ≤ 1000000
theorem DD_dD {AS : Nat → Nat → Int32} {LB : Nat → Int32} {p : Int32} {n M : Nat} (hA : gUp AS n M) (hM : M ≤ 256) : DD AS LB p n M (dD AS LB p (fun _ => 1) n M) := by
  refine ⟨fun h hh => ?_, fun h w b hh hw hb hbM => ?_, fun h hh h0 h1 => ?_, fun h => dC_le _ _ _ _ _ _ _⟩
  · rw [dD_eq hA hM hh]
    by_cases c : p_hb (LB h) p = 0
    · rw [if_pos c]
      refine ⟨fun q => ?_, fun q => absurd c q⟩
      rcases dM_wit AS (fun _ => 1) (dD AS LB p (fun _ => 1) n M) h n with z | ⟨w, _, _, z⟩
      · omega
      · omega
    · rw [if_neg c]
      exact ⟨fun _ => c, fun _ => rfl⟩
  · have := dD_step (LB := LB) (p := p) (pr := fun _ => 1) hA hM hh hw hb hbM
    omega
  · rw [dD_eq hA hM hh] at h0 h1 ⊢
    by_cases c : p_hb (LB h) p = 0
    · rw [if_pos c] at h0 h1 ⊢
      rcases dM_wit AS (fun _ => 1) (dD AS LB p (fun _ => 1) n M) h n with z | ⟨w, hw, hne, z⟩
      · omega
      · rcases hA h w hh hw with q | ⟨b, b1, b2, q⟩
        · exact absurd q hne
        · rw [q, nI_clamp (by omega)] at z
          exact ⟨w, b, hw, q, b1, by omega⟩
    · rw [if_neg c] at h0
      omega
/-- the least wish that leads one step nearer -/
def fgw (AS : Nat → Nat → Int32) (D : Nat → Nat) (x u : Nat) (n M : Nat) : Prop := u < n ∧ (∃ b, b < M ∧ AS x u = nI b ∧ D b + 1 = D x) ∧ ∀ w, w < u → ∀ b, b < M → AS x w = nI b → D b + 1 ≠ D x
theorem fgw_ex {AS : Nat → Nat → Int32} {D : Nat → Nat} {x n M : Nat} : ∀ k, (∃ w b, w < k ∧ b < M ∧ AS x w = nI b ∧ D b + 1 = D x) → k ≤ n → ∃ u, fgw AS D x u n M
  | 0, ⟨w, _, hw, _⟩, _ => by omega
  | k + 1, ⟨w, b, hw, hb, h1, h2⟩, hk => by
    by_cases c : ∃ w b, w < k ∧ b < M ∧ AS x w = nI b ∧ D b + 1 = D x
    · exact fgw_ex k c (by omega)
    · have e : w = k := by
        rcases Nat.lt_or_eq_of_le (Nat.le_of_lt_succ hw) with q | q
        · exact absurd ⟨w, b, q, hb, h1, h2⟩ c
        · exact q
      exact ⟨k, by omega, ⟨b, hb, by rw [← e]; exact h1, h2⟩, fun v hv b' hb' h3 h4 => c ⟨v, b', hv, hb', h3, h4⟩⟩
/-- the states and wishes of the first of the shortest rows -/
def PA (AS : Nat → Nat → Int32) (D : Nat → Nat) (n M h0 N : Nat) (gg ww : Nat → Nat) : Prop := gg 0 = h0 ∧ (∀ k, k ≤ N → gg k < M ∧ D (gg k) + k = N ∧ p_mk AS h0 n M (gg k) = 1 ∧ k ≤ gg k) ∧ ∀ k, k < N → fgw AS D (gg k) (ww k) n M ∧ AS (gg k) (ww k) = nI (gg (k + 1))
theorem PA_ex {AS : Nat → Nat → Int32} {LB : Nat → Int32} {p : Int32} {n M h0 : Nat} {D : Nat → Nat} (hA : gUp AS n M) (hM : M ≤ 256) (hD : DD AS LB p n M D) : ∀ N h a, h < M → D h = N → N < 1000000 → p_mk AS a n M h = 1 → ∃ gg ww : Nat → Nat, gg 0 = h ∧ (∀ k, k ≤ N → gg k < M ∧ D (gg k) + k = N ∧ p_mk AS a n M (gg k) = 1 ∧ h + k ≤ gg k) ∧ ∀ k, k < N → fgw AS D (gg k) (ww k) n M ∧ AS (gg k) (ww k) = nI (gg (k + 1))
  | 0, h, a, hh, hN, _, hm => ⟨fun _ => h, fun _ => 0, rfl, fun k hk => ⟨hh, by show D h + k = 0; omega, hm, by show h + k ≤ h; omega⟩, fun k hk => by omega⟩
  | N + 1, h, a, hh, hN, hlt, hm => by
    obtain ⟨w, b, h1, h2, h3, h4⟩ := hD.2.2.1 h hh (by omega) (by omega)
    obtain ⟨u, hu⟩ := fgw_ex (n := n) n ⟨w, b, h1, h3, h2, h4⟩ (Nat.le_refl n)
    obtain ⟨hun, ⟨b, hb, hab, hbd⟩, hle⟩ := id hu
    have hgt : h < b := by
      rcases hA h u hh hun with q | ⟨b', q1, q2, q3⟩
      · rw [q] at hab; exact absurd hab.symm (nI_n4 (by omega))
      · rw [q3] at hab
        have := (nI_eq (by omega) (by omega)).mp hab
        omega
    obtain ⟨gg, ww, g0, g1, g2⟩ := PA_ex (h0 := h0) hA hM hD N b a hb (by omega) (by omega) (p_mk_cl hA hM hh hun hm hab hb)
    refine ⟨fun k => match k with | 0 => h | k + 1 => gg k, fun k => match k with | 0 => u | k + 1 => ww k, rfl, fun k hk => ?_, fun k hk => ?_⟩
    · cases k with
      | zero => exact ⟨hh, hN, hm, Nat.le_refl h⟩
      | succ k =>
        obtain ⟨r1, r2, r3, r4⟩ := g1 k (by omega)
        exact ⟨r1, by show D (gg k) + (k + 1) = N + 1; omega, r3, by show h + (k + 1) ≤ gg k; omega⟩
    · cases k with
      | zero => exact ⟨hu, by show AS h u = nI (gg 0); rw [g0]; exact hab⟩
      | succ k => exact g2 k (by omega)
theorem PA_of {AS : Nat → Nat → Int32} {LB : Nat → Int32} {p : Int32} {n M h0 : Nat} {D : Nat → Nat} (hA : gUp AS n M) (hM : M ≤ 256) (hD : DD AS LB p n M D) (hh : h0 < M) (hN : D h0 < 1000000) (hm : p_mk AS h0 n M h0 = 1) : ∃ gg ww : Nat → Nat, PA AS D n M h0 (D h0) gg ww := by
  obtain ⟨gg, ww, g0, g1, g2⟩ := PA_ex (h0 := h0) hA hM hD (D h0) h0 h0 hh rfl hN hm
  exact ⟨gg, ww, g0, fun k hk => ⟨(g1 k hk).1, (g1 k hk).2.1, (g1 k hk).2.2.1, by have := (g1 k hk).2.2.2; omega⟩, g2⟩
/-! the class's walk -/
theorem sub1_eq {a m : Nat} (ha : a ≤ 1000000) (hm : m ≤ 1000000) : nI a = nI m - 1 ↔ a + 1 = m := by
  constructor
  · intro q
    have : nI (a + 1) = nI m := by rw [← nI_1, q, Int32.sub_add_cancel]
    exact (nI_eq (by omega) (by omega)).mp this
  · intro q
    rw [← q, ← nI_1, Int32.add_sub_cancel]
theorem f1_no {mv x : Int32} {fo c : Nat → Int32} : ∀ k w, (∀ v, w ≤ v → v < w + k → p_hb mv (nI v) = 0 ∨ ¬ c (x ||| fo v).toNatClampNeg = c x.toNatClampNeg - 1) → p_f1 mv fo c x k w = -4
  | 0, _, _ => rfl
  | k + 1, w, h => by
    have ih := f1_no k (w + 1) (fun v h1 h2 => h v (by omega) (by omega))
    rw [p_f1, ih]
    by_cases q : p_hb mv (nI w) = 0
    · rw [if_pos q]
    · rw [if_neg q, if_neg ((h w (Nat.le_refl w) (by omega)).resolve_left q)]
theorem f1_yes {mv x : Int32} {fo c : Nat → Int32} {u : Nat} (h1 : ¬ p_hb mv (nI u) = 0) (h2 : c (x ||| fo u).toNatClampNeg = c x.toNatClampNeg - 1) : ∀ k w, w ≤ u → u < w + k → (∀ v, w ≤ v → v < u → p_hb mv (nI v) = 0 ∨ ¬ c (x ||| fo v).toNatClampNeg = c x.toNatClampNeg - 1) → p_f1 mv fo c x k w = nI u
  | 0, w, a, b, _ => by omega
  | k + 1, w, a, b, h => by
    rw [p_f1]
    rcases Nat.lt_or_eq_of_le a with q | q
    · have ih := f1_yes h1 h2 k (w + 1) (by omega) (by omega) (fun v h1 h2 => h v (by omega) (by omega))
      rw [ih]
      by_cases z : p_hb mv (nI w) = 0
      · rw [if_pos z]
      · rw [if_neg z, if_neg ((h w (Nat.le_refl w) q).resolve_left z)]
    · rw [q, if_neg h1, if_pos h2]
/-- what the class knows at the states of rows -/
def KC (AS : Nat → Nat → Int32) (D : Nat → Nat) (n M h0 : Nat) (mv fo c : Nat → Int32) : Prop := ∀ x, x < M → p_mk AS h0 n M x = 1 → c x = nI (D x) ∧ ∀ w, w < n → (p_hb (mv x) (nI w) = 0 ↔ AS x w = -4) ∧ ∀ b, b < M → AS x w = nI b → nI x ||| fo w = nI b
theorem KC_step {AS : Nat → Nat → Int32} {D : Nat → Nat} {n M h0 x w : Nat} {mv fo c : Nat → Int32} (hA : gUp AS n M) (hM : M ≤ 256) (hD : ∀ h, D h ≤ 1000000) (hK : KC AS D n M h0 mv fo c) (hx : x < M) (hm : p_mk AS h0 n M x = 1) (hw : w < n) : (p_hb (mv x) (nI w) = 0 ∨ ¬ c (nI x ||| fo w).toNatClampNeg = c (nI x).toNatClampNeg - 1) ↔ ∀ b, b < M → AS x w = nI b → D b + 1 ≠ D x := by
  obtain ⟨k1, k2⟩ := hK x hx hm
  obtain ⟨k3, k4⟩ := k2 w hw
  rw [k3, nI_clamp (by omega), k1]
  rcases hA x w hx hw with q | ⟨b, b1, b2, q⟩
  · refine ⟨fun _ b hb e => ?_, fun _ => Or.inl q⟩
    rw [q] at e
    exact absurd e.symm (nI_n4 (by omega))
  · rw [k4 b b1 q, nI_clamp (by omega), (hK b b1 (p_mk_cl hA hM hx hw hm q b1)).1, sub1_eq (hD b) (hD x)]
    constructor
    · rintro (z | z) b' hb' e
      · rw [q] at z; exact absurd z (nI_n4 (by omega))
      · rw [q] at e
        have := (nI_eq (by omega) (by omega)).mp e
        rw [← this]; exact z
    · intro z
      exact Or.inr (z b b1 q)
theorem wr_sem {AS : Nat → Nat → Int32} {LB : Nat → Int32} {p : Int32} {D : Nat → Nat} {n M h0 N : Nat} {gg ww : Nat → Nat} {mv fo c : Nat → Int32} (hA : gUp AS n M) (hM : M ≤ 256) (hn : n ≤ 8) (hD : DD AS LB p n M D) (hK : KC AS D n M h0 mv fo c) (hP : PA AS D n M h0 N gg ww) : ∀ i k w0, k ≤ N → p_wr mv fo c n (i + 1) (nI (gg k)) w0 = if k + i < N then nI (ww (k + i)) else -4 := by
  have ey : ∀ k, k < N → p_f1 (mv (nI (gg k)).toNatClampNeg) fo c (nI (gg k)) n 0 = nI (ww k) := by
    intro k q
    obtain ⟨g1, g2, g3, _⟩ := hP.2.1 k (Nat.le_of_lt q)
    obtain ⟨⟨u1, ⟨b, u2, u3, u4⟩, u5⟩, e⟩ := hP.2.2 k q
    have st := fun w hw => KC_step (w := w) hA hM hD.2.2.2 hK g1 g3 hw
    have no := (not_congr (st (ww k) u1)).mpr (fun z => z b u2 u3 u4)
    rw [show mv (nI (gg k)).toNatClampNeg = mv (gg k) by rw [nI_clamp (by omega)]]
    exact f1_yes (fun z => no (Or.inl z)) (Decidable.byContradiction (fun z => no (Or.inr z))) n 0 (Nat.zero_le _) (by omega) (fun v _ hv => (st v (by omega)).mpr (fun b hb e => u5 v hv b hb e))
  have en : p_f1 (mv (nI (gg N)).toNatClampNeg) fo c (nI (gg N)) n 0 = -4 := by
    obtain ⟨g1, g2, g3, _⟩ := hP.2.1 N (Nat.le_refl N)
    have st := fun w hw => KC_step (w := w) hA hM hD.2.2.2 hK g1 g3 hw
    rw [show mv (nI (gg N)).toNatClampNeg = mv (gg N) by rw [nI_clamp (by omega)]]
    exact f1_no n 0 (fun v _ hv => (st v (by omega)).mpr (fun b hb e => by omega))
  intro i
  induction i with
  | zero =>
    intro k w0 hk
    rw [p_wr, p_wr]
    rcases Nat.lt_or_eq_of_le hk with q | q
    · have u1 := (hP.2.2 k q).1.1
      rw [ey k q, if_neg (nI_pos (by omega)), if_pos (by omega)]
      rfl
    · rw [q, en, if_pos (by decide), if_neg (by omega)]
  | succ i ih =>
    intro k w0 hk
    rw [p_wr]
    rcases Nat.lt_or_eq_of_le hk with q | q
    · obtain ⟨g1, g2, g3, _⟩ := hP.2.1 k hk
      obtain ⟨⟨u1, _⟩, e⟩ := hP.2.2 k q
      have g4 := (hP.2.1 (k + 1) q).1
      rw [ey k q, if_neg (nI_pos (by omega)), nI_clamp (by omega), ((hK (gg k) g1 g3).2 (ww k) u1).2 (gg (k + 1)) g4 e, ih (k + 1) _ q, show k + 1 + i = k + (i + 1) by omega]
    · rw [q, en, if_pos (by decide), if_neg (by omega)]
