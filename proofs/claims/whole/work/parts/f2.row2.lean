/-! ===== row: breadth first finds the first of the shortest rows ===== -/
/-- what is in the queue stays -/
def bExt (q r : bQ) : Prop := q.2.2.2 ≤ r.2.2.2 ∧ (∀ j, j < q.2.2.2 → r.2.2.1 j = q.2.2.1 j) ∧ ∀ x, ¬ q.1 x = -4 → r.1 x = q.1 x ∧ r.2.1 x = q.2.1 x
theorem bExt_r (q : bQ) : bExt q q := ⟨Nat.le_refl _, fun _ _ => rfl, fun _ _ => ⟨rfl, rfl⟩⟩
theorem bExt_t {q r s : bQ} (h1 : bExt q r) (h2 : bExt r s) : bExt q s := by
  refine ⟨Nat.le_trans h1.1 h2.1, fun j hj => by rw [h2.2.1 j (Nat.lt_of_lt_of_le hj h1.1), h1.2.1 j hj], fun x hx => ?_⟩
  obtain ⟨a1, a2⟩ := h1.2.2 x hx
  obtain ⟨b1, b2⟩ := h2.2.2 x (by rw [a1]; exact hx)
  exact ⟨by rw [b1, a1], by rw [b2, a2]⟩
theorem bqS_ext (AS : Nat → Nat → Int32) (h w : Nat) (q : bQ) : bExt q (p_bqS AS h w q) := by
  unfold p_bqS
  by_cases c1 : AS h w = -4
  · rw [if_pos c1]; exact bExt_r q
  rw [if_neg c1]
  by_cases c2 : q.1 (AS h w).toNatClampNeg = -4
  rotate_left
  · rw [if_neg c2]; exact bExt_r q
  rw [if_pos c2]
  refine ⟨Nat.le_succ _, fun j hj => ?_, fun x hx => ?_⟩
  · show b_up q.2.2.1 q.2.2.2 (AS h w).toNatClampNeg j = q.2.2.1 j
    rw [b_up, if_neg (by omega)]
  · have e : x ≠ (AS h w).toNatClampNeg := fun e => hx (by rw [e]; exact c2)
    exact ⟨by show upd q.1 (AS h w).toNatClampNeg (nI w) x = q.1 x; rw [upd, if_neg e], by show b_up q.2.1 (AS h w).toNatClampNeg h x = q.2.1 x; rw [b_up, if_neg e]⟩
theorem bqI_ext (AS : Nat → Nat → Int32) (h : Nat) (q : bQ) (k : Nat) : ∀ d, bExt (p_bqI AS h q k) (p_bqI AS h q (k + d))
  | 0 => bExt_r _
  | d + 1 => bExt_t (bqI_ext AS h q k d) (bqS_ext AS h (k + d) _)
theorem bqI_wf {AS : Nat → Nat → Int32} {n M h : Nat} {q : bQ} (hA : gUp AS n M) (hM : M ≤ 256) (hn : n ≤ 8) (hh : h < M) (hq : bWF q) (hv : ¬ q.1 h = -4) : ∀ k, k ≤ n → bWF (p_bqI AS h q k) ∧ ¬ (p_bqI AS h q k).1 h = -4
  | 0, _ => ⟨hq, hv⟩
  | k + 1, hk => by
    obtain ⟨i1, i2⟩ := bqI_wf hA hM hn hh hq hv k (by omega)
    rw [p_bqI]
    exact bWF_S (by omega) i1 i2 ((hA h k hh (by omega)).imp id (fun ⟨b, b1, b2, b3⟩ => ⟨b, by omega, b2, b3⟩))
/-- every state in the queue keeps to R -/
def bJ (R : Nat → Prop) (q : bQ) : Prop := ∀ x, ¬ q.1 x = -4 → R x
theorem bqS_J {AS : Nat → Nat → Int32} {R : Nat → Prop} {n M h w : Nat} {q : bQ} (hA : gUp AS n M) (hM : M ≤ 256) (hh : h < M) (hw : w < n) (hJ : bJ R q) (hR : ∀ b, b < M → AS h w = nI b → R b) : bJ R (p_bqS AS h w q) := by
  intro x hx
  unfold p_bqS at hx
  rcases hA h w hh hw with c | ⟨b, b1, b2, b3⟩
  · rw [if_pos c] at hx; exact hJ x hx
  rw [b3, if_neg (nI_n4 (by omega)), nI_clamp (by omega)] at hx
  by_cases c2 : q.1 b = -4
  rotate_left
  · rw [if_neg c2] at hx; exact hJ x hx
  rw [if_pos c2] at hx
  have hx : ¬ upd q.1 b (nI w) x = -4 := hx
  by_cases e : x = b
  · rw [e]; exact hR b b1 b3
  · rw [upd, if_neg e] at hx; exact hJ x hx
theorem bqI_J {AS : Nat → Nat → Int32} {R : Nat → Prop} {n M h k : Nat} {q : bQ} (hA : gUp AS n M) (hM : M ≤ 256) (hh : h < M) (hJ : bJ R (p_bqI AS h q k)) : ∀ d, k + d ≤ n → (∀ w b, k ≤ w → w < k + d → b < M → AS h w = nI b → R b) → bJ R (p_bqI AS h q (k + d))
  | 0, _, _ => hJ
  | d + 1, hd, hR => by
    have ih := bqI_J hA hM hh hJ d (by omega) (fun w b h1 h2 => hR w b h1 (by omega))
    show bJ R (p_bqS AS h (k + d) (p_bqI AS h q (k + d)))
    exact bqS_J hA hM hh (by omega) ih (fun b hb e => hR (k + d) b (by omega) (by omega) hb e)
/-- no row: nothing is found -/
theorem bfs_no {AS : Nat → Nat → Int32} {LB : Nat → Int32} {p : Int32} {D : Nat → Nat} {n M : Nat} (hA : gUp AS n M) (hM : M ≤ 256) (hn : n ≤ 8) (hD : DD AS LB p n M D) : ∀ f i q, bWF q → bJ (fun x => x < M ∧ 1000000 ≤ D x + x) q → (p_bq AS LB p n f i q).1 = -4
  | 0, _, _, _, _ => rfl
  | f + 1, i, q, hw, hJ => by
    rw [p_bq]
    by_cases c : i < q.2.2.2
    rotate_left
    · rw [if_neg c]
    rw [if_pos c]
    obtain ⟨h, hh⟩ : ∃ h, h = q.2.2.1 i := ⟨_, rfl⟩
    obtain ⟨v1, v2⟩ := hw.2.2.1 i c
    rw [← hh] at v1 v2 ⊢
    obtain ⟨j1, j2⟩ := hJ h v2
    have hg : p_hb (LB h) p = 0 := Decidable.byContradiction (fun z => by have := (hD.1 h j1).mpr z; omega)
    rw [if_pos hg]
    refine bfs_no hA hM hn hD f (i + 1) _ (bqI_wf hA hM hn j1 hw v2 n (Nat.le_refl n)).1 ?_
    have := bqI_J (R := fun x => x < M ∧ 1000000 ≤ D x + x) (k := 0) (q := q) hA hM j1 hJ n (by omega) (fun w b _ hw hb e => by
      have d1 := hD.2.1 h w b j1 (by omega) e hb
      rcases hA h w j1 (by omega) with z | ⟨b', b1, b2, b3⟩
      · rw [z] at e; exact absurd e.symm (nI_n4 (by omega))
      · rw [b3] at e
        have := (nI_eq (by omega) (by omega)).mp e
        exact ⟨hb, by omega⟩)
    rw [Nat.zero_add] at this
    exact this
/-- how the queue remembers the row -/
def bCh (gg ww : Nat → Nat) (q : bQ) (k : Nat) : Prop := q.1 (gg 0) = 8 ∧ ∀ t, t < k → q.1 (gg (t + 1)) = nI (ww t) ∧ q.2.1 (gg (t + 1)) = gg t
theorem bCh_ext {gg ww : Nat → Nat} {q r : bQ} {k : Nat} (hw : ∀ t, t < k → ww t < 8) (h : bCh gg ww q k) (he : bExt q r) : bCh gg ww r k := by
  refine ⟨by rw [(he.2.2 _ (by rw [h.1]; decide)).1, h.1], fun t ht => ?_⟩
  obtain ⟨a1, a2⟩ := h.2 t ht
  obtain ⟨b1, b2⟩ := he.2.2 (gg (t + 1)) (by rw [a1]; exact nI_n4 (by have := hw t ht; omega))
  exact ⟨by rw [b1, a1], by rw [b2, a2]⟩
theorem bfs_go {AS : Nat → Nat → Int32} {LB : Nat → Int32} {p : Int32} {D : Nat → Nat} {n M h0 N : Nat} {gg ww : Nat → Nat} (hA : gUp AS n M) (hM : M ≤ 256) (hn : n ≤ 8) (hD : DD AS LB p n M D) (hP : PA AS D n M h0 N gg ww) : ∀ f i j k q, 256 < f + i → i ≤ j → j < q.2.2.2 → k ≤ N → q.2.2.1 j = gg k → bWF q → bJ (fun x => x < M ∧ N - k ≤ D x) q → (∀ t, t < j → N - k + 1 ≤ D (q.2.2.1 t)) → bCh gg ww q k → ∃ r, p_bq AS LB p n f i q = (nI (gg N), r) ∧ bCh gg ww r N := by
  intro f
  induction f with
  | zero =>
    intro i j k q hf hij hj hk hg hw hJ hT hC
    have := p_cn_le q.1 256
    rw [hw.1] at this
    omega
  | succ f ih =>
    intro i j k q hf hij hj hk hg hw hJ hT hC
    have w8 : ∀ t, t < k → ww t < 8 := fun t ht => by have := (hP.2.2 t (by omega)).1.1; omega
    rw [p_bq, if_pos (by omega)]
    obtain ⟨h, hh⟩ : ∃ h, h = q.2.2.1 i := ⟨_, rfl⟩
    obtain ⟨v1, v2⟩ := hw.2.2.1 i (by omega)
    rw [← hh] at v1 v2 ⊢
    obtain ⟨j1, j2⟩ := hJ h v2
    have hwf := bqI_wf hA hM hn j1 hw v2
    have hext := bqI_ext AS h q 0 n
    rw [Nat.zero_add] at hext
    have hext : bExt q (p_bqI AS h q n) := hext
    rcases Nat.lt_or_eq_of_le hij with q1 | q1
    · have hd := hT i q1
      rw [← hh] at hd
      have hgo : p_hb (LB h) p = 0 := Decidable.byContradiction (fun z => by have := (hD.1 h j1).mpr z; omega)
      rw [if_pos hgo]
      have hJ2 := bqI_J (R := fun x => x < M ∧ N - k ≤ D x) (k := 0) (q := q) hA hM j1 hJ n (by omega) (fun w b _ hw hb e => by
        have d1 := hD.2.1 h w b j1 (by omega) e hb
        exact ⟨hb, by omega⟩)
      rw [Nat.zero_add] at hJ2
      exact ih (i + 1) j k _ (by omega) q1 (Nat.lt_of_lt_of_le hj hext.1) hk (by rw [hext.2.1 j hj]; exact hg) (hwf n (Nat.le_refl n)).1 hJ2 (fun t ht => by rw [hext.2.1 t (by omega)]; exact hT t ht) (bCh_ext w8 hC hext)
    · rw [q1, hg] at hh
      obtain ⟨g1, g2, _, _⟩ := hP.2.1 k hk
      rw [← hh] at g1 g2
      rcases Nat.lt_or_eq_of_le hk with q2 | q2
      rotate_left
      · have hgo := (hD.1 h j1).mp (by omega)
        rw [if_neg hgo]
        refine ⟨q, by rw [hh, q2], ?_⟩
        rw [← q2]; exact hC
      have hgo : p_hb (LB h) p = 0 := Decidable.byContradiction (fun z => by have := (hD.1 h j1).mpr z; omega)
      rw [if_pos hgo]
      obtain ⟨⟨u1, _, u5⟩, ue⟩ := hP.2.2 k q2
      obtain ⟨n1, n2, _, _⟩ := hP.2.1 (k + 1) q2
      rw [← hh] at u5 ue
      obtain ⟨qa, hqa⟩ : ∃ qa, qa = p_bqI AS h q (ww k) := ⟨_, rfl⟩
      have hea := bqI_ext AS h q 0 (ww k)
      rw [Nat.zero_add, ← hqa] at hea
      have hea : bExt q qa := hea
      have hJa := bqI_J (R := fun x => x < M ∧ N - k ≤ D x) (k := 0) (q := q) hA hM j1 hJ (ww k) (by omega) (fun w b _ hw hb e => by
        have d1 := hD.2.1 h w b j1 (by omega) e hb
        have d2 := u5 w (by omega) b hb e
        exact ⟨hb, by omega⟩)
      rw [Nat.zero_add, ← hqa] at hJa
      have hwa := (hwf (ww k) (by omega)).1
      rw [← hqa] at hwa
      have hun : qa.1 (gg (k + 1)) = -4 := Decidable.byContradiction (fun z => by have := (hJa _ z).2; omega)
      obtain ⟨qb, hqb⟩ : ∃ qb, qb = p_bqI AS h q (ww k + 1) := ⟨_, rfl⟩
      have eqb : qb = (upd qa.1 (gg (k + 1)) (nI (ww k)), b_up qa.2.1 (gg (k + 1)) h, b_up qa.2.2.1 qa.2.2.2 (gg (k + 1)), qa.2.2.2 + 1) := by
        rw [hqb, p_bqI, ← hqa, p_bqS, ue, if_neg (nI_n4 (by omega)), nI_clamp (by omega), if_pos hun]
      have hab : bExt qa qb := by
        rw [hqb, p_bqI, ← hqa]
        exact bqS_ext AS h (ww k) qa
      have hJb0 : bJ (fun x => x < M ∧ N - (k + 1) ≤ D x) (p_bqI AS h q (ww k + 1)) := by
        rw [p_bqI, ← hqa]
        exact bqS_J hA hM j1 u1 (fun x hx => ⟨(hJa x hx).1, by have := (hJa x hx).2; omega⟩) (fun b hb e => by
          rw [ue] at e
          have := (nI_eq (by omega) (by omega)).mp e
          rw [← this]
          exact ⟨n1, by omega⟩)
      have hJn := bqI_J (R := fun x => x < M ∧ N - (k + 1) ≤ D x) hA hM j1 hJb0 (n - (ww k + 1)) (by omega) (fun w b _ hw hb e => by
        have d1 := hD.2.1 h w b j1 (by omega) e hb
        exact ⟨hb, by omega⟩)
      have hbn := bqI_ext AS h q (ww k + 1) (n - (ww k + 1))
      rw [show ww k + 1 + (n - (ww k + 1)) = n by omega] at hJn hbn
      rw [← hqb] at hbn
      have hlb : qb.2.2.2 = qa.2.2.2 + 1 := by rw [eqb]
      have hli : qb.2.2.1 qa.2.2.2 = gg (k + 1) := by
        rw [eqb]
        show b_up qa.2.2.1 qa.2.2.2 (gg (k + 1)) qa.2.2.2 = gg (k + 1)
        rw [b_up, if_pos rfl]
      have hq1 := hea.1
      have hbl := hbn.1
      refine ih (i + 1) qa.2.2.2 (k + 1) _ (by omega) (by omega) (by omega) q2 (by rw [hbn.2.1 _ (by omega), hli]) (hwf n (Nat.le_refl n)).1 hJn (fun t ht => ?_) ?_
      · rw [hbn.2.1 t (by omega), hab.2.1 t ht]
        have := (hJa _ (hwa.2.2.1 t ht).2).2
        omega
      · have hC1 := bCh_ext w8 (bCh_ext w8 hC hea) hab
        refine bCh_ext (fun t ht => ?_) (q := qb) ⟨hC1.1, fun t ht => ?_⟩ hbn
        · rcases Nat.lt_or_eq_of_le (Nat.le_of_lt_succ ht) with z | z
          · exact w8 t z
          · rw [z]; omega
        · rcases Nat.lt_or_eq_of_le (Nat.le_of_lt_succ ht) with z | z
          · exact hC1.2 t z
          · rw [z, eqb]
            refine ⟨?_, ?_⟩
            · show upd qa.1 (gg (k + 1)) (nI (ww k)) (gg (k + 1)) = nI (ww k)
              rw [upd_eq]
            · show b_up qa.2.1 (gg (k + 1)) h (gg (k + 1)) = gg k
              rw [b_up, if_pos rfl, hh]
/-! the row read back -/
theorem len_ch {gg ww : Nat → Nat} {q : bQ} {N : Nat} (hw : ∀ t, t < N → ww t < 8) (h : bCh gg ww q N) : ∀ k f, k ≤ N → k < f → p_len q.1 q.2.1 f (gg k) = k
  | _, 0, _, hf => by omega
  | 0, f + 1, _, _ => by rw [p_len, if_pos h.1]
  | k + 1, f + 1, hk, hf => by
    obtain ⟨a1, a2⟩ := h.2 k (by omega)
    have w8 := hw k (by omega)
    rw [p_len, a1, if_neg (by rw [show (8 : Int32) = nI 8 from rfl, nI_eq (by omega) (by omega)]; omega), a2, len_ch hw h k f (by omega) (by omega)]
theorem fnd_ch {gg ww : Nat → Nat} {q : bQ} {N i : Nat} (hN : N ≤ 256) (hi : i < 256) (hw : ∀ t, t < N → ww t < 8) (h : bCh gg ww q N) : ∀ k f a, k ≤ N → k < f → p_fnd q.1 q.2.1 (nI i) f (gg k) (nI k) a = if i < k then nI (ww i) else a
  | _, 0, _, _, hf => by omega
  | 0, f + 1, a, _, _ => by rw [p_fnd, if_pos h.1, if_neg (by omega)]
  | k + 1, f + 1, a, hk, hf => by
    obtain ⟨a1, a2⟩ := h.2 k (by omega)
    have w8 := hw k (by omega)
    rw [p_fnd, a1, if_neg (by rw [show (8 : Int32) = nI 8 from rfl, nI_eq (by omega) (by omega)]; omega), a2, show nI (k + 1) - 1 = nI k by rw [← nI_1, Int32.add_sub_cancel], fnd_ch hN hi hw h k f _ (by omega) (by omega)]
    by_cases c : i < k
    · rw [if_pos c, if_pos (by omega)]
    · rw [if_neg c]
      by_cases c2 : k = i
      · rw [c2, if_pos rfl, if_pos (by omega)]
      · rw [if_neg (by rw [nI_eq (by omega) (by omega)]; exact c2), if_neg (by omega)]
