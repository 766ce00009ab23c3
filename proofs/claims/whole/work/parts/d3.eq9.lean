/-! ===== the two readers: a text ===== -/
theorem fa_nx {ta : Nat → Int32} {ln : Int32} {e : eT} (h : ¬ (k_nx ta ln e).1 = 0) : e_fa (k_nx ta ln e).2 = e_fa e := by
  unfold k_nx k_n1 at h ⊢
  split at h
  · next c =>
    rw [if_pos c]
    split at h
    · next c2 => rw [if_pos c2]; rfl
    · next c2 =>
      rw [if_neg c2]
      split at h
      · next c3 =>
        rw [if_pos c3]
        unfold k_n2 at h ⊢
        split at h
        · exact absurd rfl h
        · next c4 => rw [if_neg c4]; rfl
      · next c3 => rw [if_neg c3]; rfl
  · next c => rw [if_neg c]; rfl
theorem fa_tn {ta : Nat → Int32} {ln m s : Int32} {e : eT} (h : ¬ (k_tn ta ln e m s).1 = 0) : e_fa (k_tn ta ln e m s).2 = e_fa e := by
  have k := fa_nx (ta := ta) (ln := ln) (e := e)
  unfold k_tn at h ⊢
  obtain ⟨N, hN⟩ : ∃ N, N = k_nx ta ln e := ⟨_, rfl⟩
  rw [← hN] at k h ⊢
  by_cases c1 : N.1 = 0
  · rw [if_pos c1] at h; exact absurd rfl h
  rw [if_neg c1] at h ⊢
  by_cases c2 : e_ki N.2 = 3 ∧ ¬ s = 0
  · rw [if_pos c2]; exact k c1
  rw [if_neg c2] at h ⊢
  by_cases c3 : e_ki N.2 = 2
  · rw [if_pos c3] at h ⊢
    by_cases c4 : m < e_va N.2
    · rw [if_pos c4] at h; exact absurd rfl h
    · rw [if_neg c4]; exact k c1
  · rw [if_neg c3] at h; exact absurd rfl h
theorem fa_ts {ta : Nat → Int32} {ln : Int32} {e : eT} (h : ¬ (k_ts ta ln e).1 = 0) : e_fa (k_ts ta ln e).2 = e_fa e := by
  have k := fa_nx (ta := ta) (ln := ln) (e := e)
  unfold k_ts at h ⊢
  obtain ⟨N, hN⟩ : ∃ N, N = k_nx ta ln e := ⟨_, rfl⟩
  rw [← hN] at k h ⊢
  by_cases c1 : N.1 = 0
  · rw [if_pos c1] at h; exact absurd rfl h
  rw [if_neg c1] at h ⊢
  by_cases c2 : e_ki N.2 = 3
  · rw [if_pos c2]; exact k c1
  · rw [if_neg c2] at h; exact absurd rfl h
theorem fa_os {ta : Nat → Int32} {ln w : Int32} : ∀ (k : Nat) (e : eT) (f : Nat → Int32), ¬ (k_os ta ln w k e f).1 = 0 → e_fa (k_os ta ln w k e f).2.1 = e_fa e
  | 0, e, f, h => absurd rfl h
  | k + 1, e, f, h => by
    have q := fa_tn (ta := ta) (ln := ln) (m := 7) (s := 1) (e := e)
    rw [k_os] at h ⊢
    obtain ⟨N, hN⟩ : ∃ N, N = k_tn ta ln e 7 1 := ⟨_, rfl⟩
    rw [← hN] at q h ⊢
    by_cases c1 : N.1 = 0
    · rw [if_pos c1] at h; exact absurd rfl h
    rw [if_neg c1] at h ⊢
    by_cases c2 : e_ki N.2 = 3
    · rw [if_pos c2]; exact q c1
    rw [if_neg c2] at h ⊢
    by_cases c3 : p_hb (f w.toNatClampNeg) (e_va N.2) = 0
    · rw [if_pos c3] at h ⊢
      exact (fa_os k _ _ h).trans (q c1)
    · rw [if_neg c3] at h; exact absurd rfl h
theorem fa_ns {ta : Nat → Int32} {ln w : Int32} : ∀ (k : Nat) (e : eT) (f : Nat → Int32), ¬ (k_ns ta ln w k e f).1 = 0 → e_fa (k_ns ta ln w k e f).2.1 = e_fa e
  | 0, e, f, h => absurd rfl h
  | k + 1, e, f, h => by
    have q := fa_tn (ta := ta) (ln := ln) (m := 7) (s := 1) (e := e)
    rw [k_ns] at h ⊢
    obtain ⟨N, hN⟩ : ∃ N, N = k_tn ta ln e 7 1 := ⟨_, rfl⟩
    rw [← hN] at q h ⊢
    by_cases c1 : N.1 = 0
    · rw [if_pos c1] at h; exact absurd rfl h
    rw [if_neg c1] at h ⊢
    by_cases c2 : e_ki N.2 = 3
    · rw [if_pos c2]; exact q c1
    rw [if_neg c2] at h ⊢
    by_cases c3 : e_va N.2 = w ∨ ¬ p_hb (f w.toNatClampNeg) (e_va N.2) = 0
    · rw [if_pos c3] at h; exact absurd rfl h
    · rw [if_neg c3] at h ⊢
      exact (fa_ns k _ _ h).trans (q c1)
theorem fa_ln {ta : Nat → Int32} {ln : Int32} {e : eT} {d : dT} (h : ¬ (k_ln ta ln e d).1 = 0) : e_fa (k_ln ta ln e d).2.1 = e_fa e := by
  have t7 := fa_tn (ta := ta) (ln := ln) (m := 7) (s := 0) (e := e)
  unfold k_ln at h ⊢
  by_cases c0 : k_nm ta e 0 = 0
  rotate_left
  · rw [if_neg c0] at h ⊢
    replace h : ¬ (k_on ta ln e (d_pe d) (d_li d) (d_ba d)).1 = 0 := h
    show e_fa (k_on ta ln e (d_pe d) (d_li d) (d_ba d)).2.1 = _
    have q := fa_nx (ta := ta) (ln := ln) (e := e)
    unfold k_on k_on1 k_on2 at h ⊢
    by_cases c1 : d_pe d < 8
    · rw [if_pos c1] at h ⊢
      by_cases c2 : (k_nx ta ln e).1 = 0
      · rw [if_pos c2] at h; exact absurd rfl h
      rw [if_neg c2] at h ⊢
      split at h
      · exact absurd rfl h
      · next c3 =>
        rw [if_neg c3]
        exact (fa_ts h).trans (q c2)
    · rw [if_neg c1] at h; exact absurd rfl h
  rw [if_pos c0] at h ⊢
  unfold k_l1 at h ⊢
  by_cases c1 : k_nm ta e 1 = 0
  rotate_left
  · rw [if_neg c1] at h ⊢
    replace h : ¬ (k_wi ta ln e (d_wi d) (d_f1 d) (d_f2 d) (d_f3 d)).1 = 0 := h
    show e_fa (k_wi ta ln e (d_wi d) (d_f1 d) (d_f2 d) (d_f3 d)).2.1 = _
    have q := fa_tn (ta := ta) (ln := ln) (m := 9) (s := 0) (e := e)
    unfold k_wi k_wi1 k_wi2 k_wi3 at h ⊢
    by_cases c1 : d_wi d < 8
    · rw [if_pos c1] at h ⊢
      by_cases c2 : (k_tn ta ln e 9 0).1 = 0
      · rw [if_pos c2] at h; exact absurd rfl h
      rw [if_neg c2] at h ⊢
      have q2 := fa_tn (ta := ta) (ln := ln) (m := 9) (s := 0) (e := (k_tn ta ln e 9 0).2)
      by_cases c3 : (k_tn ta ln (k_tn ta ln e 9 0).2 9 0).1 = 0
      · rw [if_pos c3] at h; exact absurd rfl h
      rw [if_neg c3] at h ⊢
      split at h
      · exact absurd rfl h
      · next c4 =>
        rw [if_neg c4]
        exact (fa_os _ _ _ c4).trans ((q2 c3).trans (q c2))
    · rw [if_neg c1] at h; exact absurd rfl h
  rw [if_pos c1] at h ⊢
  unfold k_l2 at h ⊢
  by_cases c2 : k_nm ta e 2 = 0
  rotate_left
  · rw [if_neg c2] at h ⊢
    replace h : ¬ (k_nd ta ln (k_tn ta ln e 7 0) (d_f4 d)).1 = 0 := h
    show e_fa (k_nd ta ln (k_tn ta ln e 7 0) (d_f4 d)).2.1 = _
    unfold k_nd at h ⊢
    by_cases c3 : (k_tn ta ln e 7 0).1 = 0
    · rw [if_pos c3] at h; exact absurd rfl h
    rw [if_neg c3] at h ⊢
    exact (fa_ns _ _ _ h).trans (t7 c3)
  rw [if_pos c2] at h ⊢
  unfold k_l3 at h ⊢
  by_cases c3 : k_nm ta e 3 = 0
  rotate_left
  · rw [if_neg c3] at h ⊢
    replace h : ¬ (k_cl1 ta ln (k_tn ta ln e 7 0) (d_f5 d)).1 = 0 := h
    show e_fa (k_cl1 ta ln (k_tn ta ln e 7 0) (d_f5 d)).2.1 = _
    unfold k_cl1 k_cl2 at h ⊢
    by_cases c4 : (k_tn ta ln e 7 0).1 = 0
    · rw [if_pos c4] at h; exact absurd rfl h
    rw [if_neg c4] at h ⊢
    have q2 := fa_tn (ta := ta) (ln := ln) (m := 7) (s := 0) (e := (k_tn ta ln e 7 0).2)
    by_cases c5 : (k_tn ta ln (k_tn ta ln e 7 0).2 7 0).1 = 0
    · rw [if_pos c5] at h; exact absurd rfl h
    rw [if_neg c5] at h ⊢
    split at h
    · exact absurd rfl h
    · next c6 =>
      rw [if_neg c6]
      exact (fa_ts h).trans ((q2 c5).trans (t7 c4))
  rw [if_pos c3] at h ⊢
  unfold k_l4 at h ⊢
  by_cases c4 : k_nm ta e 4 = 0
  rotate_left
  · rw [if_neg c4] at h ⊢
    replace h : ¬ (k_li ta ln e (d_ls d)).1 = 0 := h
    show e_fa (k_li ta ln e (d_ls d)).2.1 = _
    unfold k_li at h ⊢
    by_cases c5 : (k_tn ta ln e 7 0).1 = 0
    · rw [if_pos c5] at h; exact absurd rfl h
    rw [if_neg c5] at h ⊢
    split at h
    · next c6 =>
      rw [if_pos c6]
      exact (fa_ts h).trans (t7 c5)
    · exact absurd rfl h
  rw [if_pos c4] at h ⊢
  unfold k_l5 at h ⊢
  by_cases c5 : k_nm ta e 5 = 0
  rotate_left
  · rw [if_neg c5] at h ⊢
    replace h : ¬ (k_de ta ln e (d_de d)).1 = 0 := h
    show e_fa (k_de ta ln e (d_de d)).2.1 = _
    have q2 := fa_tn (ta := ta) (ln := ln) (m := 8) (s := 0) (e := v_dt e)
    unfold k_de at h ⊢
    by_cases c6 : e_dt e = 0
    · rw [if_pos c6] at h ⊢
      by_cases c7 : (k_tn ta ln (v_dt e) 8 0).1 = 0
      · rw [if_pos c7] at h; exact absurd rfl h
      rw [if_neg c7] at h ⊢
      exact (fa_ts h).trans (q2 c7)
    · rw [if_neg c6] at h; exact absurd rfl h
  rw [if_pos c5] at h ⊢
  unfold k_l6 at h ⊢
  by_cases c6 : k_nm ta e 6 = 0
  · rw [if_pos c6] at h; exact absurd rfl h
  rw [if_neg c6] at h ⊢
  replace h : ¬ (k_pl ta ln e (d_pn d) (d_f8 d)).1 = 0 := h
  show e_fa (k_pl ta ln e (d_pn d) (d_f8 d)).2.1 = _
  unfold k_pl k_pl2 at h ⊢
  by_cases c7 : d_pn d < 6
  · rw [if_pos c7] at h ⊢
    by_cases c8 : (k_tn ta ln e 7 0).1 = 0
    · rw [if_pos c8] at h; exact absurd rfl h
    rw [if_neg c8] at h ⊢
    exact (fa_ts h).trans (t7 c8)
  · rw [if_neg c7] at h; exact absurd rfl h
theorem fi_end {ta : Nat → Int32} {e : eT} {t : Nat} (ht : t ≤ 160) (hI : kI e t) (h : e_ki (k_nx ta (nI t) e).2 = 0) : e_fi (k_nx ta (nI t) e).2 = nI t := by
  obtain ⟨p, hp, hpt⟩ := hI
  have hut := p_ru_le ta (t := t) 32 32 (by decide) ht 161 p hpt
  rw [k_nx, hp, nI_clamp (by omega)] at h ⊢
  obtain ⟨u, hu⟩ : ∃ u, u = p_ru ta (nI t) 32 32 161 p := ⟨_, rfl⟩
  rw [← hu] at hut h ⊢
  unfold k_n1 at h ⊢
  by_cases c : nI u < nI t
  · rw [if_pos c] at h
    split at h
    · exact absurd h (by decide : ¬ (3 : Int32) = 0)
    split at h
    · unfold k_n2 at h
      split at h
      · exact absurd h (by decide : ¬ (2 : Int32) = 0)
      · exact absurd h (by decide : ¬ (2 : Int32) = 0)
    · exact absurd h (by decide : ¬ (1 : Int32) = 0)
  · rw [if_neg c]
    have : t ≤ u := by rw [nI_ltI (by omega) (by omega)] at c; omega
    show nI u = nI t
    rw [show u = t by omega]
/-- behind the lines -/
def TxO (ta : Nat → Int32) (t : Nat) (X : tT) (Z : zT × Nat) : Prop := (X.2.1 = 0 ∧ FF X.2.2.1 Z.1) ∨ (¬ X.2.1 = 0 ∧ RR X.2.2.1 X.2.2.2 Z.1 ∧ X.1 = nI Z.2 ∧ e_fa X.2.2.1 = 0 ∧ e_fi X.2.2.1 = nI t)
theorem rt_0 (ta : Nat → Int32) (ln : Int32) {x : tT} (h : x.2.1 = 0) : ∀ k, k_rt ta ln k x = x
  | 0 => rfl
  | k + 1 => by rw [k_rt, if_pos h]
theorem tl_F (ta : Nat → Int32) (ln : Int32) {e : eT} {x : zT} (h : FF e x) (n : Nat) : ∀ f, x_tl ta ln f x n = (x, n)
  | 0 => rfl
  | f + 1 => by rw [x_tl, if_neg (FF_n0 h)]
theorem RR_z {e : eT} {d : dT} {x : zT} (h : RR e d x) : ∃ b m : Nat, z_dW x = nI b ∧ b ≤ 8 ∧ z_dr x 29 = nI m ∧ m ≤ 6 := by
  obtain ⟨_, P, W, N, M1, M2, hB⟩ := h
  exact ⟨W, N, hB.1.1.2.1.1, hB.1.1.2.1.2.2, hB.1.1.2.2.1, hB.1.1.2.2.2.2⟩
theorem tx_loop {ta : Nat → Int32} {t : Nat} (hta : ∀ j, ¬ ta j < 0) (ht : t ≤ 160) : ∀ (k i f n : Nat) (li : Int32) (g : Int32) (e : eT) (d : dT) (x : zT), i + k = t → k < f → n < 1000 → li = nI n → n = i → ¬ g = 0 → RR e d x → kJ e t → e_fa e = 0 → (e_ki e = 0 → e_fi e = nI t) → (¬ e_ki e = 0 → zK x (i + 1) t) → TxO ta t (k_rt ta (nI t) k (li, g, e, d)) (x_tl ta (nI t) f x n) := by
  intro k
  induction k with
  | zero =>
    intro i f n li g e d x hi hf hn hli hni hg hR hJ hfa hfi hlo
    obtain ⟨f', rfl⟩ : ∃ f', f = f' + 1 := ⟨f - 1, by omega⟩
    have h0 : e_ki e = 0 := by
      by_cases c : e_ki e = 0
      · exact c
      · obtain ⟨p, _, h1, h2⟩ := hlo c
        omega
    rw [k_rt, x_tl, if_pos hR.1.1, if_pos (hR.1.2.2.2.1.trans h0)]
    exact Or.inr ⟨hg, hR, hli, hfa, hfi h0⟩
  | succ k ih =>
    intro i f n li g e d x hi hf hn hli hni hg hR hJ hfa hfi hlo
    obtain ⟨f', rfl⟩ : ∃ f', f = f' + 1 := ⟨f - 1, by omega⟩
    rw [k_rt, x_tl, if_pos hR.1.1, if_neg hg]
    dsimp only
    by_cases c : e_ki e = 0
    · rw [if_pos c, if_pos (hR.1.2.2.2.1.trans c)]
      exact Or.inr ⟨hg, hR, hli, hfa, hfi c⟩
    rw [if_neg c, if_neg (fun q => c (hR.1.2.2.2.1.symm.trans q)), k_r1]
    have hL := line_eq hta ht hJ hR
    have hY := k_ln_I (ta := ta) (d := d) ht (kJ_I hJ) (by
      obtain ⟨_, P, W, N, M1, M2, hB⟩ := hR
      exact ⟨W, N, hB.1.1.2.1.2.1, hB.1.1.2.1.2.2, hB.1.1.2.2.2.1, hB.1.1.2.2.2.2⟩)
    have hfaY := fa_ln (ta := ta) (ln := nI t) (e := e) (d := d)
    obtain ⟨b, m, z1, z2, z3, z4⟩ := RR_z hR
    have hline := x_line_ok (ta := ta) (x := x) (lo := i + 1) (b := b) (m := m) ht ⟨⟨by obtain ⟨p, h1, _, h2⟩ := hlo c; exact ⟨p, h1, h2⟩, by
      obtain ⟨u, b, h1, h2, h3, h4⟩ := hJ
      exact ⟨u, hR.1.2.2.1.trans h1, by omega⟩⟩, hlo c⟩ hR.1.1 z1 z2 z3 z4
    obtain ⟨Y, hYe⟩ : ∃ Y, Y = k_ln ta (nI t) e d := ⟨_, rfl⟩
    rw [← hYe] at hL hY hfaY ⊢
    obtain ⟨z, hz⟩ : ∃ z, z = x_line ta (nI t) x := ⟨_, rfl⟩
    rw [← hz] at hL hline ⊢
    rcases hL with ⟨a1, x7, a2, a3⟩ | ⟨a1, a2⟩
    · rw [k_rs, if_neg a1]
      have h7 := nxT hta ht hY.1 a2.1.1 a2.1.2.1
      have hfaN := fa_nx (ta := ta) (ln := nI t) (e := Y.2.1)
      have hJN := kJ_nx (ta := ta) ht hY.1
      have hfiN := fi_end (ta := ta) ht hY.1
      have hgN := k_nx_g ta (nI t) Y.2.1
      rw [← a3] at h7
      obtain ⟨Q, hQ⟩ : ∃ Q, Q = k_nx ta (nI t) Y.2.1 := ⟨_, rfl⟩
      rw [← hQ] at h7 hfaN hJN hfiN hgN ⊢
      rcases h7 with ⟨b1, b2⟩ | ⟨b1, b2⟩
      · refine ih (i + 1) f' (n + 1) (li + 1) Q.1 Q.2 Y.2.2 z (by omega) (by omega) (by omega) (by rw [hli, nI_1]) (by omega) b1 ⟨b2, ?_⟩ hJN ((hfaN b1).trans ((hfaY a1).trans hfa)) hfiN (fun q => ?_)
        · obtain ⟨P, W, N, M1, M2, hB⟩ := a2.2
          refine ⟨P, W, N, M1, M2, ?_⟩
          rw [hgN, a3, x_nx_k]
          exact hB
        · exact (hline.2.2 b2.1).1 (fun q2 => q (b2.2.2.2.1.symm.trans q2))
      · rw [rt_0 ta (nI t) (show (li + 1, Q.1, Q.2, Y.2.2).2.1 = 0 from b1), tl_F ta (nI t) b2]
        exact Or.inl ⟨b1, b2⟩
    · rw [k_rs, if_pos a1, rt_0 ta (nI t) (show (li, (0 : Int32), Y.2.1, Y.2.2).2.1 = 0 from rfl), tl_F ta (nI t) a2]
      exact Or.inl ⟨rfl, a2⟩
