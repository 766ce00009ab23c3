/-! ===== WishClerkModel: text ===== -/
theorem zk_dW {x y : zT} (h : zk8 x = zk8 y) : z_dW x = z_dW y := congrArg (fun z => z.2.1) h
theorem zk_dr {x y : zT} (h : zk8 x = zk8 y) : z_dr x = z_dr y := congrArg (fun z => z.2.2.2.2.2.1) h
theorem x_lk_k (x : zT) (a b : Int32) : zk8 (x_lk x a b) = zk8 x := by rw [x_lk, x_mu_k, x_lk1, x_mu_k]
theorem x_wb2_D (x : zT) (g : Int32) : z_dW (x_wb2 x g) = z_dW x := by
  have h : z_dW (x_wb1 x g) = z_dW x := zk_dW (by rw [x_wb1, x_mu_k, x_lk_k])
  unfold x_wb2
  obtain ⟨y, hy⟩ : ∃ y, y = x_wb1 x g := ⟨_, rfl⟩
  rw [← hy] at h ⊢
  split
  · split
    · exact h
    · exact h
  · exact h
theorem x_nx_dW (ta : Nat → Int32) (ln : Int32) (x : zT) : z_dW (x_nx ta ln x) = z_dW x := zk_dW (x_nx_k ta ln x)
theorem x_rw_dW (ta : Nat → Int32) (ln : Int32) (x : zT) (g : Int32) : z_dW (x_rw ta ln x g) = z_dW x := by rw [x_rw, x_nx_dW, x_wb2_D]
/-- what the count of wishes and of the plan are behind something -/
def zD (x : zT) (b m : Int32) : Prop := z_dW x = b ∧ z_dr x 29 = m
theorem zD_k {x y : zT} {b m : Int32} (h : zD x b m) (hk : zk8 y = zk8 x) : zD y b m := ⟨(zk_dW hk).trans h.1, by rw [zk_dr hk]; exact h.2⟩
theorem zD_one {ta : Nat → Int32} {ln : Int32} {x : zT} {b m : Int32} (h : zD x b m) : zD (x_one ta ln x) b m := by
  have h1 : zD (x_one1 ta ln x) b m := zD_k h (by rw [x_one1, x_nx_k, x_mu_k])
  unfold x_one
  obtain ⟨y, hy⟩ : ∃ y, y = x_one1 ta ln x := ⟨_, rfl⟩
  obtain ⟨k, hk⟩ : ∃ k, k = r_kd ta ln x := ⟨_, rfl⟩
  rw [← hy] at h1
  rw [← hy, ← hk]
  exact h1
theorem zD_dr {x : zT} {b m : Int32} (h : zD x b m) {j : Nat} (hj : j ≠ 29) (v : Int32) : zD (u_dr x (upd (z_dr x) j v)) b m := ⟨h.1, by
  show upd (z_dr x) j v 29 = m
  rw [upd, if_neg (fun q => hj q.symm)]; exact h.2⟩
theorem zD_wlS {w : Nat} {x : zT} {b m : Int32} (hw : w < 8) (h : zD x b m) : zD (x_wlS w x) b m := by
  have h1 : zk8 (x_mu x (if p_hb (z_dr x (2 + w)) (r_lk x 0 7) = 0 then 1 else 0) 4) = zk8 x := x_mu_k _ _ _
  unfold x_wlS
  obtain ⟨y, hy⟩ : ∃ y, y = x_mu x (if p_hb (z_dr x (2 + w)) (r_lk x 0 7) = 0 then 1 else 0) 4 := ⟨_, rfl⟩
  rw [← hy] at h1 ⊢
  have h2 := zD_k h h1
  have h3 := zD_dr (j := 2 + w) h2 (by omega) (z_dr x (2 + w) ||| ((1 : Int32) <<< (r_lk x 0 7 &&& 31)))
  rw [zk_dr h1] at h3
  split
  · split
    · exact h3
    · exact h3
  · exact zD_k h (x_lk_k _ _ _)
theorem zD_wl {ta : Nat → Int32} {ln b m : Int32} {w : Nat} (hw : w < 8) : ∀ (f : Nat) (x : zT), zD x b m → zD (x_wl ta ln w f x) b m
  | 0, x, h => h
  | f + 1, x, h => by
    rw [x_wl]
    split
    · split
      · exact zD_wl hw f _ (zD_k (zD_wlS hw h) (x_nx_k _ _ _))
      · exact h
    · exact h
theorem zD_wi {ta : Nat → Int32} {ln : Int32} {x : zT} {b m : Int32} {w : Nat} (hw : w < 8) (hwe : z_dW x = nI w) (h : zD x b m) : zD (x_wi ta ln x) (b + 1) m := by
  have ewc : (z_dW x).toNatClampNeg = w := by rw [hwe, nI_clamp (by omega)]
  have h1 : zD (x_wi1 ta ln x) b m := by
    have k : zD (x_nx ta ln (x_lk x 0 9)) b m := zD_k h (by rw [x_nx_k, x_lk_k])
    unfold x_wi1
    obtain ⟨y, hy⟩ : ∃ y, y = x_nx ta ln (x_lk x 0 9) := ⟨_, rfl⟩
    rw [← hy] at k ⊢
    exact k
  have h3 : zD (x_wi2 ta ln w (x_wi1 ta ln x)) b m := by
    have k : zD (x_nx ta ln (x_lk (x_wi1 ta ln x) 0 9)) b m := zD_k h1 (by rw [x_nx_k, x_lk_k])
    unfold x_wi2
    obtain ⟨y, hy⟩ : ∃ y, y = x_nx ta ln (x_lk (x_wi1 ta ln x) 0 9) := ⟨_, rfl⟩
    rw [← hy] at k ⊢
    exact k
  have h4 := zD_wl (ta := ta) (ln := ln) hw 161 _ h3
  rw [x_wi, ewc]
  obtain ⟨y, hy⟩ : ∃ y, y = x_wl ta ln w 161 (x_wi2 ta ln w (x_wi1 ta ln x)) := ⟨_, rfl⟩
  rw [← hy] at h4 ⊢
  exact ⟨by show z_dW y + 1 = b + 1; rw [h4.1], h4.2⟩
theorem zD_ndS {ta : Nat → Int32} {ln b m : Int32} {w : Nat} {x : zT} (hw : w < 8) (h : zD x b m) : zD (x_ndS ta ln w x) b m := by
  have k1 := x_rw_dW ta ln x (z_dr x (10 + w) ||| ((1 : Int32) <<< (nI w &&& 31)))
  have k2 := x_rw_dr ta ln x (z_dr x (10 + w) ||| ((1 : Int32) <<< (nI w &&& 31)))
  unfold x_ndS
  obtain ⟨y, hy⟩ : ∃ y, y = x_rw ta ln x (z_dr x (10 + w) ||| ((1 : Int32) <<< (nI w &&& 31))) := ⟨_, rfl⟩
  rw [← hy] at k1 k2 ⊢
  have h2 : zD y b m := ⟨k1.trans h.1, by rw [k2]; exact h.2⟩
  rw [← k2]
  exact zD_dr h2 (by omega) _
theorem zD_ndl {ta : Nat → Int32} {ln b m : Int32} {w : Nat} (hw : w < 8) : ∀ (f : Nat) (x : zT), zD x b m → zD (x_ndl ta ln w f x) b m
  | 0, x, h => h
  | f + 1, x, h => by
    rw [x_ndl]
    split
    · split
      · exact zD_ndl hw f _ (zD_ndS hw h)
      · exact h
    · exact h
theorem zD_rw {ta : Nat → Int32} {ln : Int32} {x : zT} {b m : Int32} (h : zD x b m) (g : Int32) : zD (x_rw ta ln x g) b m := ⟨(x_rw_dW ta ln x g).trans h.1, by rw [x_rw_dr]; exact h.2⟩
theorem zD_cl {ta : Nat → Int32} {ln : Int32} {x : zT} {b m : Int32} (h : zD x b m) : zD (x_cl ta ln x) b m := by
  obtain ⟨w, hw, hwe⟩ := r_lk_7 x
  obtain ⟨v, hv, hve⟩ := r_lk_7 (x_rw ta ln x 0)
  have k : zD (x_clA ta ln w (x_rw ta ln x 0)) b m := zD_rw (zD_rw h 0) _
  unfold x_cl x_cl1
  rw [hwe, nI_clamp (by omega), hve, nI_clamp (by omega)]
  obtain ⟨y, hy⟩ : ∃ y, y = x_clA ta ln w (x_rw ta ln x 0) := ⟨_, rfl⟩
  rw [← hy] at k ⊢
  split
  · have k2 := zD_dr (j := 18 + w) k (by omega) (z_dr y (18 + w) ||| ((1 : Int32) <<< (nI v &&& 31)))
    have k3 := zD_dr (j := 18 + v) k2 (by omega) (upd (z_dr y) (18 + w) (z_dr y (18 + w) ||| ((1 : Int32) <<< (nI v &&& 31))) (18 + v) ||| ((1 : Int32) <<< (nI w &&& 31)))
    exact k3
  · exact k
theorem zD_lo {ta : Nat → Int32} {ln k : Int32} {x : zT} {b m : Int32} {w u : Nat} (hb : k = 1 → z_dW x = nI w ∧ w < 8) (hm : z_dr x 29 = nI u) (hu : u ≤ 6) (h : zD x b m) : zD (x_lo ta ln k x) (if k = 1 then b + 1 else b) (if k = 0 ∨ k = 1 ∨ k = 2 ∨ k = 3 ∨ k = 4 ∨ k = 5 then m else m + 1) := by
  unfold x_lo
  by_cases c0 : k = 0
  · rw [if_pos c0, if_neg (by rw [c0]; decide), if_pos (by rw [c0]; decide)]
    exact zD_one h
  rw [if_neg c0]
  by_cases c1 : k = 1
  · rw [if_pos c1, if_pos c1, if_pos (by rw [c1]; decide)]
    exact zD_wi (hb c1).2 (hb c1).1 h
  rw [if_neg c1, if_neg c1]
  by_cases c2 : k = 2
  · rw [if_pos c2, if_pos (by rw [c2]; decide)]
    obtain ⟨w, hw, hwe⟩ := r_lk_7 x
    rw [x_nd, hwe, nI_clamp (by omega)]
    exact zD_ndl hw 161 _ (zD_rw h 0)
  rw [if_neg c2]
  by_cases c3 : k = 3
  · rw [if_pos c3, if_pos (by rw [c3]; decide)]
    exact zD_cl h
  rw [if_neg c3]
  by_cases c4 : k = 4
  · rw [if_pos c4, if_pos (by rw [c4]; decide)]
    have k1 := zD_rw (ta := ta) (ln := ln) h (z_dr x 27)
    have k2 := x_rw_dr ta ln x (z_dr x 27)
    unfold x_li
    obtain ⟨y, hy⟩ : ∃ y, y = x_rw ta ln x (z_dr x 27) := ⟨_, rfl⟩
    rw [← hy] at k1 k2 ⊢
    rw [← k2]
    exact zD_dr k1 (by decide) _
  rw [if_neg c4]
  by_cases c5 : k = 5
  · rw [if_pos c5, if_pos (by rw [c5]; decide)]
    have k0 : zk8 (x_nx ta ln (x_lk x 0 8)) = zk8 x := by rw [x_nx_k, x_lk_k]
    have k1 := zD_k h k0
    have k2 := zk_dr k0
    unfold x_de
    obtain ⟨y, hy⟩ : ∃ y, y = x_nx ta ln (x_lk x 0 8) := ⟨_, rfl⟩
    rw [← hy] at k1 k2 ⊢
    rw [← k2]
    exact zD_dr k1 (by decide) _
  · rw [if_neg c5, if_neg (by rintro (q | q | q | q | q | q) <;> contradiction)]
    have k1 := x_rw_dW ta ln x 0
    unfold x_pl
    obtain ⟨y, hy⟩ : ∃ y, y = x_rw ta ln x 0 := ⟨_, rfl⟩
    rw [← hy] at k1 ⊢
    refine ⟨k1.trans h.1, ?_⟩
    show upd (upd (z_dr x) (30 + z_dr x 29).toNatClampNeg (r_lk x 0 7)) 29 (z_dr x 29 + 1) 29 = m + 1
    rw [upd, if_pos rfl, h.2]
/-- a line without a fault -/
theorem x_line_ok {ta : Nat → Int32} {x : zT} {t lo b m : Nat} (ht2 : t ≤ 160) (hQ : zQ x lo t) (h0 : z_fa x = 0) (hb : z_dW x = nI b) (hb8 : b ≤ 8) (hm : z_dr x 29 = nI m) (hm6 : m ≤ 6) :
    zJ (x_line ta (nI t) x) t ∧ (∃ b : Nat, b ≤ 8 ∧ z_dW (x_line ta (nI t) x) = nI b) ∧ (z_fa (x_line ta (nI t) x) = 0 → (¬ z_so (x_line ta (nI t) x) = 0 → zK (x_line ta (nI t) x) (lo + 1) t) ∧ (∃ m : Nat, m ≤ 6 ∧ z_dr (x_line ta (nI t) x) 29 = nI m)) := by
  unfold x_line
  obtain ⟨k, hk⟩ : ∃ k, k = r_ln ta (nI t) x := ⟨_, rfl⟩
  have hk6 := r_ln_6 ta (nI t) x
  rw [← hk] at hk6 ⊢
  have hQ3 : zQ (x_l3 k x) lo t := zQ_mu (zQ_mu (zQ_mu hQ _ _) _ _) _ _
  have hQ4 : zQ (x_l4 k x) lo t := by
    unfold x_l4
    obtain ⟨y, hy⟩ : ∃ y, y = x_l3 k x := ⟨_, rfl⟩
    rw [← hy] at hQ3 ⊢
    exact zQ_eq hQ3 rfl rfl
  have hQ5 : zQ (x_l5 ta (nI t) k x) lo t := zQ_nx ht2 hQ4
  unfold x_l6
  by_cases c : 0 < z_fa (x_l5 ta (nI t) k x)
  · rw [if_pos c]
    refine ⟨hQ5.1, ⟨b, hb8, ?_⟩, fun q => ?_⟩
    · have e3 : z_dW (x_l3 k x) = z_dW x := zk_dW (by rw [x_l3, x_mu_k, x_l2, x_mu_k, x_l1, x_mu_k])
      rw [x_l5, x_nx_dW, x_l4]
      obtain ⟨y, hy⟩ : ∃ y, y = x_l3 k x := ⟨_, rfl⟩
      rw [← hy] at e3 ⊢
      exact e3.trans hb
    · rw [q] at c; exact absurd c (by decide)
  rw [if_neg c]
  have hok := x_l5_ok h0 c
  obtain ⟨hk4, hfull, hkd, hxx⟩ := x_l3_ok hok
  obtain ⟨y5, hy5⟩ : ∃ y, y = x_l5 ta (nI t) k x := ⟨_, rfl⟩
  have hk8 : zk8 (x_l3 k x) = zk8 x := by rw [hxx]
  have hD5 : zD y5 (nI b) (nI m) := by
    rw [hy5, x_l5]
    refine zD_k ?_ (x_nx_k _ _ _)
    rw [x_l4, hxx]
    exact ⟨hb, hm⟩
  rw [← hy5] at hQ5 c ⊢
  have hQ6 : zQ (x_lo ta (nI t) k y5) lo t := zQ_lo ht2 hQ5 k
  have hQ7 : zQ (x_l7 (x_lo ta (nI t) k y5)) lo t := zQ_mu hQ6 _ _
  have hfl : ¬ (k = 1 ∧ z_dW x = 8) ∧ ¬ (k = 6 ∧ z_dr x 29 = 6) := by
    unfold r_full at hfull
    by_cases q1 : k = 0 ∧ z_dP x = 8
    · rw [if_pos q1] at hfull; exact absurd hfull (by decide)
    rw [if_neg q1] at hfull
    by_cases q2 : k = 1 ∧ z_dW x = 8
    · rw [if_pos q2] at hfull; exact absurd hfull (by decide)
    rw [if_neg q2] at hfull
    by_cases q3 : k = 6 ∧ z_dr x 29 = 6
    · rw [if_pos q3] at hfull; exact absurd hfull (by decide)
    exact ⟨q2, q3⟩
  have hbl : k = 1 → b < 8 := by
    intro e
    rcases Nat.lt_or_eq_of_le hb8 with r | r
    · exact r
    · exact absurd ⟨e, by rw [hb, r]; rfl⟩ hfl.1
  obtain ⟨c6, hc6, hkc⟩ := hk6.resolve_left hk4
  have hD6 := zD_lo (ta := ta) (ln := nI t) (k := k) (w := b) (u := m) (fun e => ⟨hD5.1, hbl e⟩) hD5.2 hm6 hD5
  have hD8 := zD_k hD6 (show zk8 (x_nx ta (nI t) (x_l7 (x_lo ta (nI t) k y5))) = zk8 (x_lo ta (nI t) k y5) by rw [x_nx_k, x_l7, x_mu_k])
  refine ⟨(zQ_nx ht2 hQ7).1, ?_, fun hf => ⟨fun hs => ?_, ?_⟩⟩
  · rw [hD8.1]
    by_cases e : k = 1
    · rw [if_pos e, nI_1]; exact ⟨b + 1, hbl e, rfl⟩
    · rw [if_neg e]; exact ⟨b, hb8, rfl⟩
  · by_cases c7 : 0 < z_fa (x_l7 (x_lo ta (nI t) k y5))
    · rw [x_nx_f _ _ c7] at hf
      rw [hf] at c7; exact absurd c7 (by decide)
    · exact (x_nx_K ht2 hQ7.2 c7).2 hs
  · rw [hD8.2]
    by_cases e : k = 0 ∨ k = 1 ∨ k = 2 ∨ k = 3 ∨ k = 4 ∨ k = 5
    · rw [if_pos e]; exact ⟨m, hm6, rfl⟩
    · rw [if_neg e, nI_1]
      have e6 : k = 6 := by
        rw [hkc] at e ⊢
        rcases (show c6 = 0 ∨ c6 = 1 ∨ c6 = 2 ∨ c6 = 3 ∨ c6 = 4 ∨ c6 = 5 ∨ c6 = 6 by omega) with rfl | rfl | rfl | rfl | rfl | rfl | rfl
        · exact absurd (Or.inl rfl) e
        · exact absurd (Or.inr (Or.inl rfl)) e
        · exact absurd (Or.inr (Or.inr (Or.inl rfl))) e
        · exact absurd (Or.inr (Or.inr (Or.inr (Or.inl rfl)))) e
        · exact absurd (Or.inr (Or.inr (Or.inr (Or.inr (Or.inl rfl))))) e
        · exact absurd (Or.inr (Or.inr (Or.inr (Or.inr (Or.inr rfl))))) e
        · rfl
      rcases Nat.lt_or_eq_of_le hm6 with r | r
      · exact ⟨m + 1, r, rfl⟩
      · exact absurd ⟨e6, by rw [hm, r]; rfl⟩ hfl.2
def x_t0 (x : zT) : zT := (0, 0, 0, -4, -4, 0, z_fr x, z_so x, z_va x, 0, z_wr x, q_zk (z_dr x) 0 53, z_dy x, z_dq x)
def x_tl (ta : Nat → Int32) (ln : Int32) : Nat → zT → Nat → zT × Nat
  | 0, x, n => (x, n)
  | f + 1, x, n => if z_fa x = 0 then (if z_so x = 0 then (x, n) else x_tl ta ln f (x_line ta ln x) (n + 1)) else (x, n)
def x_te (x : zT) : zT := x_mu x (if z_h1 x < z_dP x then (if z_hW x < z_dW x then 1 else 0) else 0) 6
def x_tx (ta : Nat → Int32) (ln : Int32) (x : zT) : zT × Nat := (x_te (x_tl ta ln 162 (x_nx ta ln (x_t0 x)) 0).1, (x_tl ta ln 162 (x_nx ta ln (x_t0 x)) 0).2)
