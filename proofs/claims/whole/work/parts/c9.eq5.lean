/-! ===== the two readers: needs, wish ===== -/
theorem mu_dr (x : zT) (v : Nat → Int32) (b c : Int32) : x_mu (u_dr x v) b c = u_dr (x_mu x b c) v := by
  unfold x_mu
  by_cases h : b = 0
  · rw [if_pos h, if_pos h]
    by_cases h2 : z_fa x = 0
    · rw [if_pos h2, if_pos (show z_fa (u_dr x v) = 0 from h2)]; rfl
    · rw [if_neg h2, if_neg (show ¬ z_fa (u_dr x v) = 0 from h2)]
  · rw [if_neg h, if_neg h]
theorem mu_dy (x : zT) (v : Nat → Int32) (b c : Int32) : x_mu (u_dy x v) b c = u_dy (x_mu x b c) v := by
  unfold x_mu
  by_cases h : b = 0
  · rw [if_pos h, if_pos h]
    by_cases h2 : z_fa x = 0
    · rw [if_pos h2, if_pos (show z_fa (u_dy x v) = 0 from h2)]; rfl
    · rw [if_neg h2, if_neg (show ¬ z_fa (u_dy x v) = 0 from h2)]
  · rw [if_neg h, if_neg h]
theorem mu_dq (x : zT) (v : Nat → Int32) (b c : Int32) : x_mu (u_dq x v) b c = u_dq (x_mu x b c) v := by
  unfold x_mu
  by_cases h : b = 0
  · rw [if_pos h, if_pos h]
    by_cases h2 : z_fa x = 0
    · rw [if_pos h2, if_pos (show z_fa (u_dq x v) = 0 from h2)]; rfl
    · rw [if_neg h2, if_neg (show ¬ z_fa (u_dq x v) = 0 from h2)]
  · rw [if_neg h, if_neg h]
theorem mu_dW (x : zT) (v : Int32) (b c : Int32) : x_mu (u_dW x v) b c = u_dW (x_mu x b c) v := by
  unfold x_mu
  by_cases h : b = 0
  · rw [if_pos h, if_pos h]
    by_cases h2 : z_fa x = 0
    · rw [if_pos h2, if_pos (show z_fa (u_dW x v) = 0 from h2)]; rfl
    · rw [if_neg h2, if_neg (show ¬ z_fa (u_dW x v) = 0 from h2)]
  · rw [if_neg h, if_neg h]
theorem mu_dP (x : zT) (v : Int32) (b c : Int32) : x_mu (u_dP x v) b c = u_dP (x_mu x b c) v := by
  unfold x_mu
  by_cases h : b = 0
  · rw [if_pos h, if_pos h]
    by_cases h2 : z_fa x = 0
    · rw [if_pos h2, if_pos (show z_fa (u_dP x v) = 0 from h2)]; rfl
    · rw [if_neg h2, if_neg (show ¬ z_fa (u_dP x v) = 0 from h2)]
  · rw [if_neg h, if_neg h]
theorem l7_dW (y : zT) (f : Int32) : x_l7 (u_dW y f) = u_dW (x_l7 y) f := by
  unfold x_l7
  rw [mu_dW]
  rfl
theorem l7_dP (y : zT) (f : Int32) : x_l7 (u_dP y f) = u_dP (x_l7 y) f := by
  unfold x_l7
  rw [mu_dP]
  rfl
theorem n3_dr (x : zT) (v : Nat → Int32) (p u : Nat) (k : Int32) : x_n3 (u_dr x v) p u k = u_dr (x_n3 x p u k) v := rfl
theorem n3_dy (x : zT) (v : Nat → Int32) (p u : Nat) (k : Int32) : x_n3 (u_dy x v) p u k = u_dy (x_n3 x p u k) v := rfl
theorem n3_dq (x : zT) (v : Nat → Int32) (p u : Nat) (k : Int32) : x_n3 (u_dq x v) p u k = u_dq (x_n3 x p u k) v := rfl
theorem va_dr (x : zT) (v : Nat → Int32) (a : Int32) : u_va (u_dr x v) a = u_dr (u_va x a) v := rfl
theorem va_dy (x : zT) (v : Nat → Int32) (a : Int32) : u_va (u_dy x v) a = u_dy (u_va x a) v := rfl
theorem va_dq (x : zT) (v : Nat → Int32) (a : Int32) : u_va (u_dq x v) a = u_dq (u_va x a) v := rfl
theorem po_dr (x : zT) (v : Nat → Int32) (a : Int32) : u_po (u_dr x v) a = u_dr (u_po x a) v := rfl
theorem po_dy (x : zT) (v : Nat → Int32) (a : Int32) : u_po (u_dy x v) a = u_dy (u_po x a) v := rfl
theorem po_dq (x : zT) (v : Nat → Int32) (a : Int32) : u_po (u_dq x v) a = u_dq (u_po x a) v := rfl
theorem nx_dr (ta : Nat → Int32) (ln : Int32) (x : zT) (v : Nat → Int32) : x_nx ta ln (u_dr x v) = u_dr (x_nx ta ln x) v := by
  unfold x_nx
  by_cases h : 0 < z_fa x
  · rw [if_pos h, if_pos (show 0 < z_fa (u_dr x v) from h)]
  rw [if_neg h, if_neg (show ¬ 0 < z_fa (u_dr x v) from h)]
  show x_n1 ta ln (u_dr x v) (p_ru ta ln 32 32 161 (z_po x).toNatClampNeg) = _
  obtain ⟨u, hu⟩ : ∃ u, u = p_ru ta ln 32 32 161 (z_po x).toNatClampNeg := ⟨_, rfl⟩
  rw [← hu, x_n1, x_n1, n3_dr, n3_dr, n3_dr, n3_dr, mu_dr, va_dr, mu_dr, po_dr]
  by_cases c1 : p_mlk ta ln (nI u) < 0
  · rw [if_pos c1, if_pos c1]
  rw [if_neg c1, if_neg c1]
  by_cases c2 : p_rg 97 122 (p_mlk ta ln (nI u)) = 0
  · rw [if_pos c2, if_pos c2]
    by_cases c3 : p_rg 48 57 (p_mlk ta ln (nI u)) = 0
    · rw [if_pos c3, if_pos c3]
    · rw [if_neg c3, if_neg c3]
  · rw [if_neg c2, if_neg c2]
theorem nx_dy (ta : Nat → Int32) (ln : Int32) (x : zT) (v : Nat → Int32) : x_nx ta ln (u_dy x v) = u_dy (x_nx ta ln x) v := by
  unfold x_nx
  by_cases h : 0 < z_fa x
  · rw [if_pos h, if_pos (show 0 < z_fa (u_dy x v) from h)]
  rw [if_neg h, if_neg (show ¬ 0 < z_fa (u_dy x v) from h)]
  show x_n1 ta ln (u_dy x v) (p_ru ta ln 32 32 161 (z_po x).toNatClampNeg) = _
  obtain ⟨u, hu⟩ : ∃ u, u = p_ru ta ln 32 32 161 (z_po x).toNatClampNeg := ⟨_, rfl⟩
  rw [← hu, x_n1, x_n1, n3_dy, n3_dy, n3_dy, n3_dy, mu_dy, va_dy, mu_dy, po_dy]
  by_cases c1 : p_mlk ta ln (nI u) < 0
  · rw [if_pos c1, if_pos c1]
  rw [if_neg c1, if_neg c1]
  by_cases c2 : p_rg 97 122 (p_mlk ta ln (nI u)) = 0
  · rw [if_pos c2, if_pos c2]
    by_cases c3 : p_rg 48 57 (p_mlk ta ln (nI u)) = 0
    · rw [if_pos c3, if_pos c3]
    · rw [if_neg c3, if_neg c3]
  · rw [if_neg c2, if_neg c2]
theorem nx_dq (ta : Nat → Int32) (ln : Int32) (x : zT) (v : Nat → Int32) : x_nx ta ln (u_dq x v) = u_dq (x_nx ta ln x) v := by
  unfold x_nx
  by_cases h : 0 < z_fa x
  · rw [if_pos h, if_pos (show 0 < z_fa (u_dq x v) from h)]
  rw [if_neg h, if_neg (show ¬ 0 < z_fa (u_dq x v) from h)]
  show x_n1 ta ln (u_dq x v) (p_ru ta ln 32 32 161 (z_po x).toNatClampNeg) = _
  obtain ⟨u, hu⟩ : ∃ u, u = p_ru ta ln 32 32 161 (z_po x).toNatClampNeg := ⟨_, rfl⟩
  rw [← hu, x_n1, x_n1, n3_dq, n3_dq, n3_dq, n3_dq, mu_dq, va_dq, mu_dq, po_dq]
  by_cases c1 : p_mlk ta ln (nI u) < 0
  · rw [if_pos c1, if_pos c1]
  rw [if_neg c1, if_neg c1]
  by_cases c2 : p_rg 97 122 (p_mlk ta ln (nI u)) = 0
  · rw [if_pos c2, if_pos c2]
    by_cases c3 : p_rg 48 57 (p_mlk ta ln (nI u)) = 0
    · rw [if_pos c3, if_pos c3]
    · rw [if_neg c3, if_neg c3]
  · rw [if_neg c2, if_neg c2]
/-- how many bits -/
def bN (a : Nat) : Nat := a % 2 + a / 2 % 2 + a / 4 % 2 + a / 8 % 2 + a / 16 % 2 + a / 32 % 2 + a / 64 % 2 + a / 128 % 2
theorem bN_up : ∀ a, a < 256 → bN a ≤ 8 ∧ ∀ v, v < 8 → p_hb (nI a) (nI v) = 0 → bN (a ||| 2 ^ v) = bN a + 1 := by decide +kernel
/-- a number or a stop -/
theorem tn1 {ta : Nat → Int32} {e : eT} {x : zT} {t : Nat} (hta : ∀ j, ¬ ta j < 0) (ht : t ≤ 160) (hI : kI e t) (hf : z_fa x = 0) (hp : z_po x = e_be e) :
    (¬ (k_tn ta (nI t) e 7 1).1 = 0 ∧ e_ki (k_tn ta (nI t) e 7 1).2 = 3 ∧ TT (k_tn ta (nI t) e 7 1).2 (x_nx ta (nI t) x)) ∨
    (¬ (k_tn ta (nI t) e 7 1).1 = 0 ∧ ¬ e_ki (k_tn ta (nI t) e 7 1).2 = 3 ∧ TT (k_tn ta (nI t) e 7 1).2 (x_nx ta (nI t) x) ∧ z_so (x_nx ta (nI t) x) = 2 ∧ x_lk (x_nx ta (nI t) x) 0 7 = x_nx ta (nI t) x ∧ ∃ j, j < 8 ∧ e_va (k_tn ta (nI t) e 7 1).2 = nI j ∧ r_lk (x_nx ta (nI t) x) 0 7 = nI j) ∨
    ((k_tn ta (nI t) e 7 1).1 = 0 ∧ FF (k_tn ta (nI t) e 7 1).2 (x_nx ta (nI t) x)) ∨
    ((k_tn ta (nI t) e 7 1).1 = 0 ∧ z_fa (x_nx ta (nI t) x) = 0 ∧ z_so (x_nx ta (nI t) x) = 2 ∧ FF (k_tn ta (nI t) e 7 1).2 (x_lk (x_nx ta (nI t) x) 0 7)) ∨
    ((k_tn ta (nI t) e 7 1).1 = 0 ∧ z_fa (x_nx ta (nI t) x) = 0 ∧ ¬ z_so (x_nx ta (nI t) x) = 2 ∧ FF (k_tn ta (nI t) e 7 1).2 (x_l7 (x_nx ta (nI t) x))) := by
  have h := nxT hta ht hI hf hp
  have hva := k_nx_va (ta := ta) ht hI
  unfold k_tn
  obtain ⟨N, hN⟩ : ∃ N, N = k_nx ta (nI t) e := ⟨_, rfl⟩
  obtain ⟨y, hy⟩ : ∃ y, y = x_nx ta (nI t) x := ⟨_, rfl⟩
  rw [← hN, ← hy] at h
  rw [← hN] at hva
  rw [← hN, ← hy]
  rcases h with ⟨h1, h2⟩ | ⟨h1, h2⟩
  rotate_left
  · rw [if_pos h1]
    exact Or.inr (Or.inr (Or.inl ⟨rfl, h2⟩))
  rw [if_neg h1]
  have hso := h2.2.2.2.1
  by_cases c3 : e_ki N.2 = 3
  · rw [if_pos ⟨c3, d10⟩]
    exact Or.inl ⟨d10, c3, h2⟩
  rw [if_neg (fun q => c3 q.1)]
  by_cases c : e_ki N.2 = 2
  · obtain ⟨j, hj, ej⟩ := hva h1 c
    have hva2 : z_va y = nI j := (h2.2.2.2.2 c).trans ej
    have hso : z_so y = 2 := hso.trans c
    rw [if_pos c]
    by_cases c2 : (7 : Int32) < e_va N.2
    · rw [if_pos c2]
      refine Or.inr (Or.inr (Or.inr (Or.inl ⟨rfl, h2.1, hso, ?_⟩)))
      rw [x_lk, x_lk1, if_pos hso, mu_1, show (7 : Int32) = nI 7 from rfl, p_rg_lt hva2 (by omega) (by omega), if_pos (by rw [hva2, ← ej]; exact c2)]
      exact mu_0 h2 (by decide)
    · rw [if_neg c2]
      have hlk : x_lk y 0 7 = y := by
        rw [x_lk, x_lk1, if_pos hso, mu_1, show (7 : Int32) = nI 7 from rfl, p_rg_lt hva2 (by omega) (by omega), if_neg (by rw [hva2, ← ej]; exact c2), mu_1]
      refine Or.inr (Or.inl ⟨d10, c3, h2, hso, hlk, j, ?_, ej, ?_⟩)
      · rw [ej, show (7 : Int32) = nI 7 from rfl, nI_ltI (by omega) (by omega)] at c2; omega
      · rw [r_lk, hlk, if_pos h2.1, hva2]
  · rw [if_neg c]
    have hso2 : ¬ z_so y = 2 := fun q => c (hso.symm.trans q)
    refine Or.inr (Or.inr (Or.inr (Or.inr ⟨rfl, h2.1, hso2, ?_⟩)))
    rw [x_l7, if_neg (fun q => c3 (hso.symm.trans q))]
    exact mu_0 h2 (by decide)
theorem ndl_x {ta : Nat → Int32} {ln : Int32} {w : Nat} {y : zT} (h : ¬ z_fa y = 0 ∨ ¬ z_so y = 2) : ∀ f, x_ndl ta ln w f y = y
  | 0 => rfl
  | f + 1 => by
    rw [x_ndl]
    rcases h with h | h
    · rw [if_neg h]
    · by_cases h2 : z_fa y = 0
      · rw [if_pos h2, if_neg h]
      · rw [if_neg h2]
theorem wl_x {ta : Nat → Int32} {ln : Int32} {w : Nat} {y : zT} (h : ¬ z_fa y = 0 ∨ ¬ z_so y = 2) : ∀ f, x_wl ta ln w f y = y
  | 0 => rfl
  | f + 1 => by
    rw [x_wl]
    rcases h with h | h
    · rw [if_neg h]
    · by_cases h2 : z_fa y = 0
      · rw [if_pos h2, if_neg h]
      · rw [if_neg h2]
