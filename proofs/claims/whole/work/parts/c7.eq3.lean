/-! ===== the two readers: what has been read ===== -/
def hN (M : Nat) : Int32 := if M = 0 then -4 else nI (Nat.log2 M)
theorem hN_or : ∀ M, M < 256 → ∀ v, v < 8 → hN (M ||| 2 ^ v) = (if hN M < nI v then nI v else hN M) := by decide +kernel
theorem hN_sh : ∀ M, M < 256 → ∀ p, p < 9 → (nI M >>> (nI p &&& 31) = 0 ↔ hN M < nI p) := by decide +kernel
theorem hN_lt : ∀ M, M < 256 → ∀ p, p < 9 → (hN M < nI p ↔ M < 2 ^ p) := by decide +kernel
abbrev qT : Type := Int32 × Int32 × Int32 × Int32 × Int32 × (Nat → Int32) × (Nat → Int32) × (Nat → Int32)
def qs_dP (q : qT) (v : Int32) : qT := (v, q.2)
def qs_dW (q : qT) (v : Int32) : qT := (q.1, v, q.2.2)
def qs_hD (q : qT) (v : Int32) : qT := (q.1, q.2.1, v, q.2.2.2)
def qs_h1 (q : qT) (v : Int32) : qT := (q.1, q.2.1, q.2.2.1, v, q.2.2.2.2)
def qs_hW (q : qT) (v : Int32) : qT := (q.1, q.2.1, q.2.2.1, q.2.2.2.1, v, q.2.2.2.2.2)
def qs_dr (q : qT) (v : Nat → Int32) : qT := (q.1, q.2.1, q.2.2.1, q.2.2.2.1, q.2.2.2.2.1, v, q.2.2.2.2.2.2)
def qs_dy (q : qT) (v : Nat → Int32) : qT := (q.1, q.2.1, q.2.2.1, q.2.2.2.1, q.2.2.2.2.1, q.2.2.2.2.2.1, v, q.2.2.2.2.2.2.2)
def qs_dq (q : qT) (v : Nat → Int32) : qT := (q.1, q.2.1, q.2.2.1, q.2.2.2.1, q.2.2.2.2.1, q.2.2.2.2.2.1, q.2.2.2.2.2.2.1, v)
theorem zk_dP (x : zT) (v : Int32) : zk8 (u_dP x v) = qs_dP (zk8 x) v := rfl
theorem zk_dW1 (x : zT) (v : Int32) : zk8 (u_dW x v) = qs_dW (zk8 x) v := rfl
theorem zk_hD (x : zT) (v : Int32) : zk8 (u_hD x v) = qs_hD (zk8 x) v := rfl
theorem zk_h1 (x : zT) (v : Int32) : zk8 (u_h1 x v) = qs_h1 (zk8 x) v := rfl
theorem zk_hW (x : zT) (v : Int32) : zk8 (u_hW x v) = qs_hW (zk8 x) v := rfl
theorem zk_dr1 (x : zT) (v : Nat → Int32) : zk8 (u_dr x v) = qs_dr (zk8 x) v := rfl
theorem zk_dy (x : zT) (v : Nat → Int32) : zk8 (u_dy x v) = qs_dy (zk8 x) v := rfl
theorem zk_dq (x : zT) (v : Nat → Int32) : zk8 (u_dq x v) = qs_dq (zk8 x) v := rfl
def Bs (P M2 : Nat) (de li ba ls : Int32) (dr : Nat → Int32) : Prop := (dr 28 = de ∧ ∃ j : Nat, j ≤ 8 ∧ de = nI j) ∧ (dr 0 = li ∧ ∃ j : Nat, j < 2 ^ P ∧ li = nI j) ∧ (dr 1 = ba ∧ ∃ j : Nat, j < 2 ^ P ∧ ba = nI j) ∧ (dr 27 = ls ∧ ∃ j : Nat, ls = nI j ∧ j ||| M2 = M2) ∧ dr 26 = 0 ∧ dr 36 = 0
def B3 (W M1 : Nat) (f3 dr : Nat → Int32) : Prop := ∀ i, i < 8 → dr (2 + i) = f3 i ∧ ∃ j : Nat, f3 i = nI j ∧ j ||| M1 = M1 ∧ (W ≤ i → j = 0)
def B4 (M2 k : Nat) (f dr : Nat → Int32) : Prop := ∀ i, i < 8 → dr (k + i) = f i ∧ ∃ j : Nat, f i = nI j ∧ j ||| M2 = M2
def B8 (N M2 : Nat) (f8 dr : Nat → Int32) : Prop := ∀ i, i < N → dr (30 + i) = f8 i ∧ ∃ j : Nat, j < 8 ∧ f8 i = nI j ∧ 2 ^ j ||| M2 = M2
def Bf (W : Nat) (f1 f2 dy dq : Nat → Int32) : Prop := ∀ i, i < W → (dy i = f1 i ∧ dq i = f2 i) ∧ (∃ j : Nat, j ≤ 9 ∧ f1 i = nI j) ∧ ∃ j : Nat, j ≤ 9 ∧ f2 i = nI j
def BBf (P W N M1 M2 : Nat) (g1 g2 g3 pe wi de li ba ls pn : Int32) (f1 f2 f3 f4 f5 f8 : Nat → Int32) (dP dW hD h1 hW : Int32) (dr dy dq : Nat → Int32) : Prop := (((dP = nI P ∧ pe = nI P ∧ P ≤ 8) ∧ (dW = nI W ∧ wi = nI W ∧ W ≤ 8) ∧ (dr 29 = nI N ∧ pn = nI N ∧ N ≤ 6)) ∧ ((hD = g1 ∧ (g1 = 0 ∨ g1 = 1)) ∧ (g2 = nI M1 ∧ M1 < 256 ∧ h1 = hN M1) ∧ (g3 = nI M2 ∧ M2 < 256 ∧ hW = hN M2))) ∧ Bs P M2 de li ba ls dr ∧ B3 W M1 f3 dr ∧ B4 M2 10 f4 dr ∧ B4 M2 18 f5 dr ∧ B8 N M2 f8 dr ∧ Bf W f1 f2 dy dq
def BB (P W N M1 M2 : Nat) (g : Int32 × Int32 × Int32) (d : dT) (q : qT) : Prop := BBf P W N M1 M2 g.1 g.2.1 g.2.2 (d_pe d) (d_wi d) (d_de d) (d_li d) (d_ba d) (d_ls d) (d_pn d) (d_f1 d) (d_f2 d) (d_f3 d) (d_f4 d) (d_f5 d) (d_f8 d) q.1 q.2.1 q.2.2.1 q.2.2.2.1 q.2.2.2.2.1 q.2.2.2.2.2.1 q.2.2.2.2.2.2.1 q.2.2.2.2.2.2.2
abbrev q_dr (q : qT) : Nat → Int32 := q.2.2.2.2.2.1
def RR (e : eT) (d : dT) (x : zT) : Prop := TT e x ∧ ∃ P W N M1 M2, BB P W N M1 M2 (e_g e) d (zk8 x)
theorem or_up {j M b : Nat} (h : j ||| M = M) : j ||| (M ||| b) = M ||| b := by rw [← Nat.or_assoc, h]
theorem or_me (M b : Nat) : b ||| (M ||| b) = M ||| b := by rw [Nat.or_comm M b, ← Nat.or_assoc, Nat.or_self]
theorem or_lt8 {a b : Nat} (ha : a < 256) (hb : b < 256) : a ||| b < 256 := Nat.or_lt_two_pow (n := 8) ha hb
theorem p2_lt8 {v : Nat} (h : v < 8) : 2 ^ v < 256 := Nat.pow_lt_pow_right (by decide) h
theorem upd_ne {f : Nat → Int32} {i j : Nat} {v : Int32} (h : j ≠ i) : upd f i v j = f j := by rw [upd, if_neg h]
theorem upd_eq (f : Nat → Int32) (i : Nat) (v : Int32) : upd f i v i = v := by rw [upd, if_pos rfl]
theorem B3_u {W M1 : Nat} {f3 dr : Nat → Int32} {i : Nat} {v : Int32} (h : B3 W M1 f3 dr) (hi : i < 2 ∨ 10 ≤ i) : B3 W M1 f3 (upd dr i v) := fun k hk => ⟨by rw [upd_ne (by omega)]; exact (h k hk).1, (h k hk).2⟩
theorem B4_u {M2 k : Nat} {f dr : Nat → Int32} {i : Nat} {v : Int32} (h : B4 M2 k f dr) (hi : i < k ∨ k + 8 ≤ i) : B4 M2 k f (upd dr i v) := fun j hj => ⟨by rw [upd_ne (by omega)]; exact (h j hj).1, (h j hj).2⟩
theorem B8_u {N M2 : Nat} {f dr : Nat → Int32} {i : Nat} {v : Int32} (h : B8 N M2 f dr) (hi : i < 30 ∨ 30 + N ≤ i) : B8 N M2 f (upd dr i v) := fun j hj => ⟨by rw [upd_ne (by omega)]; exact (h j hj).1, (h j hj).2⟩
theorem Bs_u {P M2 : Nat} {de li ba ls : Int32} {dr : Nat → Int32} {i : Nat} {v : Int32} (h : Bs P M2 de li ba ls dr) (hi : 2 ≤ i ∧ i ≠ 26 ∧ i ≠ 27 ∧ i ≠ 28 ∧ i ≠ 36) : Bs P M2 de li ba ls (upd dr i v) := by
  obtain ⟨h1, h2, h3, h4, h5, h6⟩ := h
  exact ⟨⟨by rw [upd_ne (by omega)]; exact h1.1, h1.2⟩, ⟨by rw [upd_ne (by omega)]; exact h2.1, h2.2⟩, ⟨by rw [upd_ne (by omega)]; exact h3.1, h3.2⟩, ⟨by rw [upd_ne (by omega)]; exact h4.1, h4.2⟩, by rw [upd_ne (by omega)]; exact h5, by rw [upd_ne (by omega)]; exact h6⟩
theorem B4_m {M2 k : Nat} {f dr : Nat → Int32} (b : Nat) (h : B4 M2 k f dr) : B4 (M2 ||| b) k f dr := fun j hj => ⟨(h j hj).1, by obtain ⟨o, h1, h2⟩ := (h j hj).2; exact ⟨o, h1, or_up h2⟩⟩
theorem B8_m {N M2 : Nat} {f dr : Nat → Int32} (b : Nat) (h : B8 N M2 f dr) : B8 N (M2 ||| b) f dr := fun j hj => ⟨(h j hj).1, by obtain ⟨o, h0, h1, h2⟩ := (h j hj).2; exact ⟨o, h0, h1, or_up h2⟩⟩
theorem Bs_m {P M2 : Nat} {de li ba ls : Int32} {dr : Nat → Int32} (b : Nat) (h : Bs P M2 de li ba ls dr) : Bs P (M2 ||| b) de li ba ls dr := by
  obtain ⟨h1, h2, h3, ⟨h4, j, h7, h8⟩, h5⟩ := h
  exact ⟨h1, h2, h3, ⟨h4, j, h7, or_up h8⟩, h5⟩
theorem B3_m {W M1 : Nat} {f3 dr : Nat → Int32} (b : Nat) (h : B3 W M1 f3 dr) : B3 W (M1 ||| b) f3 dr := fun j hj => ⟨(h j hj).1, by obtain ⟨o, h1, h2, h3⟩ := (h j hj).2; exact ⟨o, h1, or_up h2, h3⟩⟩
/-! ===== how a line goes on ===== -/
def zZ (ta : Nat → Int32) (ln k : Int32) (y : zT) : zT := if 0 < z_fa y then y else x_nx ta ln (x_l7 (x_lo ta ln k y))
theorem line_Z (ta : Nat → Int32) (ln : Int32) (x : zT) : x_line ta ln x = zZ ta ln (r_ln ta ln x) (x_nx ta ln (x_l4 (r_ln ta ln x) x)) := by rw [x_line, x_l6, x_l5, zZ]
theorem Z_F {ta : Nat → Int32} {ln k : Int32} {e : eT} {y : zT} (h : FF e y) : FF e (zZ ta ln k y) := by rw [zZ, if_pos h.1]; exact h
theorem l7_F {e : eT} {y : zT} (h : FF e y) : FF e (x_l7 y) := by rw [x_l7, mu_F h]; exact h
theorem Z_L {ta : Nat → Int32} {ln k : Int32} {e : eT} {y : zT} (h0 : z_fa y = 0) (h : FF e (x_l7 (x_lo ta ln k y))) : FF e (zZ ta ln k y) := by
  rw [zZ, if_neg (by rw [h0]; decide), nx_F ta ln h]
  exact h
theorem Z_O {ta : Nat → Int32} {ln k : Int32} {y : zT} (h0 : z_fa y = 0) : zZ ta ln k y = x_nx ta ln (x_l7 (x_lo ta ln k y)) := by rw [zZ, if_neg (by rw [h0]; decide)]
def Out (ta : Nat → Int32) (ln : Int32) (Y : lT) (z : zT) : Prop := (¬ Y.1 = 0 ∧ ∃ x7, RR Y.2.1 Y.2.2 x7 ∧ z = x_nx ta ln x7) ∨ (Y.1 = 0 ∧ FF Y.2.1 z)
theorem l7_dr (y : zT) (f : Nat → Int32) : x_l7 (u_dr y f) = u_dr (x_l7 y) f := by
  unfold x_l7
  have e1 : z_so (u_dr y f) = z_so y := rfl
  have e2 : z_fa (u_dr y f) = z_fa y := rfl
  rw [e1]
  by_cases c : z_so y = 3
  · rw [if_pos c, mu_1, mu_1]
  · rw [if_neg c, x_mu, x_mu, if_pos rfl, if_pos rfl, e2]
    by_cases c2 : z_fa y = 0
    · rw [if_pos c2, if_pos c2]; rfl
    · rw [if_neg c2, if_neg c2]
theorem TT_dP {e : eT} {x : zT} (h : TT e x) (v : Int32) : TT e (u_dP x v) := h
theorem FF_dP {e : eT} {x : zT} (h : FF e x) (v : Int32) : FF e (u_dP x v) := h
theorem TT_dW {e : eT} {x : zT} (h : TT e x) (v : Int32) : TT e (u_dW x v) := h
theorem FF_dW {e : eT} {x : zT} (h : FF e x) (v : Int32) : FF e (u_dW x v) := h
theorem TT_hD {e : eT} {x : zT} (h : TT e x) (v : Int32) : TT e (u_hD x v) := h
theorem FF_hD {e : eT} {x : zT} (h : FF e x) (v : Int32) : FF e (u_hD x v) := h
theorem TT_h1 {e : eT} {x : zT} (h : TT e x) (v : Int32) : TT e (u_h1 x v) := h
theorem FF_h1 {e : eT} {x : zT} (h : FF e x) (v : Int32) : FF e (u_h1 x v) := h
theorem TT_hW {e : eT} {x : zT} (h : TT e x) (v : Int32) : TT e (u_hW x v) := h
theorem FF_hW {e : eT} {x : zT} (h : FF e x) (v : Int32) : FF e (u_hW x v) := h
theorem TT_dr {e : eT} {x : zT} (h : TT e x) (v : Nat → Int32) : TT e (u_dr x v) := h
theorem FF_dr {e : eT} {x : zT} (h : FF e x) (v : Nat → Int32) : FF e (u_dr x v) := h
theorem TT_dy {e : eT} {x : zT} (h : TT e x) (v : Nat → Int32) : TT e (u_dy x v) := h
theorem FF_dy {e : eT} {x : zT} (h : FF e x) (v : Nat → Int32) : FF e (u_dy x v) := h
theorem TT_dq {e : eT} {x : zT} (h : TT e x) (v : Nat → Int32) : TT e (u_dq x v) := h
theorem FF_dq {e : eT} {x : zT} (h : FF e x) (v : Nat → Int32) : FF e (u_dq x v) := h
theorem l7_k (y : zT) : zk8 (x_l7 y) = zk8 y := x_mu_k _ _ _
theorem l7_fa {y : zT} (h : z_fa (x_l7 y) = 0) : z_fa y = 0 := (x_mu_ok (by decide) h).1
/-- the first number of a line -/
theorem tn3 {ta : Nat → Int32} {e : eT} {x : zT} {t m : Nat} (hta : ∀ j, ¬ ta j < 0) (ht : t ≤ 160) (hm : m < 100) (hI : kI e t) (hf : z_fa x = 0) (hp : z_po x = e_be e) :
    (¬ (k_tn ta (nI t) e (nI m) 0).1 = 0 ∧ TT (k_tn ta (nI t) e (nI m) 0).2 (x_nx ta (nI t) x) ∧ x_lk (x_nx ta (nI t) x) 0 (nI m) = x_nx ta (nI t) x ∧ ∃ j, j ≤ m ∧ e_va (k_tn ta (nI t) e (nI m) 0).2 = nI j ∧ r_lk (x_nx ta (nI t) x) 0 (nI m) = nI j) ∨ ((k_tn ta (nI t) e (nI m) 0).1 = 0 ∧ FF (k_tn ta (nI t) e (nI m) 0).2 (x_nx ta (nI t) x)) ∨ ((k_tn ta (nI t) e (nI m) 0).1 = 0 ∧ z_fa (x_nx ta (nI t) x) = 0 ∧ FF (k_tn ta (nI t) e (nI m) 0).2 (x_lk (x_nx ta (nI t) x) 0 (nI m))) := by
  rcases tnT hta ht hm hI hf hp with h | ⟨h1, h2⟩
  · exact Or.inl h
  · rcases nxT hta ht hI hf hp with ⟨_, h3⟩ | ⟨_, h3⟩
    · exact Or.inr (Or.inr ⟨h1, h3.1, h2⟩)
    · rw [lk_F h3] at h2
      exact Or.inr (Or.inl ⟨h1, h2⟩)
/-! a number that is a wish: readWishBut -/
theorem wb_ok {e : eT} {y : zT} {j : Nat} {g : Int32} (hT : TT e y) (hlk : x_lk y 0 7 = y) (hr : r_lk y 0 7 = nI j) (c : p_hb g (nI j) = 0) : x_wb2 y g = u_hW y (if z_hW y < nI j then nI j else z_hW y) := by
  have h1 : x_wb1 y g = y := by rw [x_wb1, hlk, hr, if_pos c, mu_1]
  rw [x_wb2, h1, hr, if_pos hT.1]
  split <;> rfl
theorem wb_no {e : eT} {y : zT} {j : Nat} {g : Int32} (hT : TT e y) (hlk : x_lk y 0 7 = y) (hr : r_lk y 0 7 = nI j) (c : ¬ p_hb g (nI j) = 0) : FF (k_bl e 4 (e_fi e)) (x_wb2 y g) := by
  have hF := mu_0 hT (f := 4) (by decide)
  have h1 : x_wb1 y g = x_mu y 0 4 := by rw [x_wb1, hlk, hr, if_neg c]
  rw [x_wb2, h1, if_neg (fun q => by have := hF.1; rw [q] at this; exact absurd this (by decide))]
  exact hF
theorem wb_F {e : eT} {y : zT} {g : Int32} (h : FF e (x_lk y 0 7)) : FF e (x_wb2 y g) := by
  have h1 : x_wb1 y g = x_lk y 0 7 := by rw [x_wb1, mu_F h]
  rw [x_wb2, h1, if_neg (fun q => by have := h.1; rw [q] at this; exact absurd this (by decide))]
  exact h
theorem rw_F {ta : Nat → Int32} {ln : Int32} {e : eT} {y : zT} {g : Int32} (h : FF e (x_wb2 y g)) : FF e (x_rw ta ln y g) := by rw [x_rw, nx_F ta ln h]; exact h
/-! ===== depth ===== -/
theorem BB_de {P W N M1 M2 j : Nat} {g1 g2 g3 pe wi de li ba ls pn : Int32} {f1 f2 f3 f4 f5 f8 : Nat → Int32} {dP dW hD h1 hW : Int32} {dr dy dq : Nat → Int32} (hj : j ≤ 8) (h : BBf P W N M1 M2 g1 g2 g3 pe wi de li ba ls pn f1 f2 f3 f4 f5 f8 dP dW hD h1 hW dr dy dq) : BBf P W N M1 M2 1 g2 g3 pe wi (nI j) li ba ls pn f1 f2 f3 f4 f5 f8 dP dW 1 h1 hW (upd dr 28 (nI j)) dy dq := by
  obtain ⟨⟨⟨n1, n2, n3⟩, ⟨k1, k2, k3⟩⟩, hs, h3, h4, h5, h8, hf⟩ := h
  obtain ⟨s1, s2, s3, s4, s5, s6⟩ := hs
  refine ⟨⟨⟨n1, n2, ⟨?_, n3.2⟩⟩, ⟨⟨rfl, Or.inr rfl⟩, k2, k3⟩⟩, ⟨⟨upd_eq _ _ _, j, hj, rfl⟩, ⟨?_, s2.2⟩, ⟨?_, s3.2⟩, ⟨?_, s4.2⟩, ?_, ?_⟩, B3_u h3 (by omega), B4_u h4 (by omega), B4_u h5 (by omega), B8_u h8 (by omega), hf⟩
  · rw [upd_ne (by decide)]; exact n3.1
  · rw [upd_ne (by decide)]; exact s2.1
  · rw [upd_ne (by decide)]; exact s3.1
  · rw [upd_ne (by decide)]; exact s4.1
  · rw [upd_ne (by decide)]; exact s5
  · rw [upd_ne (by decide)]; exact s6
theorem eq_de {ta : Nat → Int32} {e : eT} {d : dT} {x : zT} {t : Nat} (hta : ∀ j, ¬ ta j < 0) (ht : t ≤ 160) (hI : kI e t) (hd : e_dt e = 0) (h : RR e d x) : Out ta (nI t) (lnDe (k_de ta (nI t) e (d_de d)) d) (zZ ta (nI t) 5 (x_nx ta (nI t) (u_hD x 1))) := by
  obtain ⟨hT, P, W, N, M1, M2, hB⟩ := h
  have hI0 : kI (v_dt e) t := hI
  have hk := k_tn_g ta (nI t) (v_dt e) 8 0
  have kI1 := kI_tn (ta := ta) ht hI0 8 0
  have hz : zk8 (x_nx ta (nI t) (u_hD x 1)) = qs_hD (zk8 x) 1 := by rw [x_nx_k, zk_hD]
  rw [k_de, if_pos hd]
  have h1 := tn3 (m := 8) hta ht (by decide) hI0 (show z_fa (u_hD x 1) = 0 from hT.1) (show z_po (u_hD x 1) = e_be (v_dt e) from hT.2.1)
  obtain ⟨K, hK⟩ : ∃ K, K = k_tn ta (nI t) (v_dt e) 8 0 := ⟨_, rfl⟩
  rw [show (nI 8 : Int32) = 8 from rfl, ← hK] at h1
  rw [← hK] at hk kI1 ⊢
  obtain ⟨y, hy⟩ : ∃ y, y = x_nx ta (nI t) (u_hD x 1) := ⟨_, rfl⟩
  rw [← hy] at h1 hz ⊢
  have hlo : x_lo ta (nI t) 5 y = x_de ta (nI t) y := rfl
  rcases h1 with ⟨a1, a2, a3, j, a4, a5, a6⟩ | ⟨a1, a2⟩ | ⟨a1, a0, a2⟩
  · rw [if_neg a1, a5]
    have h2 := tsT hta ht kI1 a2.1 a2.2.1
    have hks := k_ts_g ta (nI t) K.2
    obtain ⟨S, hS⟩ : ∃ S, S = k_ts ta (nI t) K.2 := ⟨_, rfl⟩
    rw [← hS] at h2 hks ⊢
    have hx : x_l7 (x_lo ta (nI t) 5 y) = u_dr (x_l7 (x_nx ta (nI t) y)) (upd (z_dr y) 28 (nI j)) := by rw [hlo, x_de, a3, a6, l7_dr]
    have hdr : q_dr (zk8 y) = q_dr (qs_hD (zk8 x) 1) := congrArg q_dr hz
    rcases h2 with ⟨b1, b2⟩ | ⟨b1, b2⟩
    · refine Or.inl ⟨b1, _, ⟨?_, P, W, N, M1, M2, ?_⟩, Z_O a2.1⟩
      · rw [hx]
        exact TT_dr b2 _
      · have hq : zk8 (x_l7 (x_lo ta (nI t) 5 y)) = qs_dr (qs_hD (zk8 x) 1) (upd (z_dr x) 28 (nI j)) := by
          rw [hx, zk_dr1, l7_k, x_nx_k, hz]
          exact congrArg (fun f => qs_dr (qs_hD (zk8 x) 1) (upd f 28 (nI j))) hdr
        have hg : e_g S.2 = (1, (e_g e).2) := hks.trans hk
        rw [hq]
        show BB P W N M1 M2 (e_g S.2) (d.1, d.2.1, nI j, d.2.2.2) (qs_dr (qs_hD (zk8 x) 1) (upd (z_dr x) 28 (nI j)))
        rw [hg]
        exact BB_de a4 hB
    · refine Or.inr ⟨b1, Z_L a2.1 ?_⟩
      rw [hx]
      exact FF_dr b2 _
  · rw [if_pos a1]
    exact Or.inr ⟨rfl, Z_F a2⟩
  · rw [if_pos a1]
    refine Or.inr ⟨rfl, Z_L a0 (l7_F ?_)⟩
    rw [hlo, x_de]
    refine FF_dr ?_ _
    rw [nx_F ta (nI t) a2]
    exact a2
