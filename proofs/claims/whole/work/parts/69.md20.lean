/-! ===== WishClerkModel: the next token ===== -/
def p_rg (lo hi c : Int32) : Int32 := if c < lo then 0 else if hi < c then 0 else 1
/-- where the run of bytes from lo to hi that begins at p ends -/
def p_ru (ta : Nat → Int32) (ln lo hi : Int32) : Nat → Nat → Nat
  | 0, p => p
  | f + 1, p => if p_rg lo hi (p_mlk ta ln (nI p)) = 0 then p else p_ru ta ln lo hi f (p + 1)
/-- the first two figures -/
def p_mv (ta : Nat → Int32) (ln : Int32) (u : Nat) : Nat → Int32
  | 0 => 0
  | k + 1 => if k < 2 then 10 * p_mv ta ln u k + p_mlk ta ln (nI (u + k)) - 48 else p_mv ta ln u k
theorem p_rg_m1 {lo hi : Int32} (h : 0 < lo) : p_rg lo hi (-1) = 0 := by
  rw [p_rg, if_pos]
  rw [Int32.lt_iff_toInt_lt] at h ⊢
  have z0 : (0 : Int32).toInt = 0 := rfl
  have z1 : (-1 : Int32).toInt = -1 := rfl
  omega
theorem p_mlk_o {ta : Nat → Int32} {t p : Nat} (ht : t ≤ 160) (hp : t ≤ p) (hp2 : p < 1000) : p_mlk ta (nI t) (nI p) = -1 := by
  rw [p_mlk, if_neg]
  rw [nI_ltI (by omega) (by omega)]; omega
theorem p_ru_le (ta : Nat → Int32) {t : Nat} (lo hi : Int32) (h : 0 < lo) (ht : t ≤ 160) : ∀ f p, p ≤ t → p ≤ p_ru ta (nI t) lo hi f p ∧ p_ru ta (nI t) lo hi f p ≤ t
  | 0, p, hp => ⟨Nat.le_refl _, hp⟩
  | f + 1, p, hp => by
    rw [p_ru]
    by_cases q : p_rg lo hi (p_mlk ta (nI t) (nI p)) = 0
    · rw [if_pos q]; exact ⟨Nat.le_refl _, hp⟩
    · rw [if_neg q]
      have : p < t := by
        rcases Nat.lt_or_ge p t with r | r
        · exact r
        · rw [p_mlk_o ht r (by omega), p_rg_m1 h] at q; exact absurd rfl q
      have r := p_ru_le ta lo hi h ht f (p + 1) (by omega)
      exact ⟨by omega, r.2⟩
theorem p_rg_1 (c k : Int32) : p_rg k k c = 0 ↔ ¬ c = k := by
  unfold p_rg
  by_cases h : c < k
  · rw [if_pos h]
    exact ⟨fun _ q => by rw [q] at h; exact Int32.lt_irrefl h, fun _ => rfl⟩
  · rw [if_neg h]
    by_cases h2 : k < c
    · rw [if_pos h2]
      exact ⟨fun _ q => by rw [q] at h2; exact Int32.lt_irrefl h2, fun _ => rfl⟩
    · rw [if_neg h2]
      refine ⟨fun q => absurd q (by decide), fun q => absurd ?_ q⟩
      rw [Int32.lt_iff_toInt_lt] at h h2
      exact Int32.toInt_inj.mp (by omega)
abbrev zT : Type := Int32 × Int32 × Int32 × Int32 × Int32 × Int32 × Int32 × Int32 × Int32 × Int32 × Int32 × (Nat → Int32) × (Nat → Int32) × (Nat → Int32)
abbrev z_dP (x : zT) : Int32 := x.1
abbrev z_dW (x : zT) : Int32 := x.2.1
abbrev z_hD (x : zT) : Int32 := x.2.2.1
abbrev z_h1 (x : zT) : Int32 := x.2.2.2.1
abbrev z_hW (x : zT) : Int32 := x.2.2.2.2.1
abbrev z_po (x : zT) : Int32 := x.2.2.2.2.2.1
abbrev z_fr (x : zT) : Int32 := x.2.2.2.2.2.2.1
abbrev z_so (x : zT) : Int32 := x.2.2.2.2.2.2.2.1
abbrev z_va (x : zT) : Int32 := x.2.2.2.2.2.2.2.2.1
abbrev z_fa (x : zT) : Int32 := x.2.2.2.2.2.2.2.2.2.1
abbrev z_wr (x : zT) : Int32 := x.2.2.2.2.2.2.2.2.2.2.1
abbrev z_dr (x : zT) : Nat → Int32 := x.2.2.2.2.2.2.2.2.2.2.2.1
abbrev z_dy (x : zT) : Nat → Int32 := x.2.2.2.2.2.2.2.2.2.2.2.2.1
abbrev z_dq (x : zT) : Nat → Int32 := x.2.2.2.2.2.2.2.2.2.2.2.2.2
def u_dP (x : zT) (v : Int32) : zT := (v, x.2)
def u_dW (x : zT) (v : Int32) : zT := (x.1, v, x.2.2)
def u_hD (x : zT) (v : Int32) : zT := (x.1, x.2.1, v, x.2.2.2)
def u_h1 (x : zT) (v : Int32) : zT := (x.1, x.2.1, x.2.2.1, v, x.2.2.2.2)
def u_hW (x : zT) (v : Int32) : zT := (x.1, x.2.1, x.2.2.1, x.2.2.2.1, v, x.2.2.2.2.2)
def u_po (x : zT) (v : Int32) : zT := (x.1, x.2.1, x.2.2.1, x.2.2.2.1, x.2.2.2.2.1, v, x.2.2.2.2.2.2)
def u_fr (x : zT) (v : Int32) : zT := (x.1, x.2.1, x.2.2.1, x.2.2.2.1, x.2.2.2.2.1, x.2.2.2.2.2.1, v, x.2.2.2.2.2.2.2)
def u_so (x : zT) (v : Int32) : zT := (x.1, x.2.1, x.2.2.1, x.2.2.2.1, x.2.2.2.2.1, x.2.2.2.2.2.1, x.2.2.2.2.2.2.1, v, x.2.2.2.2.2.2.2.2)
def u_va (x : zT) (v : Int32) : zT := (x.1, x.2.1, x.2.2.1, x.2.2.2.1, x.2.2.2.2.1, x.2.2.2.2.2.1, x.2.2.2.2.2.2.1, x.2.2.2.2.2.2.2.1, v, x.2.2.2.2.2.2.2.2.2)
def u_fa (x : zT) (v : Int32) : zT := (x.1, x.2.1, x.2.2.1, x.2.2.2.1, x.2.2.2.2.1, x.2.2.2.2.2.1, x.2.2.2.2.2.2.1, x.2.2.2.2.2.2.2.1, x.2.2.2.2.2.2.2.2.1, v, x.2.2.2.2.2.2.2.2.2.2)
def u_wr (x : zT) (v : Int32) : zT := (x.1, x.2.1, x.2.2.1, x.2.2.2.1, x.2.2.2.2.1, x.2.2.2.2.2.1, x.2.2.2.2.2.2.1, x.2.2.2.2.2.2.2.1, x.2.2.2.2.2.2.2.2.1, x.2.2.2.2.2.2.2.2.2.1, v, x.2.2.2.2.2.2.2.2.2.2.2)
def u_dr (x : zT) (v : Nat → Int32) : zT := (x.1, x.2.1, x.2.2.1, x.2.2.2.1, x.2.2.2.2.1, x.2.2.2.2.2.1, x.2.2.2.2.2.2.1, x.2.2.2.2.2.2.2.1, x.2.2.2.2.2.2.2.2.1, x.2.2.2.2.2.2.2.2.2.1, x.2.2.2.2.2.2.2.2.2.2.1, v, x.2.2.2.2.2.2.2.2.2.2.2.2)
def u_dy (x : zT) (v : Nat → Int32) : zT := (x.1, x.2.1, x.2.2.1, x.2.2.2.1, x.2.2.2.2.1, x.2.2.2.2.2.1, x.2.2.2.2.2.2.1, x.2.2.2.2.2.2.2.1, x.2.2.2.2.2.2.2.2.1, x.2.2.2.2.2.2.2.2.2.1, x.2.2.2.2.2.2.2.2.2.2.1, x.2.2.2.2.2.2.2.2.2.2.2.1, v, x.2.2.2.2.2.2.2.2.2.2.2.2.2)
def u_dq (x : zT) (v : Nat → Int32) : zT := (x.1, x.2.1, x.2.2.1, x.2.2.2.1, x.2.2.2.2.1, x.2.2.2.2.2.1, x.2.2.2.2.2.2.1, x.2.2.2.2.2.2.2.1, x.2.2.2.2.2.2.2.2.1, x.2.2.2.2.2.2.2.2.2.1, x.2.2.2.2.2.2.2.2.2.2.1, x.2.2.2.2.2.2.2.2.2.2.2.1, x.2.2.2.2.2.2.2.2.2.2.2.2.1, v)
def zs (s : Nat → Int32) (x : zT) : Nat → Int32 := upd (upd (upd (upd (upd (upd (upd (upd (upd (upd (upd (s) 7 (z_dP x)) 8 (z_dW x)) 11 (z_hD x)) 12 (z_h1 x)) 13 (z_hW x)) 16 (z_po x)) 17 (z_fr x)) 18 (z_so x)) 19 (z_va x)) 20 (z_fa x)) 21 (z_wr x)
def zA (A : Nat → Nat → Int32) (x : zT) : Nat → Nat → Int32 := va_up (va_up (va_up A 5 (z_dr x)) 6 (z_dy x)) 7 (z_dq x)
/-- the reader's world: the background, and what the reader changes -/
def mdZ (s : Nat → Int32) (A : Nat → Nat → Int32) (x : zT) : sH := [.inr (.inr (6, [.ref 1, .ref 2, .int (s 2), .int (s 3), .ref 3, .ref 4, .ref 5, .int (z_dP x), .int (z_dW x), .ref 6, .ref 7, .int (z_hD x), .int (z_h1 x), .int (z_hW x), .ref 8, .int (s 15), .int (z_po x), .int (z_fr x), .int (z_so x), .int (z_va x), .int (z_fa x), .int (z_wr x), .ref 9, .ref 10, .ref 11, .ref 12, .ref 13, .ref 14, .ref 15, .ref 16, .int (s 30)])), .inl (0, 159, A 1), .inl (2, 2, A 2), .inl (0, 8, A 3), .inl (0, 8, A 4), .inl (0, 53, z_dr x), .inl (0, 8, z_dy x), .inl (0, 8, z_dq x), .inl (0, 160, A 8), .inl (0, 256, A 9), .inl (0, 256, A 10), .inl (0, 256, A 11), .inl (0, 256, A 12), .inl (0, 8, A 13), .inl (0, 4, A 14), .inl (0, 4, A 15), .inl (0, 160, A 16)]
theorem mdZ_W (s : Nat → Int32) (A : Nat → Nat → Int32) (x : zT) : mdZ s A x = mdW (zs s x) (zA A x) := rfl
def rX (L : sH) : zT := (oI L 0 7, oI L 0 8, oI L 0 11, oI L 0 12, oI L 0 13, oI L 0 16, oI L 0 17, oI L 0 18, oI L 0 19, oI L 0 20, oI L 0 21, bF L 5, bF L 6, bF L 7)
def mdR (L : sH) (x : zT) : sH := mdZ (oI L 0) (bF L) x
theorem zR (s : Nat → Int32) (A : Nat → Nat → Int32) (x : zT) : rX (mdZ s A x) = x := rfl
theorem zM (s : Nat → Int32) (A : Nat → Nat → Int32) (x y : zT) : mdR (mdZ s A x) y = mdZ s A y := rfl
theorem zB8 (s : Nat → Int32) (A : Nat → Nat → Int32) (x : zT) : bF (mdZ s A x) 8 = A 8 := rfl
theorem zO15 (s : Nat → Int32) (A : Nat → Nat → Int32) (x : zT) : oI (mdZ s A x) 0 15 = s 15 := rfl
def x_mu (x : zT) (b f : Int32) : zT := if b = 0 then (if z_fa x = 0 then u_wr (u_fa x f) (z_fr x) else x) else x
def c_X6_must : sCtr := ((yX6_must, cX6_must, 3, none), (7, 2, 0, 0), false,
  mdfp,
  fun vs L => ∃ (s : Nat → Int32) (A : Nat → Nat → Int32) (x : zT) (b f : Int32), vs = [.ref 0, .int b, .int f] ∧ L = mdZ s A x,
  fun vs L r L' => r = none ∧ L' = mdR L (x_mu (rX L) (vI vs 1) (vI vs 2)))
theorem sta_X6_must : s_Sta c_X6_must := ⟨⟨by decide +kernel, by decide +kernel, by decide +kernel⟩, List.mem_of_getElem? (i := 947) (by decide +kernel), List.mem_of_getElem? (i := 70) (by decide +kernel), ⟨List.mem_of_getElem? (i := 946) (by decide +kernel), List.mem_of_getElem? (i := 31) (by decide +kernel), Or.inl ⟨_, rfl, rfl⟩⟩⟩

def k_X6_must : List sBk := [
  (0, false, [true, true, true], [o0 0 (.iload_n 1), oN 1 (.ifCond .ne 23) [1], o0 4 (.aload_n 0), oN 5 (.getfield 97) [6, 20, 842], oN 8 (.ifCond .ne 16) [1], o0 11 (.aload_n 0), o0 12 (.iload_n 2), oN 13 (.putfield 97) [6, 20, 842], o0 16 (.aload_n 0), o0 17 (.aload_n 0), oN 18 (.getfield 100) [6, 17, 839], oN 21 (.putfield 103) [6, 21, 843], oN 24 .nop [1]]),
  (24, false, [false, false, false], [o0 24 .return_])]
set_option maxRecDepth 100000 in
theorem ck_X6_must : s_ck RX6 cX6_must 3 0 0 k_X6_must = true := by decide +kernel

set_option maxRecDepth 100000 in
set_option maxHeartbeats 4000000 in
theorem ok_X6_must : s_Ok c_X6_must := by
  refine s_ok_of k_X6_must (by decide +kernel) sta_X6_must ck_X6_must trivial ?_
  rintro vs L ⟨s, A, x, b, f, rfl, rfl⟩
  refine ⟨rfl, fun G hG => ?_⟩
  have fin : ∀ y : zT, x_mu x b f = y → s_PP none false c_X6_must.2.2.2.2.2 [.ref 0, .int b, .int f] (mdZ s A x) none (mdZ s A y) := fun y hy => ⟨rfl, ⟨rfl, by
    show mdZ s A y = mdR (mdZ s A x) (x_mu (rX (mdZ s A x)) b f)
    rw [zR, zM, hy]⟩, fun h => by cases h⟩
  refine hG 0 _ _ _ (And.intro (fun h => ?_) (fun h => ?_))
  · refine And.intro (fun h2 => ?_) (fun h2 => ?_)
    · have h2 : z_fa x = 0 := h2
      exact fin (u_wr (u_fa x f) (z_fr x)) (by rw [x_mu, if_pos h, if_pos h2])
    · have h2 : ¬ z_fa x = 0 := h2
      exact fin _ (by rw [x_mu, if_pos h, if_neg h2])
  · exact fin _ (by rw [x_mu, if_neg h])
def x_n3 (x : zT) (p u : Nat) (k : Int32) : zT := u_so (u_fr (u_po x (nI p)) (nI u)) k
def x_n1 (ta : Nat → Int32) (ln : Int32) (x : zT) (u : Nat) : zT :=
  if p_mlk ta ln (nI u) < 0 then x_n3 x u u 0
  else if p_rg 97 122 (p_mlk ta ln (nI u)) = 0 then
    (if p_rg 48 57 (p_mlk ta ln (nI u)) = 0 then u_po (x_mu (x_n3 x u u 3) (if p_mlk ta ln (nI u) = 59 then 1 else 0) 1) (nI (u + 1))
     else x_mu (u_va (x_n3 x (p_ru ta ln 48 57 161 u) u 2) (p_mv ta ln u (p_ru ta ln 48 57 161 u - u))) (if 2 < p_ru ta ln 48 57 161 u - u then 0 else 1) 1)
  else x_n3 x (p_ru ta ln 97 122 161 u) u 1
def x_nx (ta : Nat → Int32) (ln : Int32) (x : zT) : zT := if 0 < z_fa x then x else x_n1 ta ln x (p_ru ta ln 32 32 161 (z_po x).toNatClampNeg)
theorem upd_id {s : Nat → Int32} {k : Nat} {v : Int32} (h : s k = v) : upd s k v = s := by rw [← h, upd_I]
theorem p_sub_nI {a b : Nat} (h : b ≤ a) (ha : a < 1000) : nI a - nI b = nI (a - b) := by
  apply Int32.toInt_inj.mp
  rw [pk_sub_toInt (by omega) (by omega), nI_toInt (by omega)]
  omega
theorem x_mu_po (x : zT) (b f : Int32) : z_po (x_mu x b f) = z_po x := by
  unfold x_mu
  split
  · split <;> rfl
  · rfl
def c_X6_next : sCtr := ((yX6_next, cX6_next, 2, none), (7, 0, 1, 25), false,
  mdfp,
  fun vs L => ∃ (s : Nat → Int32) (A : Nat → Nat → Int32) (x : zT) (p t : Nat), vs = [.ref 0] ∧ L = mdZ s A x ∧ z_po x = nI p ∧ p ≤ t ∧ s 15 = nI t ∧ t ≤ 160,
  fun _ L r L' => r = none ∧ L' = mdR L (x_nx (bF L 8) (oI L 0 15) (rX L)))
theorem sta_X6_next : s_Sta c_X6_next := ⟨⟨by decide +kernel, by decide +kernel, by decide +kernel⟩, List.mem_of_getElem? (i := 935) (by decide +kernel), List.mem_of_getElem? (i := 70) (by decide +kernel), ⟨List.mem_of_getElem? (i := 934) (by decide +kernel), List.mem_of_getElem? (i := 29) (by decide +kernel), Or.inl ⟨_, rfl, rfl⟩⟩⟩

def k_X6_next : List sBk := [
  (0, false, [true, false], [o0 0 (.aload_n 0), oN 1 (.getfield 97) [6, 20, 842], oN 4 (.ifCond .le 4) [1], o0 7 .return_]),
  (8, true, [true, false], [o0 8 (.aload_n 0), o0 9 (.aload_n 0), oN 10 (.getfield 106) [6, 16, 838], oC 13 (.invokevirtual 109) [936] c_X6_look, oK 16 (.bipush 32) (.int 32), oN 18 (.if_icmp .ne 16) [2], o0 21 (.aload_n 0), o0 22 .dup, oN 23 (.getfield 106) [6, 16, 838], oK 26 (.iconst 1) (.int 1), o0 27 .iadd, oN 28 (.putfield 106) [6, 16, 838], oN 31 (.goto (-23)) [1]]),
  (34, false, [true, false], [o0 34 (.aload_n 0), o0 35 (.aload_n 0), oN 36 (.getfield 106) [6, 16, 838], oN 39 (.putfield 100) [6, 17, 839], o0 42 (.aload_n 0), o0 43 (.aload_n 0), oN 44 (.getfield 106) [6, 16, 838], oC 47 (.invokevirtual 109) [936] c_X6_look, o0 50 (.istore_n 1), o0 51 (.iload_n 1), oN 52 (.ifCond .ge 11) [3], o0 55 (.aload_n 0), oK 56 (.iconst 0) (.int 0), oN 57 (.putfield 121) [6, 18, 840], oN 60 (.goto 214) [15]]),
  (63, false, [true, true], [o0 63 (.iload_n 1), o0 64 .i2l, oV 65 (.ldc2_w 124) [940] (.long 97), oV 68 (.ldc2_w 126) [941] (.long 122), oC 71 (.invokestatic 90) [921] c_X6_in, oN 74 (.ifCond .eq 42) [5], o0 77 (.aload_n 0), oK 78 (.iconst 1) (.int 1), oN 79 (.putfield 121) [6, 18, 840], oN 82 .nop [4]]),
  (82, true, [true, false], [o0 82 (.aload_n 0), o0 83 (.aload_n 0), oN 84 (.getfield 106) [6, 16, 838], oC 87 (.invokevirtual 109) [936] c_X6_look, o0 90 .i2l, oV 91 (.ldc2_w 124) [940] (.long 97), oV 94 (.ldc2_w 126) [941] (.long 122), oC 97 (.invokestatic 90) [921] c_X6_in, oN 100 (.ifCond .eq 174) [15], o0 103 (.aload_n 0), o0 104 .dup, oN 105 (.getfield 106) [6, 16, 838], oK 108 (.iconst 1) (.int 1), o0 109 .iadd, oN 110 (.putfield 106) [6, 16, 838], oN 113 (.goto (-31)) [4]]),
  (116, false, [true, true], [o0 116 (.iload_n 1), o0 117 .i2l, oV 118 (.ldc2_w 128) [942] (.long 48), oV 121 (.ldc2_w 130) [943] (.long 57), oC 124 (.invokestatic 90) [921] c_X6_in, oN 127 (.ifCond .eq 116) [12], o0 130 (.aload_n 0), oK 131 (.iconst 2) (.int 2), oN 132 (.putfield 121) [6, 18, 840], o0 135 (.aload_n 0), oK 136 (.iconst 0) (.int 0), oN 137 (.putfield 132) [6, 19, 841], oN 140 .nop [6]]),
  (140, true, [true, false], [o0 140 (.aload_n 0), o0 141 (.aload_n 0), oN 142 (.getfield 106) [6, 16, 838], oC 145 (.invokevirtual 109) [936] c_X6_look, o0 148 .i2l, oV 149 (.ldc2_w 128) [942] (.long 48), oV 152 (.ldc2_w 130) [943] (.long 57), oC 155 (.invokestatic 90) [921] c_X6_in, oN 158 (.ifCond .eq 59) [9], o0 161 (.aload_n 0), o0 162 (.aload_n 0), oN 163 (.getfield 106) [6, 16, 838], o0 166 (.aload_n 0), oN 167 (.getfield 100) [6, 17, 839], o0 170 .isub, oK 171 (.iconst 2) (.int 2), oN 172 (.if_icmp .ge 25) [7], oK 175 (.bipush 10) (.int 10), o0 177 (.aload_n 0), oN 178 (.getfield 132) [6, 19, 841], o0 181 .imul, o0 182 (.aload_n 0), o0 183 (.aload_n 0), oN 184 (.getfield 106) [6, 16, 838], oC 187 (.invokevirtual 109) [936] c_X6_look, o0 190 .iadd, oK 191 (.bipush 48) (.int 48), o0 193 .isub, oN 194 (.goto 7) [8]]),
  (197, false, [true, false], [o0 197 (.aload_n 0), oN 198 (.getfield 132) [6, 19, 841], oN 201 .nop [8]]),
  (201, false, [true, false], [oN 201 (.putfield 132) [6, 19, 841], o0 204 (.aload_n 0), o0 205 .dup, oN 206 (.getfield 106) [6, 16, 838], oK 209 (.iconst 1) (.int 1), o0 210 .iadd, oN 211 (.putfield 106) [6, 16, 838], oN 214 (.goto (-74)) [6]]),
  (217, false, [true, false], [o0 217 (.aload_n 0), o0 218 (.aload_n 0), oN 219 (.getfield 106) [6, 16, 838], o0 222 (.aload_n 0), oN 223 (.getfield 100) [6, 17, 839], o0 226 .isub, oK 227 (.iconst 2) (.int 2), oN 228 (.if_icmp .gt 7) [10], oK 231 (.iconst 1) (.int 1), oN 232 (.goto 4) [11]]),
  (235, false, [false, false], [oK 235 (.iconst 0) (.int 0), oN 236 .nop [11]]),
  (236, false, [false, false], [oK 236 (.iconst 1) (.int 1), oC 237 (.invokevirtual 135) [944] c_X6_must, oN 240 (.goto 34) [15]]),
  (243, false, [true, true], [o0 243 (.aload_n 0), oK 244 (.iconst 3) (.int 3), oN 245 (.putfield 121) [6, 18, 840], o0 248 (.aload_n 0), o0 249 (.iload_n 1), oK 250 (.bipush 59) (.int 59), oN 252 (.if_icmp .ne 7) [13], oK 255 (.iconst 1) (.int 1), oN 256 (.goto 4) [14]]),
  (259, false, [true, false], [oK 259 (.iconst 0) (.int 0), oN 260 .nop [14]]),
  (260, false, [true, false], [oK 260 (.iconst 1) (.int 1), oC 261 (.invokevirtual 135) [944] c_X6_must, o0 264 (.aload_n 0), o0 265 .dup, oN 266 (.getfield 106) [6, 16, 838], oK 269 (.iconst 1) (.int 1), o0 270 .iadd, oN 271 (.putfield 106) [6, 16, 838], oN 274 .nop [15]]),
  (274, false, [false, false], [o0 274 .return_])]
set_option maxRecDepth 100000 in
theorem ck_X6_next : s_ck RX6 cX6_next 2 1 25 k_X6_next = true := by decide +kernel

set_option maxRecDepth 100000 in
set_option maxHeartbeats 4000000 in
theorem ok_X6_next : s_Ok c_X6_next := by
  refine s_ok_of k_X6_next (by decide +kernel) sta_X6_next ck_X6_next (And.intro ok_X6_look (And.intro ok_X6_look (And.intro ok_X6_in (And.intro ok_X6_look (And.intro ok_X6_in (And.intro ok_X6_in (And.intro ok_X6_look (And.intro ok_X6_in (And.intro ok_X6_look (And.intro ok_X6_must (And.intro ok_X6_must trivial))))))))))) ?_
  rintro vs L ⟨s, A, x, p0, t, rfl, rfl, hp, hpt, ht, ht2⟩
  refine ⟨rfl, fun G hG => ?_⟩
  have fin : ∀ f : zT, x_nx (A 8) (s 15) x = f → s_PP none false c_X6_next.2.2.2.2.2 [.ref 0] (mdZ s A x) none (mdZ s A f) := fun f hf => ⟨rfl, ⟨rfl, by
    show mdZ s A f = mdR (mdZ s A x) (x_nx (bF (mdZ s A x) 8) (oI (mdZ s A x) 0 15) (rX (mdZ s A x)))
    rw [zR, zM, zB8, zO15, hf]⟩, fun h => by cases h⟩
  refine hG 0 _ _ _ (And.intro (fun h => ?_) (fun h => ?_))
  · have h : 0 < z_fa x := h
    exact fin x (by rw [x_nx, if_pos h])
  have h : ¬ 0 < z_fa x := h
  have hut := p_ru_le (A 8) (t := t) 32 32 (by decide) ht2 161 p0 hpt
  have fin1 : ∀ f : zT, x_n1 (A 8) (nI t) x (p_ru (A 8) (nI t) 32 32 161 p0) = f → s_PP none false c_X6_next.2.2.2.2.2 [.ref 0] (mdZ s A x) none (mdZ s A f) := fun f hf => fin f (by rw [← hf, x_nx, if_neg h, ht, hp, nI_clamp (by omega)])
  obtain ⟨u, hu⟩ : ∃ u, u = p_ru (A 8) (nI t) 32 32 161 p0 := ⟨_, rfl⟩
  rw [← hu] at fin1 hut
  have lkp : ∀ (y : zT) (p : Nat), p ≤ t → ∃ (s' : Nat → Int32) (A' : Nat → Nat → Int32) (i : Int32) (j t : Nat), ([.ref 0, .int (nI p)] : sS) = [.ref 0, .int i] ∧ mdZ s A y = mdW s' A' ∧ i = nI j ∧ j < 1000 ∧ s' 15 = nI t ∧ t ≤ 160 := fun y p hp => ⟨zs s y, zA A y, _, p, t, rfl, mdZ_W s A y, rfl, by omega, ht, ht2⟩
  have loop4 : ∀ (f p : Nat), p ≤ t → t < f + p → p_ru (A 8) (nI t) 97 122 f p = p_ru (A 8) (nI t) 97 122 161 u → ¬ p_mlk (A 8) (nI t) (nI u) < 0 → ¬ p_rg 97 122 (p_mlk (A 8) (nI t) (nI u)) = 0 → G 4 [some (.ref 0), none] [] (mdZ s A (x_n3 x p u 1)) := by
    intro f
    induction f with
    | zero => intro p hpt hf; omega
    | succ f ih =>
      intro p hpt hf hq h1 h2
      refine hG 4 _ _ _ (And.intro (lkp (x_n3 x p u 1) p hpt) ?_)
      intro r hr
      obtain ⟨c, hc⟩ : ∃ c, c = p_mlk (A 8) (nI t) (nI p) := ⟨_, rfl⟩
      obtain rfl : r = some (.int c) := by rw [hc, ← ht]; exact hr
      refine And.intro ⟨_, _, _, rfl⟩ ?_
      intro r hr
      obtain ⟨g, hg⟩ : ∃ g, g = p_rg 97 122 c := ⟨_, rfl⟩
      obtain rfl : r = some (.int g) := by rw [hg, p_rg, ← p_in64_i]; exact hr
      refine And.intro (fun h3 => ?_) (fun h3 => ?_)
      · have h3 : g = 0 := h3
        exact fin1 (x_n3 x p u 1) (by rw [x_n1, if_neg h1, if_neg h2, ← hq, p_ru, ← hc, ← hg, if_pos h3])
      · have h3 : ¬ g = 0 := h3
        have hlt : p < t := by
          rcases Nat.lt_or_ge p t with r | r
          · exact r
          · rw [hg, hc, p_mlk_o ht2 r (by omega)] at h3; exact absurd (p_rg_m1 (by decide)) h3
        have k := ih (p + 1) (by omega) (by omega) (by rw [← hq, p_ru, ← hc, ← hg, if_neg h3]) h1 h2
        rw [x_n3, ← nI_1] at k
        exact k
  have loop6 : ∀ (f p : Nat), u ≤ p → p ≤ t → t < f + p → p_ru (A 8) (nI t) 48 57 f p = p_ru (A 8) (nI t) 48 57 161 u → ¬ p_mlk (A 8) (nI t) (nI u) < 0 → p_rg 97 122 (p_mlk (A 8) (nI t) (nI u)) = 0 → ¬ p_rg 48 57 (p_mlk (A 8) (nI t) (nI u)) = 0 → G 6 [some (.ref 0), none] [] (mdZ s A (u_va (x_n3 x p u 2) (p_mv (A 8) (nI t) u (p - u)))) := by
    intro f
    induction f with
    | zero => intro p hup hpt hf; omega
    | succ f ih =>
      intro p hup hpt hf hq h1 h2 h22
      refine hG 6 _ _ _ (And.intro (lkp (u_va (x_n3 x p u 2) (p_mv (A 8) (nI t) u (p - u))) p hpt) ?_)
      intro r hr
      obtain ⟨c, hc⟩ : ∃ c, c = p_mlk (A 8) (nI t) (nI p) := ⟨_, rfl⟩
      obtain rfl : r = some (.int c) := by rw [hc, ← ht]; exact hr
      refine And.intro ⟨_, _, _, rfl⟩ ?_
      intro r hr
      obtain ⟨g, hg⟩ : ∃ g, g = p_rg 48 57 c := ⟨_, rfl⟩
      obtain rfl : r = some (.int g) := by rw [hg, p_rg, ← p_in64_i]; exact hr
      refine And.intro (fun h3 => ?_) (fun h3 => ?_)
      · have h3 : g = 0 := h3
        have hend : p_ru (A 8) (nI t) 48 57 161 u = p := by rw [← hq, p_ru, ← hc, ← hg, if_pos h3]
        have hq1 : ∀ b : Int32, b = (if 2 < p - u then 0 else 1) → x_n1 (A 8) (nI t) x u = x_mu (u_va (x_n3 x p u 2) (p_mv (A 8) (nI t) u (p - u))) b 1 := by
          intro b hb
          rw [x_n1, if_neg h1, if_pos h2, if_neg h22, hend, hb]
        refine And.intro (fun h4 => ?_) (fun h4 => ?_)
        · have h4 : (2 : Int32) < nI p - nI u := h4
          rw [p_sub_nI hup (by omega), show (2 : Int32) = nI 2 from rfl, nI_ltI (by omega) (by omega)] at h4
          refine And.intro ⟨s, A, u_va (x_n3 x p u 2) (p_mv (A 8) (nI t) u (p - u)), _, _, rfl, rfl⟩ ?_
          rintro r L' ⟨rfl, hL⟩
          replace hL : L' = mdR (mdZ s A (u_va (x_n3 x p u 2) (p_mv (A 8) (nI t) u (p - u)))) (x_mu (rX (mdZ s A (u_va (x_n3 x p u 2) (p_mv (A 8) (nI t) u (p - u))))) (0) (1)) := hL
          rw [zR, zM] at hL
          obtain ⟨y, hy⟩ : ∃ q, q = x_mu (u_va (x_n3 x p u 2) (p_mv (A 8) (nI t) u (p - u))) (0) (1) := ⟨_, rfl⟩
          rw [← hy] at hL
          subst hL
          exact fin1 y (by rw [hy]; exact hq1 0 (by rw [if_pos h4]))
        · have h4 : ¬ (2 : Int32) < nI p - nI u := h4
          rw [p_sub_nI hup (by omega), show (2 : Int32) = nI 2 from rfl, nI_ltI (by omega) (by omega)] at h4
          refine And.intro ⟨s, A, u_va (x_n3 x p u 2) (p_mv (A 8) (nI t) u (p - u)), _, _, rfl, rfl⟩ ?_
          rintro r L' ⟨rfl, hL⟩
          replace hL : L' = mdR (mdZ s A (u_va (x_n3 x p u 2) (p_mv (A 8) (nI t) u (p - u)))) (x_mu (rX (mdZ s A (u_va (x_n3 x p u 2) (p_mv (A 8) (nI t) u (p - u))))) (1) (1)) := hL
          rw [zR, zM] at hL
          obtain ⟨y, hy⟩ : ∃ q, q = x_mu (u_va (x_n3 x p u 2) (p_mv (A 8) (nI t) u (p - u))) (1) (1) := ⟨_, rfl⟩
          rw [← hy] at hL
          subst hL
          exact fin1 y (by rw [hy]; exact hq1 1 (by rw [if_neg h4]))
      · have h3 : ¬ g = 0 := h3
        have hlt : p < t := by
          rcases Nat.lt_or_ge p t with r | r
          · exact r
          · rw [hg, hc, p_mlk_o ht2 r (by omega)] at h3; exact absurd (p_rg_m1 (by decide)) h3
        have k := ih (p + 1) (by omega) (by omega) (by omega) (by rw [← hq, p_ru, ← hc, ← hg, if_neg h3]) h1 h2 h22
        have ep : p + 1 - u = (p - u) + 1 := by omega
        have eu : u + (p - u) = p := by omega
        rw [ep, p_mv, eu, x_n3, ← nI_1] at k
        refine And.intro (fun h4 => ?_) (fun h4 => ?_)
        · have h4 : nI p - nI u < (2 : Int32) := h4
          rw [p_sub_nI hup (by omega), show (2 : Int32) = nI 2 from rfl, nI_ltI (by omega) (by omega)] at h4
          rw [if_pos h4, ← hc] at k
          refine And.intro (lkp (u_va (x_n3 x p u 2) (p_mv (A 8) (nI t) u (p - u))) p hpt) ?_
          intro r hr
          obtain rfl : r = some (.int c) := by rw [hc, ← ht]; exact hr
          exact k
        · have h4 : ¬ nI p - nI u < (2 : Int32) := h4
          rw [p_sub_nI hup (by omega), show (2 : Int32) = nI 2 from rfl, nI_ltI (by omega) (by omega)] at h4
          rw [if_neg h4] at k
          exact k
  have loop1 : ∀ (f p : Nat), p ≤ t → t < f + p → p_ru (A 8) (nI t) 32 32 f p = u → G 1 [some (.ref 0), none] [] (mdZ s A (u_po x (nI p))) := by
    intro f
    induction f with
    | zero => intro p hpt hf; omega
    | succ f ih =>
      intro p hpt hf hq
      refine hG 1 _ _ _ (And.intro (lkp (u_po x (nI p)) p hpt) ?_)
      intro r hr
      obtain ⟨c, hc⟩ : ∃ c, c = p_mlk (A 8) (nI t) (nI p) := ⟨_, rfl⟩
      obtain rfl : r = some (.int c) := by rw [hc, ← ht]; exact hr
      refine And.intro (fun h3 => ?_) (fun h3 => ?_)
      · have h3 : c = 32 := h3
        have h4 : ¬ p_rg 32 32 c = 0 := fun q => (p_rg_1 _ _).mp q h3
        have hlt : p < t := by
          rcases Nat.lt_or_ge p t with r | r
          · exact r
          · rw [hc, p_mlk_o ht2 r (by omega)] at h4; exact absurd (p_rg_m1 (by decide)) h4
        have k := ih (p + 1) (by omega) (by omega) (by rw [← hq, p_ru, ← hc, if_neg h4])
        rw [← nI_1] at k
        exact k
      · have h3 : ¬ c = 32 := h3
        have h4 : p_rg 32 32 c = 0 := (p_rg_1 _ _).mpr h3
        have hpu : p = u := by rw [← hq, p_ru, ← hc, if_pos h4]
        subst hpu
        refine And.intro (lkp (u_fr (u_po x (nI p)) (nI p)) p hpt) ?_
        intro r hr
        obtain rfl : r = some (.int c) := by rw [hc, ← ht]; exact hr
        refine And.intro (fun h5 => ?_) (fun h5 => ?_)
        · have h5 : c < 0 := h5
          exact fin1 (x_n3 x p p 0) (by rw [x_n1, ← hc, if_pos h5])
        have h5 : ¬ c < 0 := h5
        refine And.intro ⟨_, _, _, rfl⟩ ?_
        intro r hr
        obtain ⟨g, hg⟩ : ∃ g, g = p_rg 97 122 c := ⟨_, rfl⟩
        obtain rfl : r = some (.int g) := by rw [hg, p_rg, ← p_in64_i]; exact hr
        rw [hc] at hg h5
        refine And.intro (fun h6 => ?_) (fun h6 => ?_)
        · have h6 : g = 0 := h6
          rw [hg] at h6
          refine And.intro ⟨_, _, _, rfl⟩ ?_
          intro r hr
          obtain ⟨g2, hg2⟩ : ∃ g, g = p_rg 48 57 c := ⟨_, rfl⟩
          obtain rfl : r = some (.int g2) := by rw [hg2, p_rg, ← p_in64_i]; exact hr
          rw [hc] at hg2
          refine And.intro (fun h7 => ?_) (fun h7 => ?_)
          · have h7 : g2 = 0 := h7
            rw [hg2] at h7
            have hq3 : ∀ b : Int32, b = (if c = 59 then 1 else 0) → x_n1 (A 8) (nI t) x p = u_po (x_mu (x_n3 x p p 3) b 1) (z_po (x_mu (x_n3 x p p 3) b 1) + 1) := by
              intro b hb
              rw [x_n1, if_neg h5, if_pos h6, if_pos h7, ← hc, hb, x_mu_po, show z_po (x_n3 x p p 3) = nI p from rfl, nI_1]
            refine And.intro (fun h8 => ?_) (fun h8 => ?_)
            · have h8 : c = 59 := h8
              refine And.intro ⟨s, A, x_n3 x p p 3, _, _, rfl, rfl⟩ ?_
              rintro r L' ⟨rfl, hL⟩
              replace hL : L' = mdR (mdZ s A (x_n3 x p p 3)) (x_mu (rX (mdZ s A (x_n3 x p p 3))) (1) (1)) := hL
              rw [zR, zM] at hL
              obtain ⟨y, hy⟩ : ∃ q, q = x_mu (x_n3 x p p 3) (1) (1) := ⟨_, rfl⟩
              rw [← hy] at hL
              subst hL
              exact fin1 (u_po y (z_po y + 1)) (by rw [hy]; exact hq3 1 (by rw [if_pos h8]))
            · have h8 : ¬ c = 59 := h8
              refine And.intro ⟨s, A, x_n3 x p p 3, _, _, rfl, rfl⟩ ?_
              rintro r L' ⟨rfl, hL⟩
              replace hL : L' = mdR (mdZ s A (x_n3 x p p 3)) (x_mu (rX (mdZ s A (x_n3 x p p 3))) (0) (1)) := hL
              rw [zR, zM] at hL
              obtain ⟨y, hy⟩ : ∃ q, q = x_mu (x_n3 x p p 3) (0) (1) := ⟨_, rfl⟩
              rw [← hy] at hL
              subst hL
              exact fin1 (u_po y (z_po y + 1)) (by rw [hy]; exact hq3 0 (by rw [if_neg h8]))
          · have h7 : ¬ g2 = 0 := h7
            rw [hg2] at h7
            have k := loop6 161 p (Nat.le_refl _) hpt (by omega) rfl h5 h6 h7
            rw [Nat.sub_self] at k
            exact k
        · have h6 : ¬ g = 0 := h6
          rw [hg] at h6
          exact loop4 161 p hpt (by omega) rfl h5 h6
  have k := loop1 161 p0 hpt (by omega) hu.symm
  rw [← hp] at k
  exact k
