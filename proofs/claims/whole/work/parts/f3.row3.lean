/-! ===== class and model: row ===== -/
theorem rg_1017 {z : Int32} (h : ¬ p_rg 10 17 z = 0) : ∃ i : Nat, i < 8 ∧ z - 10 = nI i ∧ ¬ z = 0 := by
  unfold p_rg at h
  by_cases c1 : z < 10
  · rw [if_pos c1] at h; exact absurd rfl h
  rw [if_neg c1] at h
  by_cases c2 : 17 < z
  · rw [if_pos c2] at h; exact absurd rfl h
  have z0 : ¬ z < 0 := fun q => c1 (by
    rw [Int32.lt_iff_toInt_lt] at q ⊢
    have a0 : (0 : Int32).toInt = 0 := rfl
    have a1 : (10 : Int32).toInt = 10 := rfl
    omega)
  obtain ⟨j, hj, rfl⟩ := nI_of z0
  rw [show (10 : Int32) = nI 10 from rfl, nI_ltI hj (by omega)] at c1
  rw [show (17 : Int32) = nI 17 from rfl, nI_ltI (by omega) hj] at c2
  refine ⟨j - 10, by omega, ?_, fun q => ?_⟩
  · have : nI j = nI (j - 10) + nI 10 := by rw [nI_add]; congr 1; omega
    rw [this, show (10 : Int32) = nI 10 from rfl, Int32.add_sub_cancel]
  · have := (nI_0' (by omega)).mp q
    omega
/-- what both sides answer of a row -/
def rowV (AS : Nat → Nat → Int32) (D : Nat → Nat) (n M h0 : Nat) (z v : Int32) : Prop := (¬ D h0 < 1000000 → v = -4) ∧ (D h0 < 1000000 → ∀ gg ww, PA AS D n M h0 (D h0) gg ww → (z = 0 → v = nI (D h0)) ∧ ∀ i, i < 8 → z - 10 = nI i → ¬ z = 0 → v = if i < D h0 then nI (ww i) else -4)
theorem bq0_J {h0 : Nat} {R : Nat → Prop} (h : R h0) : bJ R (p_bq0 h0) := by
  intro x hx
  have hx : ¬ upd (fun _ => -4) h0 8 x = -4 := hx
  by_cases e : x = h0
  · rw [e]; exact h
  · rw [upd, if_neg e] at hx; exact absurd rfl hx
theorem row_m {AS : Nat → Nat → Int32} {LB : Nat → Int32} {p z : Int32} {D : Nat → Nat} {n M h0 : Nat} (hA : gUp AS n M) (hM : M ≤ 256) (hn : n ≤ 8) (hD : DD AS LB p n M D) (hh : h0 < M) : rowV AS D n M h0 z (p_rowA (p_bq AS LB p n 257 0 (p_bq0 h0)) z) := by
  refine ⟨fun c => ?_, fun c gg ww hP => ?_⟩
  · have := hD.2.2.2 h0
    rw [p_rowA, if_pos (bfs_no hA hM hn hD 257 0 (p_bq0 h0) (bWF_0 (by omega)) (bq0_J ⟨hh, by omega⟩))]
  · obtain ⟨N, hN⟩ : ∃ N, N = D h0 := ⟨_, rfl⟩
    rw [← hN] at hP ⊢
    have g0 := hP.1
    have w8 : ∀ t, t < N → ww t < 8 := fun t ht => by have := (hP.2.2 t ht).1.1; omega
    obtain ⟨n1, _, _, n4⟩ := hP.2.1 N (Nat.le_refl N)
    obtain ⟨r, hr, hC⟩ := bfs_go hA hM hn hD hP 257 0 0 0 (p_bq0 h0) (by omega) (Nat.le_refl 0) Nat.one_pos (Nat.zero_le N) g0.symm (bWF_0 (by omega)) (bq0_J ⟨hh, by omega⟩) (fun t ht => by omega) ⟨by rw [g0]; show upd (fun _ => -4) h0 8 h0 = 8; rw [upd_eq], fun t ht => by omega⟩
    rw [hr, p_rowA, if_neg (nI_n4 (by omega))]
    refine ⟨fun z0 => ?_, fun i hi hz hz0 => ?_⟩
    · rw [if_pos z0]
      show nI (p_len r.1 r.2.1 257 (nI (gg N)).toNatClampNeg) = nI N
      rw [nI_clamp (by omega), len_ch w8 hC N 257 (Nat.le_refl N) (by omega)]
    · rw [if_neg hz0, hz]
      show p_fnd r.1 r.2.1 (nI i) 257 (nI (gg N)).toNatClampNeg (nI (p_len r.1 r.2.1 257 (nI (gg N)).toNatClampNeg)) (-4) = _
      rw [nI_clamp (by omega), len_ch w8 hC N 257 (Nat.le_refl N) (by omega), fnd_ch (by omega) (by omega) w8 hC N 257 _ (Nat.le_refl N) (by omega)]
theorem row_c {AS : Nat → Nat → Int32} {LB : Nat → Int32} {p z : Int32} {D : Nat → Nat} {n M h0 : Nat} {mv fo c : Nat → Int32} (hA : gUp AS n M) (hM : M ≤ 256) (hn : n ≤ 8) (hD : DD AS LB p n M D) (hh : h0 < M) (hm : p_mk AS h0 n M h0 = 1) (hK : KC AS D n M h0 mv fo c) : rowV AS D n M h0 z (if z = 0 then kRes c h0 else if kRes c h0 = -4 then -4 else p_wr mv fo c n ((z - 10).toNatClampNeg + 1) (nI h0) (-4)) := by
  have hle := hD.2.2.2 h0
  have ek : kRes c h0 = if D h0 < 1000000 then nI (D h0) else -4 := by
    rw [kRes, (hK h0 hh hm).1]
    by_cases q : D h0 < 1000000
    · rw [if_pos q, if_pos (by rw [show (1000000 : Int32) = nI 1000000 from rfl, nI_ltI (by omega) (by omega)]; exact q)]
    · rw [if_neg q, if_neg (by rw [show (1000000 : Int32) = nI 1000000 from rfl, nI_ltI (by omega) (by omega)]; exact q)]
  refine ⟨fun q => ?_, fun q gg ww hP => ⟨fun z0 => ?_, fun i hi hz hz0 => ?_⟩⟩
  · rw [ek, if_neg q, if_pos rfl]
    split <;> rfl
  · rw [if_pos z0, ek, if_pos q]
  · rw [if_neg hz0, ek, if_pos q, if_neg, hz, nI_clamp (by omega)]
    · have k := wr_sem hA hM hn hD hK hP i 0 (-4) (Nat.zero_le _)
      rw [hP.1, Nat.zero_add] at k
      exact k
    · intro e
      have e2 : (nI (D h0)).toInt = (-4 : Int32).toInt := by rw [e]
      rw [nI_toInt (by omega), show (-4 : Int32).toInt = -4 from rfl] at e2
      omega
theorem rowV_eq {AS : Nat → Nat → Int32} {LB : Nat → Int32} {p z v u : Int32} {D : Nat → Nat} {n M h0 : Nat} (hA : gUp AS n M) (hM : M ≤ 256) (hD : DD AS LB p n M D) (hh : h0 < M) (hm : p_mk AS h0 n M h0 = 1) (hz : z = 0 ∨ ¬ p_rg 10 17 z = 0) (h1 : rowV AS D n M h0 z v) (h2 : rowV AS D n M h0 z u) : v = u := by
  by_cases c : D h0 < 1000000
  · obtain ⟨gg, ww, hP⟩ := PA_of hA hM hD hh c hm
    by_cases z0 : z = 0
    · rw [(h1.2 c gg ww hP).1 z0, (h2.2 c gg ww hP).1 z0]
    · obtain ⟨i, hi, e, _⟩ := rg_1017 (hz.resolve_left z0)
      rw [(h1.2 c gg ww hP).2 i hi e z0, (h2.2 c gg ww hP).2 i hi e z0]
  · rw [h1.1 c, h2.1 c]
theorem mk_h0 {AS : Nat → Nat → Int32} {n N h0 : Nat} (hA : gUp AS n N) (hN : N ≤ 256) (hh : h0 < N) : p_mk AS h0 n N h0 = 1 := aSt_mk hA hN hh 0 (Nat.le_of_lt hh) (by
  rw [p_mk_low _ h0 n h0 (Nat.le_refl h0), upd, if_pos rfl])
theorem pu_row {P n : Nat} {s ms : Nat → Int32} {F A : Nat → Nat → Int32} {p z v : Int32} (h : BR P n s F (A 1)) (hm2 : ms 2 = nI P) (hm : ms 3 = nI n) (hv : q_row (p_AS (F 3) (F 4) (F 5) (s 1).toNatClampNeg (s 3) (s 5) (s 4) (s 2).toNatClampNeg (s 6)) (p_LB (F 3) (F 4) (s 1).toNatClampNeg (s 3) (s 5)) (F 6) (F 2) (s 0) (s 1).toNatClampNeg (s 5).toNatClampNeg p z v) : v = r_mrow ms A p z := by
  have hn := h.1.2.2
  have h28 := p_2le n hn
  obtain ⟨h0, d, l, e1, e2, e3, e4, e5, e6⟩ := md_e h
  have z5 : (s 5).toNatClampNeg = h0 := by rw [h.2.1.2.2.2.1.1, e2, nI_clamp (by omega)]
  have z2 : (s 2).toNatClampNeg = d := by rw [h.2.1.1.1, e4, nI_clamp (by omega)]
  have zm : (A 1 26).toNatClampNeg = h0 := by rw [e2, nI_clamp (by omega)]
  have zd : (A 1 28).toNatClampNeg = d := by rw [e4, nI_clamp (by omega)]
  have zn : (ms 3).toNatClampNeg = n := by rw [hm, nI_clamp (by omega)]
  rw [BRn h, z5, z2, cAS_eq h, cLB_eq h, q_row, h.1.1.1] at hv
  rw [r_mrow, hm2]
  by_cases c : p_in (nI P) p = 0
  · rw [if_pos c]; exact hv.1 c
  rw [if_neg c]
  obtain ⟨v1, v2⟩ := hv.2 c
  have main : (z = 0 ∨ ¬ p_rg 10 17 z = 0) → v = p_rowA (mdBQ ms A p) z := fun hz => by
    obtain ⟨mv, cc, ⟨al, c0, hC, hc⟩, hr⟩ := v2 hz
    have hC : CHt (gAS (A 1) n d (A 1 27)) (gLB (A 1) n) h0 n mv al := hC
    have hA := gAS_up (d := d) (li := A 1 27) h
    have hD := DD_dD (LB := gLB (A 1) n) (p := p) hA h28
    have hbk := bOK_of h e1 e2
    have hK : KC (gAS (A 1) n d (A 1 27)) (dD (gAS (A 1) n d (A 1 27)) (gLB (A 1) n) p (fun _ => 1) n (2 ^ n)) n (2 ^ n) h0 mv (F 6) cc := by
      intro x hx hmx
      have hge := p_mk_ge hA h28 hmx
      refine ⟨?_, fun w hw => ⟨?_, fun b hb e => ?_⟩⟩
      · rw [hc]
        exact lkc_sem (prI := F 2) (pr := fun _ => 1) (z := 0) hbk hA (gAS_ed h) hC (fun w hw => ⟨by decide, by rw [if_pos rfl]; rfl⟩) (2 ^ n - h0) (Nat.le_refl _) x (by omega) hx hmx
      · obtain ⟨u, hu, eu, hb⟩ := ((hC x hge hx).1 hmx).2
        rw [eu]
        exact hb w hw
      · rcases gAS_ed h x w hx hw with q | q
        · rw [q] at e; exact absurd e.symm (nI_n4 (by omega))
        · rw [← e, q, hbk.2.2.2.2.2.2.1 w hw, lt8_orI]
    have hm0 := mk_h0 hA h28 e1
    have r1 := row_c (z := z) hA h28 hn hD e1 hm0 hK
    rw [← hr] at r1
    have r2 := row_m (z := z) hA h28 hn hD e1
    rw [mdBQ, mdAS, mdLB, zm, zd, zn]
    exact rowV_eq hA h28 hD e1 hm0 hz r1 r2
  by_cases z0 : z = 0
  · rw [if_pos z0]; exact main (Or.inl z0)
  rw [if_neg z0]
  by_cases z1 : p_rg 10 17 z = 0
  · rw [if_pos z1]; exact v1 z0 z1
  · rw [if_neg z1]; exact main (Or.inr z1)
