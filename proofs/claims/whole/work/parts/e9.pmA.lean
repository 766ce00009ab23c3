/-! ===== class and model: rows, all but row itself ===== -/
theorem AS_cg {on on' nd nd' cl cl' : Nat → Int32} {n : Nat} (h1 : ∀ i, i < n → on i = on' i) (h2 : ∀ i, i < n → nd i = nd' i) (h3 : ∀ i, i < n → cl i = cl' i) (l0 h0 ba : Int32) (d : Nat) (li : Int32) : p_AS on nd cl n l0 h0 ba d li = p_AS on' nd' cl' n l0 h0 ba d li := by
  funext h w
  unfold p_AS p_as p_lb
  simp only [re_cg h1 h2 h3, ga_cg h1, fw_cg h2]
theorem LB_cg {on on' nd nd' : Nat → Int32} {n : Nat} (h1 : ∀ i, i < n → on i = on' i) (h2 : ∀ i, i < n → nd i = nd' i) (l0 h0 : Int32) : p_LB on nd n l0 h0 = p_LB on' nd' n l0 h0 := by
  funext h
  unfold p_LB p_lb
  rw [fw_cg h2, ga_cg h1]
theorem foN_cg {nd nd' : Nat → Int32} {n : Nat} (h : ∀ i, i < n → nd i = nd' i) (w : Nat) : foN nd n w = foN nd' n w := by
  rw [foN, foN]
  exact fwN_cg (tn_cg h) _
theorem bOK_of {P n h0 : Nat} {s g : Nat → Int32} {F : Nat → Nat → Int32} (h : BR P n s F g) (hh : h0 < 2 ^ n) (e : g 26 = nI h0) : bOK s F n h0 := by
  have hn := h.1.2.2
  have hF : ∀ w, w < n → F 6 w = nI (foN (F 4) n w) := fun w hw => by
    rw [BR6 h w hw, foN_cg (BR4 h)]
    exact fo_nI hn (BRnd h) hw
  refine ⟨h.1.2.1, hn, by rw [h.2.1.2.2.2.1.1, e], hh, fun w hw => by rw [BR4 h w hw]; exact BRnd h w hw, fun w hw => by rw [BR3 h w hw]; exact BRon h w hw, hF, fun w hw => ?_⟩
  rw [BR7 h w hw, p_mwa, ← hF w hw, BR6 h w hw, ga_cg (BR3 h)]
/-- the class's graph is the model's -/
theorem cAS_eq {P n : Nat} {s g : Nat → Int32} {F : Nat → Nat → Int32} (h : BR P n s F g) (d : Nat) : p_AS (F 3) (F 4) (F 5) n (s 3) (s 5) (s 4) d (s 6) = p_AS (fun i => g (2 + i)) (fun i => g (10 + i)) (fun i => g (18 + i)) n (g 0) (g 26) (g 1) d (g 27) := by
  rw [AS_cg (BR3 h) (BR4 h) (BR5 h), h.2.1.2.1.1, h.2.1.2.2.1.1, h.2.1.2.2.2.1.1, h.2.1.2.2.2.2.1]
theorem cLB_eq {P n : Nat} {s g : Nat → Int32} {F : Nat → Nat → Int32} (h : BR P n s F g) : p_LB (F 3) (F 4) n (s 3) (s 5) = p_LB (fun i => g (2 + i)) (fun i => g (10 + i)) n (g 0) (g 26) := by
  rw [LB_cg (BR3 h) (BR4 h), h.2.1.2.1.1, h.2.1.2.2.2.1.1]
/-- prices are digits, and the same on both sides -/
def Bq (n : Nat) (f g : Nat → Int32) : Prop := ∀ i, i < n → f i = g i ∧ ∃ q : Nat, q ≤ 9 ∧ g i = nI q
def tq (f : Nat → Int32) : Nat → Nat := fun w => (f w).toNatClampNeg
theorem Bq_q {n : Nat} {f g : Nat → Int32} (h : Bq n f g) : ∀ w, w < n → tq g w ≤ 9 ∧ g w = nI (tq g w) := fun w hw => by
  obtain ⟨_, q, h1, h2⟩ := h w hw
  have : tq g w = q := by rw [tq, h2, nI_clamp (by omega)]
  rw [this]
  exact ⟨h1, h2⟩
theorem fc_cg {AS : Nat → Nat → Int32} {pr pr' : Nat → Int32} {h0 n : Nat} (h : ∀ i, i < n → pr i = pr' i) : ∀ k, p_fc AS pr h0 n k = p_fc AS pr' h0 n k := by
  have hI : ∀ a g k, k ≤ n → p_fcI AS pr a g k = p_fcI AS pr' a g k := by
    intro a g k
    induction k with
    | zero => intro _; rfl
    | succ k ih => intro hk; rw [p_fcI, p_fcI, ih (by omega)]; unfold p_fcS; rw [h k (by omega)]
  intro k
  induction k with
  | zero => rfl
  | succ k ih => rw [p_fc, p_fc, ih, hI _ _ n (Nat.le_refl n)]
theorem md_e {P n : Nat} {s : Nat → Int32} {F A : Nat → Nat → Int32} (h : BR P n s F (A 1)) : ∃ h0 d l : Nat, h0 < 2 ^ n ∧ A 1 26 = nI h0 ∧ d ≤ 8 ∧ A 1 28 = nI d ∧ l < 2 ^ n ∧ A 1 27 = nI l := by
  obtain ⟨h0, a1, a2⟩ := h.2.1.2.2.2.1.2
  obtain ⟨d, b1, b2⟩ := h.2.1.1.2
  obtain ⟨l, c1, c2⟩ := h.2.1.2.2.2.2.2
  exact ⟨h0, d, l, a1, a2, b1, b2, c1, c2⟩
/-- the model's graph -/
def gAS (g : Nat → Int32) (n d : Nat) (li : Int32) : Nat → Nat → Int32 := p_AS (fun i => g (2 + i)) (fun i => g (10 + i)) (fun i => g (18 + i)) n (g 0) (g 26) (g 1) d li
def gLB (g : Nat → Int32) (n : Nat) : Nat → Int32 := p_LB (fun i => g (2 + i)) (fun i => g (10 + i)) n (g 0) (g 26)
theorem gAS_up {P n d : Nat} {s g : Nat → Int32} {F : Nat → Nat → Int32} {li : Int32} (h : BR P n s F g) : gUp (gAS g n d li) n (2 ^ n) := AS_up h.1.2.2 (BRnd h)
theorem gAS_ed {P n d : Nat} {s g : Nat → Int32} {F : Nat → Nat → Int32} {li : Int32} (h : BR P n s F g) : gEd (gAS g n d li) (F 4) n := by
  intro a w ha hw
  rw [foN_cg (BR4 h)]
  exact AS_ed h.1.2.2 (BRnd h) a w ha hw
theorem pu_all {P n : Nat} {s ms : Nat → Int32} {F A : Nat → Nat → Int32} {v : Int32} (h : BR P n s F (A 1)) (hp : Bq n (F 2) (A 4)) (hm : ms 3 = nI n) (hv : q_all s F (s 1).toNatClampNeg (s 5).toNatClampNeg (s 2).toNatClampNeg v) : v = r_mal ms A := by
  have hn := h.1.2.2
  have h28 := p_2le n hn
  obtain ⟨h0, d, l, e1, e2, e3, e4, e5, e6⟩ := md_e h
  have z5 : (s 5).toNatClampNeg = h0 := by rw [h.2.1.2.2.2.1.1, e2, nI_clamp (by omega)]
  have z2 : (s 2).toNatClampNeg = d := by rw [h.2.1.1.1, e4, nI_clamp (by omega)]
  have zm : (A 1 26).toNatClampNeg = h0 := by rw [e2, nI_clamp (by omega)]
  have zd : (A 1 28).toNatClampNeg = d := by rw [e4, nI_clamp (by omega)]
  have zn : (ms 3).toNatClampNeg = n := by rw [hm, nI_clamp (by omega)]
  rw [BRn h, z5, z2] at hv
  obtain ⟨mv, al, hC, rfl⟩ := hv
  have hC : CHt (gAS (A 1) n d (A 1 27)) (gLB (A 1) n) h0 n mv al := by
    rw [kAS, cAS_eq h, kLB, cLB_eq h] at hC
    exact hC
  have hfc := fc_all (AS := gAS (A 1) n d (A 1 27)) (pr := A 4) (gAS_up h) h28 e1 (fun w hw => (hp w hw).2)
  rw [r_mal, mdAS, mdLB, zm, zd, zn]
  exact all_eq (gAS_up h) h28 e1 hC hfc
theorem pu_cheap {P n : Nat} {s ms : Nat → Int32} {F A : Nat → Nat → Int32} {p v : Int32} (h : BR P n s F (A 1)) (hp : Bq n (F 2) (A 4)) (hm2 : ms 2 = nI P) (hm : ms 3 = nI n) (hv : q_chp s F (s 1).toNatClampNeg (s 5).toNatClampNeg (s 2).toNatClampNeg p v) : v = r_mch ms A p := by
  have hn := h.1.2.2
  have h28 := p_2le n hn
  obtain ⟨h0, d, l, e1, e2, e3, e4, e5, e6⟩ := md_e h
  have z5 : (s 5).toNatClampNeg = h0 := by rw [h.2.1.2.2.2.1.1, e2, nI_clamp (by omega)]
  have z2 : (s 2).toNatClampNeg = d := by rw [h.2.1.1.1, e4, nI_clamp (by omega)]
  have zm : (A 1 26).toNatClampNeg = h0 := by rw [e2, nI_clamp (by omega)]
  have zd : (A 1 28).toNatClampNeg = d := by rw [e4, nI_clamp (by omega)]
  have zn : (ms 3).toNatClampNeg = n := by rw [hm, nI_clamp (by omega)]
  rw [BRn h, z5, z2, q_chp, h.1.1.1] at hv
  rw [r_mch, hm2]
  by_cases c : p_in (nI P) p = 0
  · rw [if_pos c]; exact hv.1 c
  rw [if_neg c]
  obtain ⟨mv, c1, ⟨al, c0, hC, hc⟩, hr⟩ := hv.2 c
  have hC : CHt (gAS (A 1) n d (A 1 27)) (gLB (A 1) n) h0 n mv al := by
    rw [kAS, cAS_eq h, kLB, cLB_eq h] at hC
    exact hC
  have hq : Bq n (F 2) (F 2) := fun w hw => ⟨rfl, by rw [(hp w hw).1]; exact (hp w hw).2⟩
  have hpr : ∀ w, w < n → tq (F 2) w ≤ 9 ∧ (if (1 : Int32) = 0 then 1 else F 2 w) = nI (tq (F 2) w) := fun w hw => by
    rw [if_neg d10]; exact Bq_q hq w hw
  have h1 : p_mk (gAS (A 1) n d (A 1 27)) h0 n (2 ^ n) h0 = 1 := aSt_mk (gAS_up h) h28 e1 0 (Nat.le_of_lt e1) (by
    rw [p_mk_low _ h0 n h0 (Nat.le_refl h0), upd, if_pos rfl])
  have k := lkc_sem (p := p) (z := 1) (c0 := c0) (bOK_of h e1 e2) (gAS_up h) (gAS_ed h) hC hpr (2 ^ n - h0) (Nat.le_refl _) h0 (by omega) e1 h1
  rw [← hc] at k
  rw [hr, kRes, k, mdCO, mdAS, mdLB, zm, zd, zn]
  have ce := cheap_eq (LB := gLB (A 1) n) (p := p) (prI := F 2) (gAS_up h (d := d) (li := A 1 27)) h28 e1 (Bq_q hq)
  rw [← ce, p_cO, p_cO, fc_cg (fun i hi => (hp i hi).1)]
  rfl
theorem dp_eqB {c k : Nat → Int32} : ∀ f d, (∀ e, e < d + f → (c e = -4 ↔ k e = 0)) → p_dpF c f d = p_dpZ k f d
  | 0, _, _ => rfl
  | f + 1, d, h => by
    rw [p_dpF, p_dpZ, dp_eqB f (d + 1) (fun e he => h e (by omega))]
    by_cases q : k d = 0
    · rw [if_pos q, if_pos ((h d (by omega)).mpr q)]
    · rw [if_neg q, if_neg (fun x => q ((h d (by omega)).mp x))]
theorem kAny_0 {P n d h0 : Nat} {s g : Nat → Int32} {F : Nat → Nat → Int32} {li p : Int32} {pr : Nat → Int32} (h : BR P n s F g) (hh : h0 < 2 ^ n) (e : g 26 = nI h0) (hp : ∀ w, w < n → ∃ q : Nat, q ≤ 9 ∧ pr w = nI q) : p_cO (gAS g n d li) pr (gLB g n) h0 n p = -4 ↔ kAny (fun d => gAS g n d li) (gLB g n) n h0 p d 0 = 0 := by
  have k := deep_eq (on := fun i => g (2 + i)) (cl := fun i => g (18 + i)) (d := d) (l0 := g 0) (ba := g 1) (li := li) (p := p) h.1.2.2 (BRnd h) hh hp
  rw [← e] at k
  exact k
theorem pu_deep {P n : Nat} {s ms : Nat → Int32} {F A : Nat → Nat → Int32} {p v : Int32} (h : BR P n s F (A 1)) (hp : Bq n (F 2) (A 4)) (hm2 : ms 2 = nI P) (hm : ms 3 = nI n) (hv : q_dpc (fun d => p_AS (F 3) (F 4) (F 5) (s 1).toNatClampNeg (s 3) (s 5) (s 4) d (s 6)) (p_LB (F 3) (F 4) (s 1).toNatClampNeg (s 3) (s 5)) (s 0) (s 3) (s 1).toNatClampNeg (s 5).toNatClampNeg p v) : v = r_mdp ms A p := by
  have hn := h.1.2.2
  have h28 := p_2le n hn
  obtain ⟨h0, d, l, e1, e2, e3, e4, e5, e6⟩ := md_e h
  have z5 : (s 5).toNatClampNeg = h0 := by rw [h.2.1.2.2.2.1.1, e2, nI_clamp (by omega)]
  have zm : (A 1 26).toNatClampNeg = h0 := by rw [e2, nI_clamp (by omega)]
  have zn : (ms 3).toNatClampNeg = n := by rw [hm, nI_clamp (by omega)]
  have ea : (fun d => p_AS (F 3) (F 4) (F 5) n (s 3) (s 5) (s 4) d (s 6)) = fun d => gAS (A 1) n d (A 1 27) := funext (fun d => cAS_eq h d)
  rw [BRn h, z5, ea, cLB_eq h, q_dpc, h.1.1.1, h.2.1.2.1.1] at hv
  rw [r_mdp, hm2]
  by_cases c : p_in (nI P) p = 0
  · rw [if_pos c]; exact hv.1 c
  rw [if_neg c]
  by_cases c2 : p_hb (A 1 0) p = 0
  rotate_left
  · rw [if_neg c2]; exact (hv.2 c).1 c2
  rw [if_pos c2, (hv.2 c).2 c2]
  refine (dp_eqB 9 0 (fun e he => ?_)).symm
  show mdCO ms A p (nI e) (A 1 27) = -4 ↔ _
  rw [mdCO, mdAS, mdLB, zm, zn, nI_clamp (by omega)]
  exact kAny_0 h e1 e2 (fun w hw => (hp w hw).2)
