/-! ===== class and model: dates ===== -/
def cD (ye nd : Nat → Int32) (n : Nat) : Nat → Nat → Int32
  | 0, _ => 0
  | k + 1, v => ye v + p_la (cD ye nd n k) (nd v) n
theorem la_cg {d d' : Nat → Int32} {g : Int32} : ∀ n, (∀ u, u < n → ¬ p_hb g (nI u) = 0 → d u = d' u) → p_la d g n = p_la d' g n
  | 0, _ => rfl
  | n + 1, h => by
    rw [p_la, p_la, la_cg n (fun u hu => h u (by omega))]
    by_cases c : p_hb g (nI n) = 0
    · rw [if_pos c, if_pos c]
    · rw [if_neg c, if_neg c, h n (by omega) c]
theorem mdl_la (d : Nat → Int32) (g : Int32) : ∀ n, p_mdl d g n = p_la d g n
  | 0 => rfl
  | n + 1 => by rw [p_mdl, p_la, mdl_la d g n]
/-- what stands below a wish -/
def clN (nd : Nat → Int32) (n v : Nat) : Nat := fwN (tn nd) n (tn nd v)
/-- the wishes of G need each other without a round -/
def Acy (nd : Nat → Int32) (n G : Nat) : Prop := (∀ w, w < n → ltn n (nd w)) ∧ G < 2 ^ n ∧ sub8 (gaN (tn nd) n G) G ∧ ∀ v, v < n → G.testBit v = true → ¬ (clN nd n v).testBit v = true
theorem sub_dN {a b : Nat} (ha : a < 256) (h : sub8 a b) : dN a b = 0 := by
  apply Nat.eq_of_testBit_eq
  intro i
  rw [Nat.zero_testBit]
  cases hb : (dN a b).testBit i with
  | true => exact absurd (h i ((dN_bit ha i).mp hb).1) ((dN_bit ha i).mp hb).2
  | false => rfl
theorem ac_down {nd : Nat → Int32} {n G u v : Nat} (hn : n ≤ 8) (h : Acy nd n G) (hv : v < n) (hG : G.testBit v = true) (hu : u < n) (huv : ¬ p_hb (nd v) (nI u) = 0) : G.testBit u = true ∧ bN (clN nd n u) < bN (clN nd n v) := by
  obtain ⟨h1, h2, h3, h4⟩ := h
  have h28 := p_2le n hn
  have hl : ∀ w, w < n → tn nd w < 2 ^ n := fun w hw => (tn_e hn (h1 w hw)).2
  have hv2 := hl v hv
  have hu2 := hl u hu
  have hb : (tn nd v).testBit u = true := by
    rw [(tn_e hn (h1 v hv)).1, hb_nI _ (by omega) u (by omega)] at huv
    by_cases c : (tn nd v).testBit u = true
    · exact c
    · rw [if_neg c] at huv; exact absurd rfl huv
  have hGu : G.testBit u = true := h3 u ((gaN_bit _ _ _ _).mpr ⟨v, hv, hG, hb⟩)
  have hin : (clN nd n v).testBit u = true := itN_sup (tn nd) n (tn nd v) 8 u hb
  have hcv : clN nd n v < 2 ^ n := fwN_lt hl hv2
  have hcu : clN nd n u < 2 ^ n := fwN_lt hl hu2
  have hsub : sub8 (clN nd n u) (clN nd n v) := fwN_in hn hl hv2 (fun i hi => fwN_cl hn hl hv2 i ((gaN_bit _ _ _ _).mpr ⟨u, hu, hin, hi⟩))
  refine ⟨hGu, (bN_sub _ (by omega) _ (by omega) (sub_dN (by omega) hsub)).resolve_left (fun q => ?_)⟩
  exact h4 u hu hGu (by rw [q]; exact hin)
theorem bN_full : ∀ n, n ≤ 8 → bN (2 ^ n - 1) = n ∧ 2 ^ n - 1 < 256 := by decide +kernel
theorem ac_n {nd : Nat → Int32} {n G v : Nat} (hn : n ≤ 8) (h : Acy nd n G) (hv : v < n) (hG : G.testBit v = true) : bN (clN nd n v) < n := by
  obtain ⟨h1, h2, h3, h4⟩ := h
  have h28 := p_2le n hn
  have hl : ∀ w, w < n → tn nd w < 2 ^ n := fun w hw => (tn_e hn (h1 w hw)).2
  have hcv : clN nd n v < 2 ^ n := fwN_lt hl (hl v hv)
  obtain ⟨f1, f2⟩ := bN_full n hn
  have hsub : sub8 (clN nd n v) (2 ^ n - 1) := fun i hi => by
    rw [Nat.testBit_two_pow_sub_one]
    exact decide_eq_true (bit_lt hcv hi)
  have := (bN_sub _ (by omega) _ f2 (sub_dN (by omega) hsub)).resolve_left (fun q => h4 v hv hG (by
    rw [q, Nat.testBit_two_pow_sub_one]
    exact decide_eq_true hv))
  omega
theorem cD_st {ye nd : Nat → Int32} {n G : Nat} (hn : n ≤ 8) (h : Acy nd n G) : ∀ k v, v < n → G.testBit v = true → bN (clN nd n v) < k → ∀ k', k ≤ k' → cD ye nd n k' v = cD ye nd n k v
  | 0, v, _, _, hb, _, _ => by omega
  | k + 1, v, hv, hG, hb, k', hk => by
    obtain ⟨k2, rfl⟩ : ∃ k2, k' = k2 + 1 := ⟨k' - 1, by omega⟩
    rw [cD, cD, la_cg n (fun u hu q => ?_)]
    obtain ⟨a1, a2⟩ := ac_down hn h hv hG hu q
    exact cD_st hn h k u hu a1 (by omega) k2 (by omega)
theorem cD_step {ye nd : Nat → Int32} {n G v t : Nat} {d : Nat → Int32} (hn : n ≤ 8) (h : Acy nd n G) (hv : v < n) (hG : G.testBit v = true) (ht : bN (clN nd n v) < t + 1) (hd : ∀ u, u < n → G.testBit u = true → bN (clN nd n u) < t → d u = cD ye nd n 8 u) : ye v + p_la d (nd v) n = cD ye nd n 8 v := by
  rw [la_cg (d' := cD ye nd n 8) n (fun u hu q => ?_)]
  · have := cD_st (ye := ye) hn h 8 v hv hG (by have := ac_n hn h hv hG; omega) 9 (by decide)
    rw [cD] at this
    exact this
  · obtain ⟨a1, a2⟩ := ac_down hn h hv hG hu q
    exact hd u hu a1 (by omega)
theorem hbG {G i : Nat} (hG : G < 256) (hi : i < 8) : ¬ p_hb (nI G) (nI i) = 0 ↔ G.testBit i = true := by
  rw [hb_nI G hG i hi]
  by_cases c : G.testBit i = true
  · rw [if_pos c]; exact ⟨fun _ => c, fun _ => d10⟩
  · rw [if_neg c]; exact ⟨fun q => absurd rfl q, fun q => absurd q c⟩
theorem dr_ok {ye nd : Nat → Int32} {n G t : Nat} {d : Nat → Int32} (hn : n ≤ 8) (h : Acy nd n G) (hd : ∀ u, u < n → G.testBit u = true → bN (clN nd n u) < t → d u = cD ye nd n 8 u) : ∀ i, i ≤ n → ∀ v, v < n → G.testBit v = true → (bN (clN nd n v) < t ∨ (v < i ∧ bN (clN nd n v) < t + 1)) → p_dr ye nd n (nI G) d i v = cD ye nd n 8 v
  | 0, _, v, hv, hG, hc => by
    rcases hc with c | c
    · exact hd v hv hG c
    · omega
  | i + 1, hi, v, hv, hG, hc => by
    have h28 := p_2le n hn
    have hG8 : G < 256 := by have := h.2.1; omega
    have ih := dr_ok hn h hd i (by omega)
    rw [p_dr]
    by_cases c : p_hb (nI G) (nI i) = 0
    · rw [if_pos c]
      refine ih v hv hG (hc.imp id (fun q => ⟨?_, q.2⟩))
      have : v ≠ i := fun e => (hbG hG8 (by omega)).mpr (by rw [← e]; exact hG) c
      omega
    · rw [if_neg c]
      by_cases e : v = i
      · subst e
        rw [upd_eq]
        exact cD_step hn h hv hG (t := t) (by omega) (fun u hu hGu hb => ih u hu hGu (Or.inl hb))
      · rw [upd_ne e]
        exact ih v hv hG (hc.imp id (fun q => ⟨by omega, q.2⟩))
theorem dt_ok {ye nd : Nat → Int32} {n G : Nat} {d : Nat → Int32} (hn : n ≤ 8) (h : Acy nd n G) : ∀ t v, v < n → G.testBit v = true → bN (clN nd n v) < t → p_dt ye nd n (nI G) d t v = cD ye nd n 8 v
  | 0, v, _, _, hb => by omega
  | t + 1, v, hv, hG, hb => by
    rw [p_dt]
    exact dr_ok hn h (fun u hu hGu hb => dt_ok hn h t u hu hGu hb) n (Nat.le_refl n) v hv hG (Or.inr ⟨hv, hb⟩)
theorem md1_ok {ye nd : Nat → Int32} {n G t : Nat} {d : Nat → Int32} (hn : n ≤ 8) (h : Acy nd n G) (hd : ∀ u, u < n → G.testBit u = true → bN (clN nd n u) < t → d u = cD ye nd n 8 u) : ∀ i, i ≤ n → ∀ v, v < n → G.testBit v = true → (bN (clN nd n v) < t ∨ (v < i ∧ bN (clN nd n v) < t + 1)) → p_md1 ye nd (nI G) n d i v = cD ye nd n 8 v
  | 0, _, v, hv, hG, hc => by
    rcases hc with c | c
    · exact hd v hv hG c
    · omega
  | i + 1, hi, v, hv, hG, hc => by
    have h28 := p_2le n hn
    have hG8 : G < 256 := by have := h.2.1; omega
    have ih := md1_ok hn h hd i (by omega)
    rw [p_md1, mdl_la]
    by_cases e : v = i
    · subst e
      rw [upd_eq, if_neg ((hbG hG8 (by omega)).mpr hG)]
      exact cD_step hn h hv hG (t := t) (by omega) (fun u hu hGu hb => ih u hu hGu (Or.inl hb))
    · rw [upd_ne e]
      exact ih v hv hG (hc.imp id (fun q => ⟨by omega, q.2⟩))
theorem mdr_ok {ye nd : Nat → Int32} {n G : Nat} {d : Nat → Int32} (hn : n ≤ 8) (h : Acy nd n G) : ∀ t v, v < n → G.testBit v = true → bN (clN nd n v) < t → p_mdr ye nd (nI G) n d t v = cD ye nd n 8 v
  | 0, v, _, _, hb => by omega
  | t + 1, v, hv, hG, hb => by
    rw [p_mdr]
    exact md1_ok hn h (fun u hu hGu hb => mdr_ok hn h t u hu hGu hb) n (Nat.le_refl n) v hv hG (Or.inr ⟨hv, hb⟩)
theorem cD_cg {ye ye' nd nd' : Nat → Int32} {n : Nat} (h1 : ∀ i, i < n → ye i = ye' i) (h2 : ∀ i, i < n → nd i = nd' i) : ∀ k v, v < n → cD ye nd n k v = cD ye' nd' n k v
  | 0, _, _ => rfl
  | k + 1, v, hv => by rw [cD, cD, h1 v hv, h2 v hv, la_cg n (fun u hu _ => cD_cg h1 h2 k u hu)]
theorem rd_iff {nd fo : Nat → Int32} {n : Nat} {g : Int32} : ∀ k, p_rd nd fo n g k = true ↔ ∃ i, i < k ∧ ¬ p_hb g (nI i) = 0 ∧ ¬ p_hb (p_ga fo n (nd i)) (nI i) = 0
  | 0 => by
    constructor
    · intro q; exact absurd q (by rw [p_rd]; decide)
    · rintro ⟨i, hi, _⟩; omega
  | k + 1 => by
    rw [p_rd, Bool.or_eq_true, rd_iff k, Bool.and_eq_true]
    constructor
    · rintro (⟨i, h1, h2⟩ | ⟨h1, h2⟩)
      · exact ⟨i, by omega, h2⟩
      · exact ⟨k, by omega, by simpa using h1, by simpa using h2⟩
    · rintro ⟨i, h1, h2, h3⟩
      rcases Nat.lt_or_eq_of_le (Nat.le_of_lt_succ h1) with q | q
      · exact Or.inl ⟨i, q, h2, h3⟩
      · subst q
        exact Or.inr ⟨by simpa using h2, by simpa using h3⟩
theorem mdg_iff {st : Nat → Int32} {n : Nat} {g : Int32} : ∀ r i, ¬ p_mdg st n g r i = 0 ↔ ∃ j, i ≤ j ∧ j < i + r ∧ ¬ p_hb g (nI j) = 0 ∧ ¬ p_mgo st n (nI j) = 0
  | 0, i => ⟨fun q => absurd rfl q, fun ⟨j, h1, h2, _⟩ => by omega⟩
  | r + 1, i => by
    have ih := mdg_iff (st := st) (n := n) (g := g) r (i + 1)
    rw [p_mdg]
    have up : (¬ p_hb g (nI i) = 0 → p_mgo st n (nI i) = 0) → ((∃ j, i + 1 ≤ j ∧ j < i + 1 + r ∧ ¬ p_hb g (nI j) = 0 ∧ ¬ p_mgo st n (nI j) = 0) ↔ ∃ j, i ≤ j ∧ j < i + (r + 1) ∧ ¬ p_hb g (nI j) = 0 ∧ ¬ p_mgo st n (nI j) = 0) := by
      intro hi
      constructor
      · rintro ⟨j, h1, h2, h3⟩
        exact ⟨j, by omega, by omega, h3⟩
      · rintro ⟨j, h1, h2, h3, h4⟩
        refine ⟨j, ?_, by omega, h3, h4⟩
        have : j ≠ i := fun e => h4 (by rw [e]; exact hi (by rw [← e]; exact h3))
        omega
    by_cases c : p_hb g (nI i) = 0
    · rw [if_pos c, ih]
      exact up (fun q => absurd c q)
    · rw [if_neg c]
      by_cases c2 : p_mgo st n (nI i) = 0
      · rw [if_pos c2, ih]
        exact up (fun _ => c2)
      · rw [if_neg c2]
        exact ⟨fun _ => ⟨i, Nat.le_refl i, by omega, c, c2⟩, fun _ => d10⟩
theorem gaN_cg {f f' : Nat → Nat} {n : Nat} (h : ∀ i, i < n → f i = f' i) (g : Nat) : gaN f n g = gaN f' n g := by
  apply Nat.eq_of_testBit_eq
  intro i
  have k1 := gaN_bit f g i n
  have k2 := gaN_bit f' g i n
  have : (gaN f n g).testBit i = true ↔ (gaN f' n g).testBit i = true := by
    rw [k1, k2]
    constructor
    · rintro ⟨w, h1, h2, h3⟩
      exact ⟨w, h1, h2, by rw [← h w h1]; exact h3⟩
    · rintro ⟨w, h1, h2, h3⟩
      exact ⟨w, h1, h2, by rw [h w h1]; exact h3⟩
  exact Bool.eq_iff_iff.mpr this
theorem itN_cg {f f' : Nat → Nat} {n : Nat} (h : ∀ i, i < n → f i = f' i) (g : Nat) : ∀ k, itN f n g k = itN f' n g k
  | 0 => rfl
  | k + 1 => by rw [itN, itN, itN_cg h g k, gaN_cg h]
theorem fwN_cg {f f' : Nat → Nat} {n : Nat} (h : ∀ i, i < n → f i = f' i) (g : Nat) : fwN f n g = fwN f' n g := by
  unfold fwN
  exact itN_cg h g 8
theorem tn_cg {nd nd' : Nat → Int32} {n : Nat} (h : ∀ i, i < n → nd i = nd' i) : ∀ i, i < n → tn nd i = tn nd' i := fun i hi => by rw [tn, tn, h i hi]
theorem clN_cg {nd nd' : Nat → Int32} {n v : Nat} (h : ∀ i, i < n → nd i = nd' i) (hv : v < n) : clN nd n v = clN nd' n v := by
  rw [clN, clN, tn_cg h v hv]
  exact fwN_cg (tn_cg h) _
theorem ac_cg {nd nd' : Nat → Int32} {n G : Nat} (h : ∀ i, i < n → nd i = nd' i) (hA : Acy nd' n G) : Acy nd n G := by
  obtain ⟨a1, a2, a3, a4⟩ := hA
  refine ⟨fun i hi => by rw [h i hi]; exact a1 i hi, a2, ?_, fun v hv hGv => ?_⟩
  · rw [gaN_cg (tn_cg h)]; exact a3
  · rw [clN_cg h hv]; exact a4 v hv hGv
theorem ac_of {P n j G : Nat} {s st : Nat → Int32} {F : Nat → Nat → Int32} (h : BR P n s F st) (hj : j < n) (hGe : G = foN (fun i => st (10 + i)) n j) (hf : G < 2 ^ n) (c2 : p_mdg st n (nI G) n 0 = 0) : Acy (fun i => st (10 + i)) n G := by
  have hn := h.1.2.2
  have h28 := p_2le n hn
  have hl : ∀ w, w < n → tn (fun i => st (10 + i)) w < 2 ^ n := fun w hw => (tn_e hn (BRnd h w hw)).2
  refine ⟨BRnd h, hf, ?_, fun v hv hGv hcl => ?_⟩
  · rw [hGe]; exact fwN_cl hn hl (Nat.pow_lt_pow_right (by decide) hj)
  · refine (mdg_iff n 0).mpr ⟨v, Nat.zero_le v, by omega, (hbG (by omega) (by omega)).mpr hGv, ?_⟩ c2
    have e4 : st (10 + v) = nI (tn (fun i => st (10 + i)) v) := (tn_e hn (BRnd h v hv)).1
    have hlt := fwN_lt hl (hl v hv)
    rw [p_mgo, nI_clamp (by omega), e4, fw_nI hn (BRnd h) (hl v hv)]
    exact (hbG (by omega) (by omega)).mpr hcl
theorem pu_date {P n : Nat} {s st ye dt d : Nat → Int32} {F : Nat → Nat → Int32} (h : BR P n s F st) (hy : ∀ i, i < n → F 1 i = ye i) (w : Int32) : r_date s F dt w = r_mdate (nI n) n st ye d w := by
  have hn := h.1.2.2
  have h28 := p_2le n hn
  rw [r_date, r_mdate, BRn h, h.1.2.1]
  by_cases c : p_in (nI n) w = 0
  · rw [if_pos c, if_pos c]
  rw [if_neg c, if_neg c]
  obtain ⟨j, hj, e, ec⟩ := in_n hn c
  have hf := foN_lt hn (BRnd h) hj
  obtain ⟨G, hGe⟩ : ∃ G, G = foN (fun i => st (10 + i)) n j := ⟨_, rfl⟩
  rw [← hGe] at hf
  have e6 : F 6 j = nI G := by rw [BR6 h j hj, hGe]; exact fo_nI hn (BRnd h) hj
  have em : p_fw (fun i => st (10 + i)) n ((1 : Int32) <<< (w &&& 31)) = nI G := by rw [e, hGe]; exact fo_nI hn (BRnd h) hj
  rw [ec, e6, em]
  have hgo : ∀ i, i < n → p_hb (p_ga (F 6) n (F 4 i)) (nI i) = p_mgo st n (nI i) := fun i hi => by
    obtain ⟨x, hx, ex⟩ := BRnd h i hi
    have ex : st (10 + i) = nI x := ex
    have e4 : F 4 i = st (10 + i) := BR4 h i hi
    rw [p_mgo, nI_clamp (by omega), e4, ex, ga_fo h hx]
  have hiff : p_rd (F 4) (F 6) n (nI G) n = true ↔ ¬ p_mdg st n (nI G) n 0 = 0 := by
    rw [rd_iff, mdg_iff]
    constructor
    · rintro ⟨i, h1, h2, h3⟩
      exact ⟨i, Nat.zero_le i, by omega, h2, by rw [← hgo i h1]; exact h3⟩
    · rintro ⟨i, _, h1, h2, h3⟩
      exact ⟨i, by omega, h2, by rw [hgo i (by omega)]; exact h3⟩
  by_cases c2 : p_mdg st n (nI G) n 0 = 0
  rotate_left
  · rw [if_pos (hiff.mpr c2), if_neg c2]
  rw [if_neg (fun q => hiff.mp q c2), if_pos c2]
  have hl : ∀ w, w < n → tn (fun i => st (10 + i)) w < 2 ^ n := fun w hw => (tn_e hn (BRnd h w hw)).2
  have hA : Acy (fun i => st (10 + i)) n G := ac_of h hj hGe hf c2
  have hA2 : Acy (F 4) n G := ac_cg (BR4 h) hA
  have hGj : G.testBit j = true := by rw [hGe]; exact foN_bit _ n j
  rw [dt_ok hn hA2 n j hj hGj (ac_n hn hA2 hj hGj), mdr_ok hn hA 8 j hj hGj (by have := ac_n hn hA hj hGj; omega)]
  exact cD_cg hy (BR4 h) 8 j hj
