/-! ===== the two readers: names ===== -/
theorem mlk_in {ta : Nat → Int32} {t p : Nat} (hp : p < t) (ht : t ≤ 160) : p_mlk ta (nI t) (nI p) = ta p := by
  rw [p_mlk, if_pos (by rw [nI_ltI (by omega) (by omega)]; exact hp), nI_clamp (by omega)]
theorem nmq_0 {ta : Nat → Int32} {e : eT} {t u b : Nat} (hk : e_ki e = 1) (hu : e_fi e = nI u) (hb : e_be e = nI b) (hub : u ≤ b) (hbt : b ≤ t) (ht : t ≤ 160) : p_miz ta (nI t) (e_be e) (e_fi e) 3 111 110 101 = k_nm ta e 0 := by
  have hsub : e_be e - e_fi e = nI (b - u) := by rw [hu, hb]; exact p_sub_nI hub (by omega)
  have huc : (e_fi e).toNatClampNeg = u := by rw [hu, nI_clamp (by omega)]
  by_cases c : e_be e - e_fi e = nI 3
  · have hbl : b = u + 3 := by have h2 := (nI_eq (by omega) (by decide)).mp (hsub.symm.trans c); omega
    have m : ∀ j : Nat, j < 3 → p_mlk ta (nI t) (e_fi e + nI j) = ta (u + j) := fun j hj => by rw [hu, nI_add]; exact mlk_in (by omega) ht
    have m0 : p_mlk ta (nI t) (e_fi e) = ta (u + 0) := by rw [hu]; exact mlk_in (by omega) ht
    have m1 : p_mlk ta (nI t) (e_fi e + 1) = ta (u + 1) := m 1 (by decide)
    have m2 : p_mlk ta (nI t) (e_fi e + 2) = ta (u + 2) := m 2 (by decide)
    have hr : k_nm ta e 0 = (if ta (u + 0) = 111 then (if ta (u + 1) = 110 then (if ta (u + 2) = 101 then 1 else 0) else 0) else 0) := by rw [k_nm, if_pos ⟨hk, c⟩, huc]; rfl
    have hz : p_miz ta (nI t) (e_be e) (e_fi e) 3 111 110 101 = (if p_mlk ta (nI t) (e_fi e) = 111 then (if p_mlk ta (nI t) (e_fi e + 1) = 110 then (if p_mlk ta (nI t) (e_fi e + 2) = 101 then 1 else 0) else 0) else 0) := by rw [p_miz, if_pos (show e_be e - e_fi e = 3 from c)]
    rw [hz, hr, m0, m1, m2]
  · have hr : k_nm ta e 0 = 0 := by rw [k_nm, if_neg (fun z => c z.2)]
    have hz : p_miz ta (nI t) (e_be e) (e_fi e) 3 111 110 101 = 0 := by rw [p_miz, if_neg (show ¬ e_be e - e_fi e = 3 from c)]
    rw [hz, hr]
theorem nmq_1 {ta : Nat → Int32} {e : eT} {t u b : Nat} (hk : e_ki e = 1) (hu : e_fi e = nI u) (hb : e_be e = nI b) (hub : u ≤ b) (hbt : b ≤ t) (ht : t ≤ 160) : p_mwd ta (nI t) (e_be e) (e_fi e) 4 119 105 115 104 0 0 = k_nm ta e 1 := by
  have hsub : e_be e - e_fi e = nI (b - u) := by rw [hu, hb]; exact p_sub_nI hub (by omega)
  have huc : (e_fi e).toNatClampNeg = u := by rw [hu, nI_clamp (by omega)]
  by_cases c : e_be e - e_fi e = nI 4
  · have hbl : b = u + 4 := by have h2 := (nI_eq (by omega) (by decide)).mp (hsub.symm.trans c); omega
    have m : ∀ j : Nat, j < 4 → p_mlk ta (nI t) (e_fi e + nI j) = ta (u + j) := fun j hj => by rw [hu, nI_add]; exact mlk_in (by omega) ht
    have m0 : p_mlk ta (nI t) (e_fi e) = ta (u + 0) := by rw [hu]; exact mlk_in (by omega) ht
    have m1 : p_mlk ta (nI t) (e_fi e + 1) = ta (u + 1) := m 1 (by decide)
    have m2 : p_mlk ta (nI t) (e_fi e + 2) = ta (u + 2) := m 2 (by decide)
    have m3 : p_mlk ta (nI t) (e_fi e + 3) = ta (u + 3) := m 3 (by decide)
    have hr : k_nm ta e 1 = (if ta (u + 0) = 119 then (if ta (u + 1) = 105 then (if ta (u + 2) = 115 then (if ta (u + 3) = 104 then 1 else 0) else 0) else 0) else 0) := by rw [k_nm, if_pos ⟨hk, c⟩, huc]; rfl
    have hz : p_miz ta (nI t) (e_be e) (e_fi e) 4 119 105 115 = (if p_mlk ta (nI t) (e_fi e) = 119 then (if p_mlk ta (nI t) (e_fi e + 1) = 105 then (if p_mlk ta (nI t) (e_fi e + 2) = 115 then 1 else 0) else 0) else 0) := by rw [p_miz, if_pos (show e_be e - e_fi e = 4 from c)]
    have he : p_mez ta (nI t) (e_fi e) 104 0 0 = (if p_mlk ta (nI t) (e_fi e + 3) = 104 then 1 else 0) := rfl
    rw [p_mwd, hz, he, hr, m0, m1, m2, m3]
    generalize ta (u + 0) = v0
    generalize ta (u + 1) = v1
    generalize ta (u + 2) = v2
    generalize ta (u + 3) = v3
    by_cases h0 : v0 = 119 <;> by_cases h1 : v1 = 105 <;> by_cases h2 : v2 = 115 <;> by_cases h3 : v3 = 104 <;> simp [h0, h1, h2, h3]
  · have hr : k_nm ta e 1 = 0 := by rw [k_nm, if_neg (fun z => c z.2)]
    have hz : p_miz ta (nI t) (e_be e) (e_fi e) 4 119 105 115 = 0 := by rw [p_miz, if_neg (show ¬ e_be e - e_fi e = 4 from c)]
    rw [p_mwd, hz, if_pos rfl, hr]
theorem nmq_2 {ta : Nat → Int32} {e : eT} {t u b : Nat} (hk : e_ki e = 1) (hu : e_fi e = nI u) (hb : e_be e = nI b) (hub : u ≤ b) (hbt : b ≤ t) (ht : t ≤ 160) : p_mwd ta (nI t) (e_be e) (e_fi e) 5 110 101 101 100 115 0 = k_nm ta e 2 := by
  have hsub : e_be e - e_fi e = nI (b - u) := by rw [hu, hb]; exact p_sub_nI hub (by omega)
  have huc : (e_fi e).toNatClampNeg = u := by rw [hu, nI_clamp (by omega)]
  by_cases c : e_be e - e_fi e = nI 5
  · have hbl : b = u + 5 := by have h2 := (nI_eq (by omega) (by decide)).mp (hsub.symm.trans c); omega
    have m : ∀ j : Nat, j < 5 → p_mlk ta (nI t) (e_fi e + nI j) = ta (u + j) := fun j hj => by rw [hu, nI_add]; exact mlk_in (by omega) ht
    have m0 : p_mlk ta (nI t) (e_fi e) = ta (u + 0) := by rw [hu]; exact mlk_in (by omega) ht
    have m1 : p_mlk ta (nI t) (e_fi e + 1) = ta (u + 1) := m 1 (by decide)
    have m2 : p_mlk ta (nI t) (e_fi e + 2) = ta (u + 2) := m 2 (by decide)
    have m3 : p_mlk ta (nI t) (e_fi e + 3) = ta (u + 3) := m 3 (by decide)
    have m4 : p_mlk ta (nI t) (e_fi e + 4) = ta (u + 4) := m 4 (by decide)
    have hr : k_nm ta e 2 = (if ta (u + 0) = 110 then (if ta (u + 1) = 101 then (if ta (u + 2) = 101 then (if ta (u + 3) = 100 then (if ta (u + 4) = 115 then 1 else 0) else 0) else 0) else 0) else 0) := by rw [k_nm, if_pos ⟨hk, c⟩, huc]; rfl
    have hz : p_miz ta (nI t) (e_be e) (e_fi e) 5 110 101 101 = (if p_mlk ta (nI t) (e_fi e) = 110 then (if p_mlk ta (nI t) (e_fi e + 1) = 101 then (if p_mlk ta (nI t) (e_fi e + 2) = 101 then 1 else 0) else 0) else 0) := by rw [p_miz, if_pos (show e_be e - e_fi e = 5 from c)]
    have he : p_mez ta (nI t) (e_fi e) 100 115 0 = (if p_mlk ta (nI t) (e_fi e + 3) = 100 then (if p_mlk ta (nI t) (e_fi e + 4) = 115 then 1 else 0) else 0) := rfl
    rw [p_mwd, hz, he, hr, m0, m1, m2, m3, m4]
    generalize ta (u + 0) = v0
    generalize ta (u + 1) = v1
    generalize ta (u + 2) = v2
    generalize ta (u + 3) = v3
    generalize ta (u + 4) = v4
    by_cases h0 : v0 = 110 <;> by_cases h1 : v1 = 101 <;> by_cases h2 : v2 = 101 <;> by_cases h3 : v3 = 100 <;> by_cases h4 : v4 = 115 <;> simp [h0, h1, h2, h3, h4]
  · have hr : k_nm ta e 2 = 0 := by rw [k_nm, if_neg (fun z => c z.2)]
    have hz : p_miz ta (nI t) (e_be e) (e_fi e) 5 110 101 101 = 0 := by rw [p_miz, if_neg (show ¬ e_be e - e_fi e = 5 from c)]
    rw [p_mwd, hz, if_pos rfl, hr]
theorem nmq_3 {ta : Nat → Int32} {e : eT} {t u b : Nat} (hk : e_ki e = 1) (hu : e_fi e = nI u) (hb : e_be e = nI b) (hub : u ≤ b) (hbt : b ≤ t) (ht : t ≤ 160) : p_mwd ta (nI t) (e_be e) (e_fi e) 5 99 108 97 115 104 0 = k_nm ta e 3 := by
  have hsub : e_be e - e_fi e = nI (b - u) := by rw [hu, hb]; exact p_sub_nI hub (by omega)
  have huc : (e_fi e).toNatClampNeg = u := by rw [hu, nI_clamp (by omega)]
  by_cases c : e_be e - e_fi e = nI 5
  · have hbl : b = u + 5 := by have h2 := (nI_eq (by omega) (by decide)).mp (hsub.symm.trans c); omega
    have m : ∀ j : Nat, j < 5 → p_mlk ta (nI t) (e_fi e + nI j) = ta (u + j) := fun j hj => by rw [hu, nI_add]; exact mlk_in (by omega) ht
    have m0 : p_mlk ta (nI t) (e_fi e) = ta (u + 0) := by rw [hu]; exact mlk_in (by omega) ht
    have m1 : p_mlk ta (nI t) (e_fi e + 1) = ta (u + 1) := m 1 (by decide)
    have m2 : p_mlk ta (nI t) (e_fi e + 2) = ta (u + 2) := m 2 (by decide)
    have m3 : p_mlk ta (nI t) (e_fi e + 3) = ta (u + 3) := m 3 (by decide)
    have m4 : p_mlk ta (nI t) (e_fi e + 4) = ta (u + 4) := m 4 (by decide)
    have hr : k_nm ta e 3 = (if ta (u + 0) = 99 then (if ta (u + 1) = 108 then (if ta (u + 2) = 97 then (if ta (u + 3) = 115 then (if ta (u + 4) = 104 then 1 else 0) else 0) else 0) else 0) else 0) := by rw [k_nm, if_pos ⟨hk, c⟩, huc]; rfl
    have hz : p_miz ta (nI t) (e_be e) (e_fi e) 5 99 108 97 = (if p_mlk ta (nI t) (e_fi e) = 99 then (if p_mlk ta (nI t) (e_fi e + 1) = 108 then (if p_mlk ta (nI t) (e_fi e + 2) = 97 then 1 else 0) else 0) else 0) := by rw [p_miz, if_pos (show e_be e - e_fi e = 5 from c)]
    have he : p_mez ta (nI t) (e_fi e) 115 104 0 = (if p_mlk ta (nI t) (e_fi e + 3) = 115 then (if p_mlk ta (nI t) (e_fi e + 4) = 104 then 1 else 0) else 0) := rfl
    rw [p_mwd, hz, he, hr, m0, m1, m2, m3, m4]
    generalize ta (u + 0) = v0
    generalize ta (u + 1) = v1
    generalize ta (u + 2) = v2
    generalize ta (u + 3) = v3
    generalize ta (u + 4) = v4
    by_cases h0 : v0 = 99 <;> by_cases h1 : v1 = 108 <;> by_cases h2 : v2 = 97 <;> by_cases h3 : v3 = 115 <;> by_cases h4 : v4 = 104 <;> simp [h0, h1, h2, h3, h4]
  · have hr : k_nm ta e 3 = 0 := by rw [k_nm, if_neg (fun z => c z.2)]
    have hz : p_miz ta (nI t) (e_be e) (e_fi e) 5 99 108 97 = 0 := by rw [p_miz, if_neg (show ¬ e_be e - e_fi e = 5 from c)]
    rw [p_mwd, hz, if_pos rfl, hr]
theorem nmq_4 {ta : Nat → Int32} {e : eT} {t u b : Nat} (hk : e_ki e = 1) (hu : e_fi e = nI u) (hb : e_be e = nI b) (hub : u ≤ b) (hbt : b ≤ t) (ht : t ≤ 160) : p_mwd ta (nI t) (e_be e) (e_fi e) 4 108 105 115 116 0 0 = k_nm ta e 4 := by
  have hsub : e_be e - e_fi e = nI (b - u) := by rw [hu, hb]; exact p_sub_nI hub (by omega)
  have huc : (e_fi e).toNatClampNeg = u := by rw [hu, nI_clamp (by omega)]
  by_cases c : e_be e - e_fi e = nI 4
  · have hbl : b = u + 4 := by have h2 := (nI_eq (by omega) (by decide)).mp (hsub.symm.trans c); omega
    have m : ∀ j : Nat, j < 4 → p_mlk ta (nI t) (e_fi e + nI j) = ta (u + j) := fun j hj => by rw [hu, nI_add]; exact mlk_in (by omega) ht
    have m0 : p_mlk ta (nI t) (e_fi e) = ta (u + 0) := by rw [hu]; exact mlk_in (by omega) ht
    have m1 : p_mlk ta (nI t) (e_fi e + 1) = ta (u + 1) := m 1 (by decide)
    have m2 : p_mlk ta (nI t) (e_fi e + 2) = ta (u + 2) := m 2 (by decide)
    have m3 : p_mlk ta (nI t) (e_fi e + 3) = ta (u + 3) := m 3 (by decide)
    have hr : k_nm ta e 4 = (if ta (u + 0) = 108 then (if ta (u + 1) = 105 then (if ta (u + 2) = 115 then (if ta (u + 3) = 116 then 1 else 0) else 0) else 0) else 0) := by rw [k_nm, if_pos ⟨hk, c⟩, huc]; rfl
    have hz : p_miz ta (nI t) (e_be e) (e_fi e) 4 108 105 115 = (if p_mlk ta (nI t) (e_fi e) = 108 then (if p_mlk ta (nI t) (e_fi e + 1) = 105 then (if p_mlk ta (nI t) (e_fi e + 2) = 115 then 1 else 0) else 0) else 0) := by rw [p_miz, if_pos (show e_be e - e_fi e = 4 from c)]
    have he : p_mez ta (nI t) (e_fi e) 116 0 0 = (if p_mlk ta (nI t) (e_fi e + 3) = 116 then 1 else 0) := rfl
    rw [p_mwd, hz, he, hr, m0, m1, m2, m3]
    generalize ta (u + 0) = v0
    generalize ta (u + 1) = v1
    generalize ta (u + 2) = v2
    generalize ta (u + 3) = v3
    by_cases h0 : v0 = 108 <;> by_cases h1 : v1 = 105 <;> by_cases h2 : v2 = 115 <;> by_cases h3 : v3 = 116 <;> simp [h0, h1, h2, h3]
  · have hr : k_nm ta e 4 = 0 := by rw [k_nm, if_neg (fun z => c z.2)]
    have hz : p_miz ta (nI t) (e_be e) (e_fi e) 4 108 105 115 = 0 := by rw [p_miz, if_neg (show ¬ e_be e - e_fi e = 4 from c)]
    rw [p_mwd, hz, if_pos rfl, hr]
theorem nmq_5 {ta : Nat → Int32} {e : eT} {t u b : Nat} (hk : e_ki e = 1) (hu : e_fi e = nI u) (hb : e_be e = nI b) (hub : u ≤ b) (hbt : b ≤ t) (ht : t ≤ 160) : p_mwd ta (nI t) (e_be e) (e_fi e) 5 100 101 112 116 104 0 = k_nm ta e 5 := by
  have hsub : e_be e - e_fi e = nI (b - u) := by rw [hu, hb]; exact p_sub_nI hub (by omega)
  have huc : (e_fi e).toNatClampNeg = u := by rw [hu, nI_clamp (by omega)]
  by_cases c : e_be e - e_fi e = nI 5
  · have hbl : b = u + 5 := by have h2 := (nI_eq (by omega) (by decide)).mp (hsub.symm.trans c); omega
    have m : ∀ j : Nat, j < 5 → p_mlk ta (nI t) (e_fi e + nI j) = ta (u + j) := fun j hj => by rw [hu, nI_add]; exact mlk_in (by omega) ht
    have m0 : p_mlk ta (nI t) (e_fi e) = ta (u + 0) := by rw [hu]; exact mlk_in (by omega) ht
    have m1 : p_mlk ta (nI t) (e_fi e + 1) = ta (u + 1) := m 1 (by decide)
    have m2 : p_mlk ta (nI t) (e_fi e + 2) = ta (u + 2) := m 2 (by decide)
    have m3 : p_mlk ta (nI t) (e_fi e + 3) = ta (u + 3) := m 3 (by decide)
    have m4 : p_mlk ta (nI t) (e_fi e + 4) = ta (u + 4) := m 4 (by decide)
    have hr : k_nm ta e 5 = (if ta (u + 0) = 100 then (if ta (u + 1) = 101 then (if ta (u + 2) = 112 then (if ta (u + 3) = 116 then (if ta (u + 4) = 104 then 1 else 0) else 0) else 0) else 0) else 0) := by rw [k_nm, if_pos ⟨hk, c⟩, huc]; rfl
    have hz : p_miz ta (nI t) (e_be e) (e_fi e) 5 100 101 112 = (if p_mlk ta (nI t) (e_fi e) = 100 then (if p_mlk ta (nI t) (e_fi e + 1) = 101 then (if p_mlk ta (nI t) (e_fi e + 2) = 112 then 1 else 0) else 0) else 0) := by rw [p_miz, if_pos (show e_be e - e_fi e = 5 from c)]
    have he : p_mez ta (nI t) (e_fi e) 116 104 0 = (if p_mlk ta (nI t) (e_fi e + 3) = 116 then (if p_mlk ta (nI t) (e_fi e + 4) = 104 then 1 else 0) else 0) := rfl
    rw [p_mwd, hz, he, hr, m0, m1, m2, m3, m4]
    generalize ta (u + 0) = v0
    generalize ta (u + 1) = v1
    generalize ta (u + 2) = v2
    generalize ta (u + 3) = v3
    generalize ta (u + 4) = v4
    by_cases h0 : v0 = 100 <;> by_cases h1 : v1 = 101 <;> by_cases h2 : v2 = 112 <;> by_cases h3 : v3 = 116 <;> by_cases h4 : v4 = 104 <;> simp [h0, h1, h2, h3, h4]
  · have hr : k_nm ta e 5 = 0 := by rw [k_nm, if_neg (fun z => c z.2)]
    have hz : p_miz ta (nI t) (e_be e) (e_fi e) 5 100 101 112 = 0 := by rw [p_miz, if_neg (show ¬ e_be e - e_fi e = 5 from c)]
    rw [p_mwd, hz, if_pos rfl, hr]
theorem nmq_6 {ta : Nat → Int32} {e : eT} {t u b : Nat} (hk : e_ki e = 1) (hu : e_fi e = nI u) (hb : e_be e = nI b) (hub : u ≤ b) (hbt : b ≤ t) (ht : t ≤ 160) : p_mwd ta (nI t) (e_be e) (e_fi e) 4 112 108 97 110 0 0 = k_nm ta e 6 := by
  have hsub : e_be e - e_fi e = nI (b - u) := by rw [hu, hb]; exact p_sub_nI hub (by omega)
  have huc : (e_fi e).toNatClampNeg = u := by rw [hu, nI_clamp (by omega)]
  by_cases c : e_be e - e_fi e = nI 4
  · have hbl : b = u + 4 := by have h2 := (nI_eq (by omega) (by decide)).mp (hsub.symm.trans c); omega
    have m : ∀ j : Nat, j < 4 → p_mlk ta (nI t) (e_fi e + nI j) = ta (u + j) := fun j hj => by rw [hu, nI_add]; exact mlk_in (by omega) ht
    have m0 : p_mlk ta (nI t) (e_fi e) = ta (u + 0) := by rw [hu]; exact mlk_in (by omega) ht
    have m1 : p_mlk ta (nI t) (e_fi e + 1) = ta (u + 1) := m 1 (by decide)
    have m2 : p_mlk ta (nI t) (e_fi e + 2) = ta (u + 2) := m 2 (by decide)
    have m3 : p_mlk ta (nI t) (e_fi e + 3) = ta (u + 3) := m 3 (by decide)
    have hr : k_nm ta e 6 = (if ta (u + 0) = 112 then (if ta (u + 1) = 108 then (if ta (u + 2) = 97 then (if ta (u + 3) = 110 then 1 else 0) else 0) else 0) else 0) := by rw [k_nm, if_pos ⟨hk, c⟩, huc]; rfl
    have hz : p_miz ta (nI t) (e_be e) (e_fi e) 4 112 108 97 = (if p_mlk ta (nI t) (e_fi e) = 112 then (if p_mlk ta (nI t) (e_fi e + 1) = 108 then (if p_mlk ta (nI t) (e_fi e + 2) = 97 then 1 else 0) else 0) else 0) := by rw [p_miz, if_pos (show e_be e - e_fi e = 4 from c)]
    have he : p_mez ta (nI t) (e_fi e) 110 0 0 = (if p_mlk ta (nI t) (e_fi e + 3) = 110 then 1 else 0) := rfl
    rw [p_mwd, hz, he, hr, m0, m1, m2, m3]
    generalize ta (u + 0) = v0
    generalize ta (u + 1) = v1
    generalize ta (u + 2) = v2
    generalize ta (u + 3) = v3
    by_cases h0 : v0 = 112 <;> by_cases h1 : v1 = 108 <;> by_cases h2 : v2 = 97 <;> by_cases h3 : v3 = 110 <;> simp [h0, h1, h2, h3]
  · have hr : k_nm ta e 6 = 0 := by rw [k_nm, if_neg (fun z => c z.2)]
    have hz : p_miz ta (nI t) (e_be e) (e_fi e) 4 112 108 97 = 0 := by rw [p_miz, if_neg (show ¬ e_be e - e_fi e = 4 from c)]
    rw [p_mwd, hz, if_pos rfl, hr]
theorem nmq_7 {ta : Nat → Int32} {e : eT} {t u b : Nat} (hk : e_ki e = 1) (hu : e_fi e = nI u) (hb : e_be e = nI b) (hub : u ≤ b) (hbt : b ≤ t) (ht : t ≤ 160) : p_mwd ta (nI t) (e_be e) (e_fi e) 5 97 108 105 118 101 0 = k_nm ta e 7 := by
  have hsub : e_be e - e_fi e = nI (b - u) := by rw [hu, hb]; exact p_sub_nI hub (by omega)
  have huc : (e_fi e).toNatClampNeg = u := by rw [hu, nI_clamp (by omega)]
  by_cases c : e_be e - e_fi e = nI 5
  · have hbl : b = u + 5 := by have h2 := (nI_eq (by omega) (by decide)).mp (hsub.symm.trans c); omega
    have m : ∀ j : Nat, j < 5 → p_mlk ta (nI t) (e_fi e + nI j) = ta (u + j) := fun j hj => by rw [hu, nI_add]; exact mlk_in (by omega) ht
    have m0 : p_mlk ta (nI t) (e_fi e) = ta (u + 0) := by rw [hu]; exact mlk_in (by omega) ht
    have m1 : p_mlk ta (nI t) (e_fi e + 1) = ta (u + 1) := m 1 (by decide)
    have m2 : p_mlk ta (nI t) (e_fi e + 2) = ta (u + 2) := m 2 (by decide)
    have m3 : p_mlk ta (nI t) (e_fi e + 3) = ta (u + 3) := m 3 (by decide)
    have m4 : p_mlk ta (nI t) (e_fi e + 4) = ta (u + 4) := m 4 (by decide)
    have hr : k_nm ta e 7 = (if ta (u + 0) = 97 then (if ta (u + 1) = 108 then (if ta (u + 2) = 105 then (if ta (u + 3) = 118 then (if ta (u + 4) = 101 then 1 else 0) else 0) else 0) else 0) else 0) := by rw [k_nm, if_pos ⟨hk, c⟩, huc]; rfl
    have hz : p_miz ta (nI t) (e_be e) (e_fi e) 5 97 108 105 = (if p_mlk ta (nI t) (e_fi e) = 97 then (if p_mlk ta (nI t) (e_fi e + 1) = 108 then (if p_mlk ta (nI t) (e_fi e + 2) = 105 then 1 else 0) else 0) else 0) := by rw [p_miz, if_pos (show e_be e - e_fi e = 5 from c)]
    have he : p_mez ta (nI t) (e_fi e) 118 101 0 = (if p_mlk ta (nI t) (e_fi e + 3) = 118 then (if p_mlk ta (nI t) (e_fi e + 4) = 101 then 1 else 0) else 0) := rfl
    rw [p_mwd, hz, he, hr, m0, m1, m2, m3, m4]
    generalize ta (u + 0) = v0
    generalize ta (u + 1) = v1
    generalize ta (u + 2) = v2
    generalize ta (u + 3) = v3
    generalize ta (u + 4) = v4
    by_cases h0 : v0 = 97 <;> by_cases h1 : v1 = 108 <;> by_cases h2 : v2 = 105 <;> by_cases h3 : v3 = 118 <;> by_cases h4 : v4 = 101 <;> simp [h0, h1, h2, h3, h4]
  · have hr : k_nm ta e 7 = 0 := by rw [k_nm, if_neg (fun z => c z.2)]
    have hz : p_miz ta (nI t) (e_be e) (e_fi e) 5 97 108 105 = 0 := by rw [p_miz, if_neg (show ¬ e_be e - e_fi e = 5 from c)]
    rw [p_mwd, hz, if_pos rfl, hr]
theorem nmq_8 {ta : Nat → Int32} {e : eT} {t u b : Nat} (hk : e_ki e = 1) (hu : e_fi e = nI u) (hb : e_be e = nI b) (hub : u ≤ b) (hbt : b ≤ t) (ht : t ≤ 160) : p_mwd ta (nI t) (e_be e) (e_fi e) 6 98 97 114 114 101 100 = k_nm ta e 8 := by
  have hsub : e_be e - e_fi e = nI (b - u) := by rw [hu, hb]; exact p_sub_nI hub (by omega)
  have huc : (e_fi e).toNatClampNeg = u := by rw [hu, nI_clamp (by omega)]
  by_cases c : e_be e - e_fi e = nI 6
  · have hbl : b = u + 6 := by have h2 := (nI_eq (by omega) (by decide)).mp (hsub.symm.trans c); omega
    have m : ∀ j : Nat, j < 6 → p_mlk ta (nI t) (e_fi e + nI j) = ta (u + j) := fun j hj => by rw [hu, nI_add]; exact mlk_in (by omega) ht
    have m0 : p_mlk ta (nI t) (e_fi e) = ta (u + 0) := by rw [hu]; exact mlk_in (by omega) ht
    have m1 : p_mlk ta (nI t) (e_fi e + 1) = ta (u + 1) := m 1 (by decide)
    have m2 : p_mlk ta (nI t) (e_fi e + 2) = ta (u + 2) := m 2 (by decide)
    have m3 : p_mlk ta (nI t) (e_fi e + 3) = ta (u + 3) := m 3 (by decide)
    have m4 : p_mlk ta (nI t) (e_fi e + 4) = ta (u + 4) := m 4 (by decide)
    have m5 : p_mlk ta (nI t) (e_fi e + 5) = ta (u + 5) := m 5 (by decide)
    have hr : k_nm ta e 8 = (if ta (u + 0) = 98 then (if ta (u + 1) = 97 then (if ta (u + 2) = 114 then (if ta (u + 3) = 114 then (if ta (u + 4) = 101 then (if ta (u + 5) = 100 then 1 else 0) else 0) else 0) else 0) else 0) else 0) := by rw [k_nm, if_pos ⟨hk, c⟩, huc]; rfl
    have hz : p_miz ta (nI t) (e_be e) (e_fi e) 6 98 97 114 = (if p_mlk ta (nI t) (e_fi e) = 98 then (if p_mlk ta (nI t) (e_fi e + 1) = 97 then (if p_mlk ta (nI t) (e_fi e + 2) = 114 then 1 else 0) else 0) else 0) := by rw [p_miz, if_pos (show e_be e - e_fi e = 6 from c)]
    have he : p_mez ta (nI t) (e_fi e) 114 101 100 = (if p_mlk ta (nI t) (e_fi e + 3) = 114 then (if p_mlk ta (nI t) (e_fi e + 4) = 101 then (if p_mlk ta (nI t) (e_fi e + 5) = 100 then 1 else 0) else 0) else 0) := rfl
    rw [p_mwd, hz, he, hr, m0, m1, m2, m3, m4, m5]
    generalize ta (u + 0) = v0
    generalize ta (u + 1) = v1
    generalize ta (u + 2) = v2
    generalize ta (u + 3) = v3
    generalize ta (u + 4) = v4
    generalize ta (u + 5) = v5
    by_cases h0 : v0 = 98 <;> by_cases h1 : v1 = 97 <;> by_cases h2 : v2 = 114 <;> by_cases h3 : v3 = 114 <;> by_cases h4 : v4 = 101 <;> by_cases h5 : v5 = 100 <;> simp [h0, h1, h2, h3, h4, h5]
  · have hr : k_nm ta e 8 = 0 := by rw [k_nm, if_neg (fun z => c z.2)]
    have hz : p_miz ta (nI t) (e_be e) (e_fi e) 6 98 97 114 = 0 := by rw [p_miz, if_neg (show ¬ e_be e - e_fi e = 6 from c)]
    rw [p_mwd, hz, if_pos rfl, hr]
theorem nmq_9 {ta : Nat → Int32} {e : eT} {t u b : Nat} (hk : e_ki e = 1) (hu : e_fi e = nI u) (hb : e_be e = nI b) (hub : u ≤ b) (hbt : b ≤ t) (ht : t ≤ 160) : p_mwd ta (nI t) (e_be e) (e_fi e) 4 100 101 97 100 0 0 = k_nm ta e 9 := by
  have hsub : e_be e - e_fi e = nI (b - u) := by rw [hu, hb]; exact p_sub_nI hub (by omega)
  have huc : (e_fi e).toNatClampNeg = u := by rw [hu, nI_clamp (by omega)]
  by_cases c : e_be e - e_fi e = nI 4
  · have hbl : b = u + 4 := by have h2 := (nI_eq (by omega) (by decide)).mp (hsub.symm.trans c); omega
    have m : ∀ j : Nat, j < 4 → p_mlk ta (nI t) (e_fi e + nI j) = ta (u + j) := fun j hj => by rw [hu, nI_add]; exact mlk_in (by omega) ht
    have m0 : p_mlk ta (nI t) (e_fi e) = ta (u + 0) := by rw [hu]; exact mlk_in (by omega) ht
    have m1 : p_mlk ta (nI t) (e_fi e + 1) = ta (u + 1) := m 1 (by decide)
    have m2 : p_mlk ta (nI t) (e_fi e + 2) = ta (u + 2) := m 2 (by decide)
    have m3 : p_mlk ta (nI t) (e_fi e + 3) = ta (u + 3) := m 3 (by decide)
    have hr : k_nm ta e 9 = (if ta (u + 0) = 100 then (if ta (u + 1) = 101 then (if ta (u + 2) = 97 then (if ta (u + 3) = 100 then 1 else 0) else 0) else 0) else 0) := by rw [k_nm, if_pos ⟨hk, c⟩, huc]; rfl
    have hz : p_miz ta (nI t) (e_be e) (e_fi e) 4 100 101 97 = (if p_mlk ta (nI t) (e_fi e) = 100 then (if p_mlk ta (nI t) (e_fi e + 1) = 101 then (if p_mlk ta (nI t) (e_fi e + 2) = 97 then 1 else 0) else 0) else 0) := by rw [p_miz, if_pos (show e_be e - e_fi e = 4 from c)]
    have he : p_mez ta (nI t) (e_fi e) 100 0 0 = (if p_mlk ta (nI t) (e_fi e + 3) = 100 then 1 else 0) := rfl
    rw [p_mwd, hz, he, hr, m0, m1, m2, m3]
    generalize ta (u + 0) = v0
    generalize ta (u + 1) = v1
    generalize ta (u + 2) = v2
    generalize ta (u + 3) = v3
    by_cases h0 : v0 = 100 <;> by_cases h1 : v1 = 101 <;> by_cases h2 : v2 = 97 <;> by_cases h3 : v3 = 100 <;> simp [h0, h1, h2, h3]
  · have hr : k_nm ta e 9 = 0 := by rw [k_nm, if_neg (fun z => c z.2)]
    have hz : p_miz ta (nI t) (e_be e) (e_fi e) 4 100 101 97 = 0 := by rw [p_miz, if_neg (show ¬ e_be e - e_fi e = 4 from c)]
    rw [p_mwd, hz, if_pos rfl, hr]
theorem k_nm_0 {ta : Nat → Int32} {e : eT} (h : ¬ e_ki e = 1) (i : Nat) : k_nm ta e i = 0 := by rw [k_nm, if_neg (fun z => h z.1)]
theorem k_nm_l {ta : Nat → Int32} {e : eT} {i : Nat} (h : ¬ k_nm ta e i = 0) : e_be e - e_fi e = nI (s_len.getD i 0) := by
  rw [k_nm] at h
  by_cases c : e_ki e = 1 ∧ e_be e - e_fi e = nI (s_len.getD i 0)
  · exact c.2
  · rw [if_neg c] at h; exact absurd rfl h
theorem k_eqs_01 (ta : Nat → Int32) (bs : List Int32) (u : Nat) : ∀ k j, k_eqs ta bs u k j = 0 ∨ k_eqs ta bs u k j = 1
  | 0, j => Or.inr rfl
  | k + 1, j => by
    rw [k_eqs]
    split
    · exact k_eqs_01 ta bs u k (j + 1)
    · exact Or.inl rfl
theorem k_nm_01 (ta : Nat → Int32) (e : eT) (i : Nat) : k_nm ta e i = 0 ∨ k_nm ta e i = 1 := by
  rw [k_nm]
  split
  · exact k_eqs_01 _ _ _ _ _
  · exact Or.inl rfl
theorem r_ln_k {ta : Nat → Int32} {e : eT} {x : zT} {t : Nat} (hT : TT e x) (hJ : kJ e t) (ht : t ≤ 160) : r_ln ta (nI t) x = if k_nm ta e 0 = 0 then (if k_nm ta e 1 = 0 then (if k_nm ta e 2 = 0 then (if k_nm ta e 3 = 0 then (if k_nm ta e 4 = 0 then (if k_nm ta e 5 = 0 then (if k_nm ta e 6 = 0 then -4 else 6) else 5) else 4) else 3) else 2) else 1) else 0 := by
  obtain ⟨h1, h2, h3, h4, h5⟩ := hT
  obtain ⟨u, b, hu, hb, hub, hbt⟩ := hJ
  rw [r_ln, h4]
  by_cases hk : e_ki e = 1
  · rw [if_pos hk, h2, h3, p_mln, nmq_0 hk hu hb hub hbt ht, nmq_1 hk hu hb hub hbt ht, nmq_2 hk hu hb hub hbt ht, nmq_3 hk hu hb hub hbt ht, nmq_4 hk hu hb hub hbt ht, nmq_5 hk hu hb hub hbt ht, nmq_6 hk hu hb hub hbt ht]
  · rw [if_neg hk, k_nm_0 hk, k_nm_0 hk, k_nm_0 hk, k_nm_0 hk, k_nm_0 hk, k_nm_0 hk, k_nm_0 hk]
    rfl
theorem r_kd_k {ta : Nat → Int32} {e : eT} {x : zT} {t : Nat} (hT : TT e x) (hJ : kJ e t) (ht : t ≤ 160) : r_kd ta (nI t) x = if k_nm ta e 7 = 0 then (if k_nm ta e 9 = 0 then (if k_nm ta e 8 = 0 then -4 else 2) else 1) else 0 := by
  obtain ⟨h1, h2, h3, h4, h5⟩ := hT
  obtain ⟨u, b, hu, hb, hub, hbt⟩ := hJ
  rw [r_kd, if_pos h1, h4]
  by_cases hk : e_ki e = 1
  · rw [if_pos hk, h2, h3, p_mkn, nmq_7 hk hu hb hub hbt ht, nmq_9 hk hu hb hub hbt ht, nmq_8 hk hu hb hub hbt ht]
  · rw [if_neg hk, k_nm_0 hk, k_nm_0 hk, k_nm_0 hk]
    rfl
