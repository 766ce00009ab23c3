/-! ===== the law: one step, by the kind of question ===== -/
def lP : sP := fun r _ => r = some (.int 1)
/-- how the loop goes on -/
def lK (G : Nat → sK) (x : Int32) : Prop := ∀ (P n t : Nat) (y7 : Int32) (y8 : Int32) (y9 : Int32) (ln : Int32) (ta : Nat → Int32) (e : eT) (s1 : Nat → Int32) (F1 : Nat → Nat → Int32) (a : Int32) (b : Int32) (M : Nat → Nat → Int32) (s2 : Nat → Int32) (F2 : Nat → Nat → Int32) (s3 : Nat → Int32) (F3 : Nat → Nat → Int32) (sl : Nat → Int32) (sz : Nat → Int32) (cf : Nat → Nat → Int32) (dt : Nat → Int32) (s : Nat → Int32) (F : Nat → Nat → Int32) (ms : Nat → Int32) (A : Nat → Nat → Int32), LIx P n t y7 y8 y9 ln ta s2 F2 s3 F3 sl sz cf s F ms A → G 1 (lL (x + 5)) [] (lW y7 y8 y9 ln ta e s1 F1 a b M s2 F2 s3 F3 sl sz cf dt s F ms A)
/-- where the script may be read -/
def lX (x : Int32) (N : Nat) : Prop := ∃ i, x = nI i ∧ i + 5 ≤ N ∧ N ≤ 320
theorem lx {x : Int32} {N : Nat} (h : lX x N) (k : Nat) (hk : k < 5) : vp_in (x + nI k) N := by
  obtain ⟨i, rfl, h1, h2⟩ := h
  rw [nI_add]
  exact vp_in_nI (by omega) (by omega)
theorem li_x {P n t : Nat} {y7 : Int32} {y8 : Int32} {y9 : Int32} {ln : Int32} {ta : Nat → Int32} {s2 : Nat → Int32} {F2 : Nat → Nat → Int32} {s3 : Nat → Int32} {F3 : Nat → Nat → Int32} {sl : Nat → Int32} {sz : Nat → Int32} {cf : Nat → Nat → Int32} {s : Nat → Int32} {F : Nat → Nat → Int32} {ms : Nat → Int32} {A : Nat → Nat → Int32} (h : LIx P n t y7 y8 y9 ln ta s2 F2 s3 F3 sl sz cf s F ms A) : s 1 = nI n ∧ n ≤ 8 ∧ P ≤ 8 ∧ (nI n).toNatClampNeg = n ∧ (∃ h00 dd ll : Nat, h00 < 2 ^ n ∧ A 1 26 = nI h00 ∧ dd ≤ 8 ∧ A 1 28 = nI dd ∧ ll < 2 ^ n ∧ A 1 27 = nI ll ∧ s 2 = nI dd) ∧ (∃ Np : Nat, s 15 = nI Np ∧ Np ≤ 6 ∧ A 1 29 = nI Np ∧ ∀ i, i < Np → ∃ j, j < n ∧ F 8 i = nI j) ∧ (∃ Sz : Nat, s 18 = nI Sz ∧ Sz ≤ 8 ∧ A 1 36 = nI Sz) ∧ (∀ i, i < n → F 1 i = A 3 i ∧ F 2 i = A 4 i) ∧ (∀ i, i < n → lt8 (A 1 (10 + i))) ∧ lt8 (A 1 26) := by
  obtain ⟨⟨hB, hy, hp⟩, _⟩ := h
  have hn8 := hB.1.2.2
  refine ⟨hB.1.2.1, hn8, hB.1.1.2, nI_clamp (by omega), ?_, ?_, ?_, fun i hi => ⟨(hy i hi).1, (hp i hi).1⟩, fun i hi => ltn_lt8 hn8 (BRnd hB i hi), ltn_lt8 hn8 hB.2.1.2.2.2.1.2⟩
  · obtain ⟨h00, dd, ll, e1, e2, e3, e4, e5, e6⟩ := md_e hB
    exact ⟨h00, dd, ll, e1, e2, e3, e4, e5, e6, by rw [hB.2.1.1.1, e4]⟩
  · obtain ⟨h0, Np, h1, h2, h3⟩ := hB.2.2.1
    exact ⟨Np, h0.trans h2, h1, h2, fun i hi => by obtain ⟨a, j, b, c⟩ := h3 i hi; exact ⟨j, b, a.trans c⟩⟩
  · obtain ⟨h0, _, S, h1, h2, _⟩ := hB.2.2.2.1
    exact ⟨S, h0.trans h2, h1, h2⟩
theorem li_feed {P n t : Nat} {y7 : Int32} {y8 : Int32} {y9 : Int32} {ln : Int32} {ta : Nat → Int32} {s2 : Nat → Int32} {F2 : Nat → Nat → Int32} {s3 : Nat → Int32} {F3 : Nat → Nat → Int32} {sl : Nat → Int32} {sz : Nat → Int32} {cf : Nat → Nat → Int32} {s : Nat → Int32} {F : Nat → Nat → Int32} {ms : Nat → Int32} {A : Nat → Nat → Int32} (h : LIx P n t y7 y8 y9 ln ta s2 F2 s3 F3 sl sz cf s F ms A) (c : Int32) : r_feed ln c = r_mfeed (ms 15) c ∧ ∃ t2, LIx P n t2 y7 y8 y9 (q_feed ln c) (q_feedF ln c ta) s2 F2 s3 F3 sl sz cf s F (upd ms 15 (q_mfeed (ms 15) c)) (va_up A 8 (q_mfeedF (ms 15) c (A 8))) := by
  obtain ⟨hB, hI, ⟨ht1, ht2, ht3, ht4, ht5⟩, hS, hm⟩ := h
  obtain ⟨f1, f2, f3, ⟨t2, f4, f5⟩, f6⟩ := pu_feed ht2 ht5 c
  rw [ht3, ht1, ht4]
  refine ⟨f1, t2, hB, hI, ⟨f2.trans f5, f4, f2.symm, f3.symm, ?_⟩, hS, hm⟩
  rw [f3]
  exact f6
theorem li_end {P n t : Nat} {y7 : Int32} {y8 : Int32} {y9 : Int32} {ln : Int32} {ta : Nat → Int32} {s2 : Nat → Int32} {F2 : Nat → Nat → Int32} {s3 : Nat → Int32} {F3 : Nat → Nat → Int32} {sl : Nat → Int32} {sz : Nat → Int32} {cf : Nat → Nat → Int32} {s : Nat → Int32} {F : Nat → Nat → Int32} {ms : Nat → Int32} {A : Nat → Nat → Int32} (h : LIx P n t y7 y8 y9 ln ta s2 F2 s3 F3 sl sz cf s F ms A) (c : Int32) : r_end ln c = r_mend (ms 15) c ∧ ∃ t2, LIx P n t2 y7 y8 y9 (q_end ln c) ta s2 F2 s3 F3 sl sz cf s F (upd ms 15 (q_mend (ms 15) c)) A := by
  obtain ⟨hB, hI, ⟨ht1, ht2, ht3, ht4, ht5⟩, hS, hm⟩ := h
  obtain ⟨f1, f2, t2, f4, f5⟩ := pu_end ht2 c
  rw [ht3, ht1]
  exact ⟨f1, t2, hB, hI, ⟨f2.trans f5, f4, f2.symm, ht4, ht5⟩, hS, hm⟩
theorem sr_l {ln sz : Nat → Int32} {cf : Nat → Nat → Int32} {la si ce : Nat → Int32} (h : SR ln sz cf la si ce) : ln 0 = -1 ↔ la 0 = -4 := by
  rcases (h 0 (by decide)).1 with ⟨a, b⟩ | ⟨l, h1, h2, h3⟩
  · exact ⟨fun _ => b, fun _ => a⟩
  · rw [h2, h3]
    exact ⟨fun q => absurd q (nI_n1 (by omega)), fun q => absurd q (nI_n4 (by omega))⟩
theorem sr_z {ln sz : Nat → Int32} {cf : Nat → Nat → Int32} {la si ce : Nat → Int32} (h : SR ln sz cf la si ce) : ¬ ln 0 = -1 → sz 0 = si 0 := fun _ => by
  obtain ⟨_, N, _, h1, h2, _⟩ := h 0 (by decide)
  rw [h1, h2]
theorem sr_4 {ln sz : Nat → Int32} {cf : Nat → Nat → Int32} {la si ce : Nat → Int32} (h : SR ln sz cf la si ce) : ∀ j, j < 4 → ∃ N, sz j = nI N ∧ N ≤ 40 := fun j hj => by
  obtain ⟨_, N, h0, h1, _⟩ := h j hj
  exact ⟨N, h1, h0⟩
theorem sr_m {ln sz : Nat → Int32} {cf : Nat → Nat → Int32} {la si ce : Nat → Int32} (h : SR ln sz cf la si ce) : ∀ K, K < 4 → ∃ m, m ≤ 40 ∧ si K = nI m := fun j hj => by
  obtain ⟨_, N, h0, _, h2, _⟩ := h j hj
  exact ⟨N, h0, h2⟩
theorem sr_cg {ln sz ln' sz' : Nat → Int32} {cf cf' : Nat → Nat → Int32} {la si ce : Nat → Int32} (h : SR ln sz cf la si ce) (e : ∀ j, j < 4 → ln' j = ln j ∧ sz' j = sz j ∧ cf' j = cf j) : SR ln' sz' cf' la si ce := by
  intro j hj
  obtain ⟨a, b, c⟩ := e j hj
  rw [a, b, c]
  exact h j hj
theorem lt4 {Q : Nat → Prop} (h0 : Q 0) (h1 : Q 1) (h2 : Q 2) (h3 : Q 3) : ∀ j, j < 4 → Q j := fun j hj => by
  match j, hj with
  | 0, _ => exact h0
  | 1, _ => exact h1
  | 2, _ => exact h2
  | 3, _ => exact h3
theorem sr_w4 {x0 x1 x2 x3 x5 x6 : Nat} {y7 y8 y9 : Int32} {ln sz : Nat → Int32} {cf : Nat → Nat → Int32} {la si ce : Nat → Int32} (h : SR ln sz cf la si ce) : SR (shL 2 (w4 x0 x1 x2 x3 x5 x6 y7 y8 y9 ln sz cf)) (shZ 2 (w4 x0 x1 x2 x3 x5 x6 y7 y8 y9 ln sz cf)) (shF 2 (w4 x0 x1 x2 x3 x5 x6 y7 y8 y9 ln sz cf)) la si ce := sr_cg h (lt4 ⟨rfl, rfl, rfl⟩ ⟨rfl, rfl, rfl⟩ ⟨rfl, rfl, rfl⟩ ⟨rfl, rfl, rfl⟩)
theorem sr_w5 {x0 x1 x2 x3 x5 : Nat} {y7 y8 y9 : Int32} {s : Nat → Int32} {F : Nat → Nat → Int32} {ln sz : Nat → Int32} {cf : Nat → Nat → Int32} {la si ce : Nat → Int32} (h : SR ln sz cf la si ce) : SR (shL 12 (w5 x0 x1 x2 x3 x5 y7 y8 y9 s F ln sz cf)) (shZ 12 (w5 x0 x1 x2 x3 x5 y7 y8 y9 s F ln sz cf)) (shF 12 (w5 x0 x1 x2 x3 x5 y7 y8 y9 s F ln sz cf)) la si ce := sr_cg h (lt4 ⟨rfl, rfl, rfl⟩ ⟨rfl, rfl, rfl⟩ ⟨rfl, rfl, rfl⟩ ⟨rfl, rfl, rfl⟩)
theorem li_msh {P n t : Nat} {y7 : Int32} {y8 : Int32} {y9 : Int32} {ln : Int32} {ta : Nat → Int32} {s2 : Nat → Int32} {F2 : Nat → Nat → Int32} {s3 : Nat → Int32} {F3 : Nat → Nat → Int32} {sl : Nat → Int32} {sz : Nat → Int32} {cf : Nat → Nat → Int32} {s : Nat → Int32} {F : Nat → Nat → Int32} {ms : Nat → Int32} {A : Nat → Nat → Int32} {sl' sz' : Nat → Int32} {cf' A' : Nat → Nat → Int32} (h : LIx P n t y7 y8 y9 ln ta s2 F2 s3 F3 sl sz cf s F ms A) (hS : SR sl' sz' cf' (A' 14) (A' 15) (A' 16)) (hA : ∀ i, i < 14 → A' i = A i) : LIx P n t y7 y8 y9 ln ta s2 F2 s3 F3 sl' sz' cf' s F ms A' := by
  obtain ⟨hB, hI, hT, _, hm⟩ := h
  rw [← hA 1 (by decide), ← hA 3 (by decide), ← hA 4 (by decide)] at hB
  rw [← hA 2 (by decide), ← hA 1 (by decide), ← hA 3 (by decide), ← hA 4 (by decide)] at hI
  rw [← hA 8 (by decide)] at hT
  exact ⟨hB, hI, hT, hS, hm⟩

set_option maxRecDepth 100000 in
set_option maxHeartbeats 1000000 in
theorem cs_feed {N : Nat} {xs : Nat → Int32} {G : Nat → sK} {x : Int32} (hx : lX x N) (K : lK G x) {P n t : Nat} {y7 y8 y9 ln : Int32} {ta : Nat → Int32} {e : eT} {s1 : Nat → Int32} {F1 : Nat → Nat → Int32} {a b : Int32} {M : Nat → Nat → Int32} {s2 : Nat → Int32} {F2 : Nat → Nat → Int32} {s3 : Nat → Int32} {F3 : Nat → Nat → Int32} {sl sz : Nat → Int32} {cf : Nat → Nat → Int32} {dt s : Nat → Int32} {F : Nat → Nat → Int32} {ms : Nat → Int32} {A : Nat → Nat → Int32} (h : LIx P n t y7 y8 y9 ln ta s2 F2 s3 F3 sl sz cf s F ms A) : wJ (s_go (some (N, xs)) k_L_law G lP true 99) 2 (lL x) [] (lW y7 y8 y9 ln ta e s1 F1 a b M s2 F2 s3 F3 sl sz cf dt s F ms A) := by
  obtain ⟨⟨hB, hy, hp⟩, ⟨hk, h0, h1⟩, ⟨ht1, ht2, ht3, ht4, ht5⟩, hS, hm8, hm9, hm2, hm3⟩ := id h
  obtain ⟨hs1, hn8, hP8, hnn, hs2x, hs15x, hs18x, hyp, hnd, hh8⟩ := li_x h
  obtain ⟨h00, dd, ll, e1, e2, e3, e4, e5, e6, hs2⟩ := hs2x
  obtain ⟨Np, hs15, hp1, hp2, hpl⟩ := hs15x
  obtain ⟨Sz, hs18, hz2, hz3⟩ := hs18x
  refine st_go rfl rfl (st_al rfl ?_)
  refine st_rd nW (lx hx 1 (by decide)) ?_
  refine st_rw (args := [.ref 0, .int (xs (x + 1).toNatClampNeg)]) (rest := []) rfl (fun f hf => hf) rfl (rcvC [.int (xs (x + 1).toNatClampNeg)]) (fp3 [.int (xs (x + 1).toNatClampNeg)]) rfl rfl sub3 rfl ⟨_, _, _, _, _, _, y7, y8, y9, ln, ta, _, t, rfl, rfl, ht1, ht2⟩ ?_
  rintro r L' ⟨hr, hL⟩
  have hr2 : r = some (.int (r_feed ln (xs (x + 1).toNatClampNeg))) := hr
  have hL2 : L' = w3 1003 1014 1019 1040 1049 1050 y7 y8 y9 (q_feed ln (xs (x + 1).toNatClampNeg)) (q_feedF ln (xs (x + 1).toNatClampNeg) ta) := hL
  subst hr2 hL2
  refine ⟨_, rfl, rfl, ?_⟩
  rw [put3]
  refine st_al rfl ?_
  refine st_rd nW (lx hx 1 (by decide)) ?_
  refine st_rw (args := [.ref 60, .int (xs (x + 1).toNatClampNeg)]) (rest := [.int (r_feed ln (xs (x + 1).toNatClampNeg))]) rfl (fun f hf => hf) rfl (rcvM [.int (xs (x + 1).toNatClampNeg)]) (fpm [.int (xs (x + 1).toNatClampNeg)]) rfl rfl subm rfl ⟨ms, A, _, t, rfl, rfl, ht3.trans ht1, ht2⟩ ?_
  rintro r L' ⟨hr, hL⟩
  have hr2 : r = some (.int (r_mfeed (ms 15) (xs (x + 1).toNatClampNeg))) := hr
  have hL2 : L' = mdW (upd ms 15 (q_mfeed (ms 15) (xs (x + 1).toNatClampNeg))) (va_up A 8 (q_mfeedF (ms 15) (xs (x + 1).toNatClampNeg) (A 8))) := hL
  subst hr2 hL2
  refine ⟨_, rfl, rfl, ?_⟩
  rw [putm]
  have hb := li_feed h (xs (x + 1).toNatClampNeg)
  refine st_cmp hb.1 (st_72 ?_)
  obtain ⟨t2, hb2⟩ := hb.2
  exact K P n t2 y7 y8 y9 (q_feed ln (xs (x + 1).toNatClampNeg)) (q_feedF ln (xs (x + 1).toNatClampNeg) ta) e s1 F1 a b M s2 F2 s3 F3 sl sz cf dt s F (upd ms 15 (q_mfeed (ms 15) (xs (x + 1).toNatClampNeg))) (va_up A 8 (q_mfeedF (ms 15) (xs (x + 1).toNatClampNeg) (A 8))) hb2

set_option maxRecDepth 100000 in
set_option maxHeartbeats 1000000 in
theorem cs_end {N : Nat} {xs : Nat → Int32} {G : Nat → sK} {x : Int32} (hx : lX x N) (K : lK G x) {P n t : Nat} {y7 y8 y9 ln : Int32} {ta : Nat → Int32} {e : eT} {s1 : Nat → Int32} {F1 : Nat → Nat → Int32} {a b : Int32} {M : Nat → Nat → Int32} {s2 : Nat → Int32} {F2 : Nat → Nat → Int32} {s3 : Nat → Int32} {F3 : Nat → Nat → Int32} {sl sz : Nat → Int32} {cf : Nat → Nat → Int32} {dt s : Nat → Int32} {F : Nat → Nat → Int32} {ms : Nat → Int32} {A : Nat → Nat → Int32} (h : LIx P n t y7 y8 y9 ln ta s2 F2 s3 F3 sl sz cf s F ms A) : wJ (s_go (some (N, xs)) k_L_law G lP true 99) 3 (lL x) [] (lW y7 y8 y9 ln ta e s1 F1 a b M s2 F2 s3 F3 sl sz cf dt s F ms A) := by
  obtain ⟨⟨hB, hy, hp⟩, ⟨hk, h0, h1⟩, ⟨ht1, ht2, ht3, ht4, ht5⟩, hS, hm8, hm9, hm2, hm3⟩ := id h
  obtain ⟨hs1, hn8, hP8, hnn, hs2x, hs15x, hs18x, hyp, hnd, hh8⟩ := li_x h
  obtain ⟨h00, dd, ll, e1, e2, e3, e4, e5, e6, hs2⟩ := hs2x
  obtain ⟨Np, hs15, hp1, hp2, hpl⟩ := hs15x
  obtain ⟨Sz, hs18, hz2, hz3⟩ := hs18x
  refine st_go rfl rfl (st_al rfl ?_)
  refine st_rd nW (lx hx 1 (by decide)) ?_
  refine st_rw (args := [.ref 0, .int (xs (x + 1).toNatClampNeg)]) (rest := []) rfl (fun f hf => hf) rfl (rcvC [.int (xs (x + 1).toNatClampNeg)]) (fp3 [.int (xs (x + 1).toNatClampNeg)]) rfl rfl sub3 rfl ⟨_, _, _, _, _, _, y7, y8, y9, ln, ta, _, rfl, rfl⟩ ?_
  rintro r L' ⟨hr, hL⟩
  have hr2 : r = some (.int (r_end ln (xs (x + 1).toNatClampNeg))) := hr
  have hL2 : L' = w3 1003 1014 1019 1040 1049 1050 y7 y8 y9 (q_end ln (xs (x + 1).toNatClampNeg)) ta := hL
  subst hr2 hL2
  refine ⟨_, rfl, rfl, ?_⟩
  rw [put3]
  refine st_al rfl ?_
  refine st_rd nW (lx hx 1 (by decide)) ?_
  refine st_rw (args := [.ref 60, .int (xs (x + 1).toNatClampNeg)]) (rest := [.int (r_end ln (xs (x + 1).toNatClampNeg))]) rfl (fun f hf => hf) rfl (rcvM [.int (xs (x + 1).toNatClampNeg)]) (fpm [.int (xs (x + 1).toNatClampNeg)]) rfl rfl subm rfl ⟨ms, A, _, rfl, rfl⟩ ?_
  rintro r L' ⟨hr, hL⟩
  have hr2 : r = some (.int (r_mend (ms 15) (xs (x + 1).toNatClampNeg))) := hr
  have hL2 : L' = mdW (upd ms 15 (q_mend (ms 15) (xs (x + 1).toNatClampNeg))) A := hL
  subst hr2 hL2
  refine ⟨_, rfl, rfl, ?_⟩
  rw [putm]
  have hb := li_end h (xs (x + 1).toNatClampNeg)
  refine st_cmp hb.1 (st_72 ?_)
  obtain ⟨t2, hb2⟩ := hb.2
  exact K P n t2 y7 y8 y9 (q_end ln (xs (x + 1).toNatClampNeg)) ta e s1 F1 a b M s2 F2 s3 F3 sl sz cf dt s F (upd ms 15 (q_mend (ms 15) (xs (x + 1).toNatClampNeg))) A hb2

set_option maxRecDepth 100000 in
set_option maxHeartbeats 1000000 in
theorem cs_fault {N : Nat} {xs : Nat → Int32} {G : Nat → sK} {x : Int32} (hx : lX x N) (K : lK G x) {P n t : Nat} {y7 y8 y9 ln : Int32} {ta : Nat → Int32} {e : eT} {s1 : Nat → Int32} {F1 : Nat → Nat → Int32} {a b : Int32} {M : Nat → Nat → Int32} {s2 : Nat → Int32} {F2 : Nat → Nat → Int32} {s3 : Nat → Int32} {F3 : Nat → Nat → Int32} {sl sz : Nat → Int32} {cf : Nat → Nat → Int32} {dt s : Nat → Int32} {F : Nat → Nat → Int32} {ms : Nat → Int32} {A : Nat → Nat → Int32} (h : LIx P n t y7 y8 y9 ln ta s2 F2 s3 F3 sl sz cf s F ms A) : wJ (s_go (some (N, xs)) k_L_law G lP true 99) 5 (lL x) [] (lW y7 y8 y9 ln ta e s1 F1 a b M s2 F2 s3 F3 sl sz cf dt s F ms A) := by
  obtain ⟨⟨hB, hy, hp⟩, ⟨hk, h0, h1⟩, ⟨ht1, ht2, ht3, ht4, ht5⟩, hS, hm8, hm9, hm2, hm3⟩ := id h
  obtain ⟨hs1, hn8, hP8, hnn, hs2x, hs15x, hs18x, hyp, hnd, hh8⟩ := li_x h
  obtain ⟨h00, dd, ll, e1, e2, e3, e4, e5, e6, hs2⟩ := hs2x
  obtain ⟨Np, hs15, hp1, hp2, hpl⟩ := hs15x
  obtain ⟨Sz, hs18, hz2, hz3⟩ := hs18x
  refine st_go rfl rfl (st_al rfl ?_)
  refine st_ro (args := [.ref 0]) (rest := []) rfl (fun f hf => hf) rfl (rcvC []) rfl rfl rfl sub0 rfl ⟨_, _, _, _, _, _, _, y7, y8, y9, rfl, rfl⟩ ?_
  intro r hr
  have hr2 : r = some (.int (y8)) := hr
  subst hr2
  refine ⟨_, rfl, rfl, ?_⟩
  refine st_al rfl ?_
  refine st_ro (args := [.ref 60]) (rest := [.int (y8)]) rfl (fun f hf => hf) rfl (rcvM []) (fpm []) rfl rfl subm rfl ⟨ms, A, rfl, rfl⟩ ?_
  intro r hr
  have hr2 : r = some (.int (ms 20)) := hr
  subst hr2
  refine ⟨_, rfl, rfl, ?_⟩
  have hb := hm8
  refine st_cmp hb (st_72 ?_)
  exact K P n t y7 y8 y9 ln ta e s1 F1 a b M s2 F2 s3 F3 sl sz cf dt s F ms A (h)

set_option maxRecDepth 100000 in
set_option maxHeartbeats 1000000 in
theorem cs_torn {N : Nat} {xs : Nat → Int32} {G : Nat → sK} {x : Int32} (hx : lX x N) (K : lK G x) {P n t : Nat} {y7 y8 y9 ln : Int32} {ta : Nat → Int32} {e : eT} {s1 : Nat → Int32} {F1 : Nat → Nat → Int32} {a b : Int32} {M : Nat → Nat → Int32} {s2 : Nat → Int32} {F2 : Nat → Nat → Int32} {s3 : Nat → Int32} {F3 : Nat → Nat → Int32} {sl sz : Nat → Int32} {cf : Nat → Nat → Int32} {dt s : Nat → Int32} {F : Nat → Nat → Int32} {ms : Nat → Int32} {A : Nat → Nat → Int32} (h : LIx P n t y7 y8 y9 ln ta s2 F2 s3 F3 sl sz cf s F ms A) : wJ (s_go (some (N, xs)) k_L_law G lP true 99) 70 (lL x) [] (lW y7 y8 y9 ln ta e s1 F1 a b M s2 F2 s3 F3 sl sz cf dt s F ms A) := by
  obtain ⟨⟨hB, hy, hp⟩, ⟨hk, h0, h1⟩, ⟨ht1, ht2, ht3, ht4, ht5⟩, hS, hm8, hm9, hm2, hm3⟩ := id h
  obtain ⟨hs1, hn8, hP8, hnn, hs2x, hs15x, hs18x, hyp, hnd, hh8⟩ := li_x h
  obtain ⟨h00, dd, ll, e1, e2, e3, e4, e5, e6, hs2⟩ := hs2x
  obtain ⟨Np, hs15, hp1, hp2, hpl⟩ := hs15x
  obtain ⟨Sz, hs18, hz2, hz3⟩ := hs18x
  refine st_go rfl rfl (st_al rfl ?_)
  refine st_ro (args := [.ref 0]) (rest := []) rfl (fun f hf => hf) rfl (rcvC []) rfl rfl rfl sub0 rfl ⟨_, _, _, _, _, _, _, y7, y8, y9, rfl, rfl⟩ ?_
  intro r hr
  have hr2 : r = some (.int (y9)) := hr
  subst hr2
  refine ⟨_, rfl, rfl, ?_⟩
  refine st_al rfl ?_
  refine st_ro (args := [.ref 60]) (rest := [.int (y9)]) rfl (fun f hf => hf) rfl (rcvM []) (fpm []) rfl rfl subm rfl ⟨ms, A, rfl, rfl⟩ ?_
  intro r hr
  have hr2 : r = some (.int (ms 30)) := hr
  subst hr2
  refine ⟨_, rfl, rfl, ?_⟩
  have hb := hm9
  refine st_cmp hb (st_72 ?_)
  exact K P n t y7 y8 y9 ln ta e s1 F1 a b M s2 F2 s3 F3 sl sz cf dt s F ms A (h)

set_option maxRecDepth 100000 in
set_option maxHeartbeats 1000000 in
theorem cs_rule {N : Nat} {xs : Nat → Int32} {G : Nat → sK} {x : Int32} (hx : lX x N) (K : lK G x) {P n t : Nat} {y7 y8 y9 ln : Int32} {ta : Nat → Int32} {e : eT} {s1 : Nat → Int32} {F1 : Nat → Nat → Int32} {a b : Int32} {M : Nat → Nat → Int32} {s2 : Nat → Int32} {F2 : Nat → Nat → Int32} {s3 : Nat → Int32} {F3 : Nat → Nat → Int32} {sl sz : Nat → Int32} {cf : Nat → Nat → Int32} {dt s : Nat → Int32} {F : Nat → Nat → Int32} {ms : Nat → Int32} {A : Nat → Nat → Int32} (h : LIx P n t y7 y8 y9 ln ta s2 F2 s3 F3 sl sz cf s F ms A) : wJ (s_go (some (N, xs)) k_L_law G lP true 99) 6 (lL x) [] (lW y7 y8 y9 ln ta e s1 F1 a b M s2 F2 s3 F3 sl sz cf dt s F ms A) := by
  obtain ⟨⟨hB, hy, hp⟩, ⟨hk, h0, h1⟩, ⟨ht1, ht2, ht3, ht4, ht5⟩, hS, hm8, hm9, hm2, hm3⟩ := id h
  obtain ⟨hs1, hn8, hP8, hnn, hs2x, hs15x, hs18x, hyp, hnd, hh8⟩ := li_x h
  obtain ⟨h00, dd, ll, e1, e2, e3, e4, e5, e6, hs2⟩ := hs2x
  obtain ⟨Np, hs15, hp1, hp2, hpl⟩ := hs15x
  obtain ⟨Sz, hs18, hz2, hz3⟩ := hs18x
  refine st_go rfl rfl (st_al rfl ?_)
  refine st_rd nW (lx hx 1 (by decide)) ?_
  refine st_ro (args := [.ref 0, .int (xs (x + 1).toNatClampNeg)]) (rest := []) rfl (fun f hf => hf) rfl (rcvC [.int (xs (x + 1).toNatClampNeg)]) (fp1 [.int (xs (x + 1).toNatClampNeg)]) rfl rfl sub1 rfl ⟨_, _, _, _, _, _, y7, y8, y9, s, F, _, rfl, rfl⟩ ?_
  intro r hr
  have hr2 : r = some (.int (r_rule s (xs (x + 1).toNatClampNeg))) := hr
  subst hr2
  refine ⟨_, rfl, rfl, ?_⟩
  refine st_al rfl ?_
  refine st_rd nW (lx hx 1 (by decide)) ?_
  refine st_ro (args := [.ref 60, .int (xs (x + 1).toNatClampNeg)]) (rest := [.int (r_rule s (xs (x + 1).toNatClampNeg))]) rfl (fun f hf => hf) rfl (rcvM [.int (xs (x + 1).toNatClampNeg)]) (fpm [.int (xs (x + 1).toNatClampNeg)]) rfl rfl subm rfl ⟨ms, A, _, rfl, rfl⟩ ?_
  intro r hr
  have hr2 : r = some (.int (r_mrule (ms 2) (ms 3) (A 1) (xs (x + 1).toNatClampNeg))) := hr
  try simp only [hm2, hm3, hnn] at hr2
  subst hr2
  refine ⟨_, rfl, rfl, ?_⟩
  have hb := pu_rule hB (xs (x + 1).toNatClampNeg)
  refine st_cmp hb (st_72 ?_)
  exact K P n t y7 y8 y9 ln ta e s1 F1 a b M s2 F2 s3 F3 sl sz cf dt s F ms A (h)

set_option maxRecDepth 100000 in
set_option maxHeartbeats 1000000 in
theorem cs_wish {N : Nat} {xs : Nat → Int32} {G : Nat → sK} {x : Int32} (hx : lX x N) (K : lK G x) {P n t : Nat} {y7 y8 y9 ln : Int32} {ta : Nat → Int32} {e : eT} {s1 : Nat → Int32} {F1 : Nat → Nat → Int32} {a b : Int32} {M : Nat → Nat → Int32} {s2 : Nat → Int32} {F2 : Nat → Nat → Int32} {s3 : Nat → Int32} {F3 : Nat → Nat → Int32} {sl sz : Nat → Int32} {cf : Nat → Nat → Int32} {dt s : Nat → Int32} {F : Nat → Nat → Int32} {ms : Nat → Int32} {A : Nat → Nat → Int32} (h : LIx P n t y7 y8 y9 ln ta s2 F2 s3 F3 sl sz cf s F ms A) : wJ (s_go (some (N, xs)) k_L_law G lP true 99) 7 (lL x) [] (lW y7 y8 y9 ln ta e s1 F1 a b M s2 F2 s3 F3 sl sz cf dt s F ms A) := by
  obtain ⟨⟨hB, hy, hp⟩, ⟨hk, h0, h1⟩, ⟨ht1, ht2, ht3, ht4, ht5⟩, hS, hm8, hm9, hm2, hm3⟩ := id h
  obtain ⟨hs1, hn8, hP8, hnn, hs2x, hs15x, hs18x, hyp, hnd, hh8⟩ := li_x h
  obtain ⟨h00, dd, ll, e1, e2, e3, e4, e5, e6, hs2⟩ := hs2x
  obtain ⟨Np, hs15, hp1, hp2, hpl⟩ := hs15x
  obtain ⟨Sz, hs18, hz2, hz3⟩ := hs18x
  refine st_go rfl rfl (st_al rfl ?_)
  refine st_rd nW (lx hx 1 (by decide)) ?_
  refine st_rd nW (lx hx 2 (by decide)) ?_
  refine st_ro (args := [.ref 0, .int (xs (x + 1).toNatClampNeg), .int (xs (x + 2).toNatClampNeg)]) (rest := []) rfl (fun f hf => hf) rfl (rcvC [.int (xs (x + 1).toNatClampNeg), .int (xs (x + 2).toNatClampNeg)]) (fp1 [.int (xs (x + 1).toNatClampNeg), .int (xs (x + 2).toNatClampNeg)]) rfl rfl sub1 rfl ⟨_, _, _, _, _, _, y7, y8, y9, s, F, _, _, n, rfl, rfl, hs1, hn8⟩ ?_
  intro r hr
  have hr2 : r = some (.int (r_wish s F (xs (x + 1).toNatClampNeg) (xs (x + 2).toNatClampNeg))) := hr
  subst hr2
  refine ⟨_, rfl, rfl, ?_⟩
  refine st_al rfl ?_
  refine st_rd nW (lx hx 1 (by decide)) ?_
  refine st_rd nW (lx hx 2 (by decide)) ?_
  refine st_ro (args := [.ref 60, .int (xs (x + 1).toNatClampNeg), .int (xs (x + 2).toNatClampNeg)]) (rest := [.int (r_wish s F (xs (x + 1).toNatClampNeg) (xs (x + 2).toNatClampNeg))]) rfl (fun f hf => hf) rfl (rcvM [.int (xs (x + 1).toNatClampNeg), .int (xs (x + 2).toNatClampNeg)]) (fpm [.int (xs (x + 1).toNatClampNeg), .int (xs (x + 2).toNatClampNeg)]) rfl rfl subm rfl ⟨ms, A, _, _, n, rfl, rfl, hm3, hn8⟩ ?_
  intro r hr
  have hr2 : r = some (.int (r_mwish (ms 3) (A 1) (A 3) (A 4) (ms 3).toNatClampNeg (xs (x + 1).toNatClampNeg) (xs (x + 2).toNatClampNeg))) := hr
  try simp only [hm2, hm3, hnn] at hr2
  subst hr2
  refine ⟨_, rfl, rfl, ?_⟩
  have hb := pu_wish hB hyp (xs (x + 1).toNatClampNeg) (xs (x + 2).toNatClampNeg)
  refine st_cmp hb (st_72 ?_)
  exact K P n t y7 y8 y9 ln ta e s1 F1 a b M s2 F2 s3 F3 sl sz cf dt s F ms A (h)

set_option maxRecDepth 100000 in
set_option maxHeartbeats 1000000 in
theorem cs_plan {N : Nat} {xs : Nat → Int32} {G : Nat → sK} {x : Int32} (hx : lX x N) (K : lK G x) {P n t : Nat} {y7 y8 y9 ln : Int32} {ta : Nat → Int32} {e : eT} {s1 : Nat → Int32} {F1 : Nat → Nat → Int32} {a b : Int32} {M : Nat → Nat → Int32} {s2 : Nat → Int32} {F2 : Nat → Nat → Int32} {s3 : Nat → Int32} {F3 : Nat → Nat → Int32} {sl sz : Nat → Int32} {cf : Nat → Nat → Int32} {dt s : Nat → Int32} {F : Nat → Nat → Int32} {ms : Nat → Int32} {A : Nat → Nat → Int32} (h : LIx P n t y7 y8 y9 ln ta s2 F2 s3 F3 sl sz cf s F ms A) : wJ (s_go (some (N, xs)) k_L_law G lP true 99) 8 (lL x) [] (lW y7 y8 y9 ln ta e s1 F1 a b M s2 F2 s3 F3 sl sz cf dt s F ms A) := by
  obtain ⟨⟨hB, hy, hp⟩, ⟨hk, h0, h1⟩, ⟨ht1, ht2, ht3, ht4, ht5⟩, hS, hm8, hm9, hm2, hm3⟩ := id h
  obtain ⟨hs1, hn8, hP8, hnn, hs2x, hs15x, hs18x, hyp, hnd, hh8⟩ := li_x h
  obtain ⟨h00, dd, ll, e1, e2, e3, e4, e5, e6, hs2⟩ := hs2x
  obtain ⟨Np, hs15, hp1, hp2, hpl⟩ := hs15x
  obtain ⟨Sz, hs18, hz2, hz3⟩ := hs18x
  refine st_go rfl rfl (st_al rfl ?_)
  refine st_rd nW (lx hx 1 (by decide)) ?_
  refine st_ro (args := [.ref 0, .int (xs (x + 1).toNatClampNeg)]) (rest := []) rfl (fun f hf => hf) rfl (rcvC [.int (xs (x + 1).toNatClampNeg)]) (fp1 [.int (xs (x + 1).toNatClampNeg)]) rfl rfl sub1 rfl ⟨_, _, _, _, _, _, y7, y8, y9, s, F, _, Np, rfl, rfl, hs15, hp1⟩ ?_
  intro r hr
  have hr2 : r = some (.int (r_plan s F (xs (x + 1).toNatClampNeg))) := hr
  subst hr2
  refine ⟨_, rfl, rfl, ?_⟩
  refine st_al rfl ?_
  refine st_rd nW (lx hx 1 (by decide)) ?_
  refine st_ro (args := [.ref 60, .int (xs (x + 1).toNatClampNeg)]) (rest := [.int (r_plan s F (xs (x + 1).toNatClampNeg))]) rfl (fun f hf => hf) rfl (rcvM [.int (xs (x + 1).toNatClampNeg)]) (fpm [.int (xs (x + 1).toNatClampNeg)]) rfl rfl subm rfl ⟨ms, A, _, Np, rfl, rfl, hp2, hp1⟩ ?_
  intro r hr
  have hr2 : r = some (.int (r_mplan (A 1) (xs (x + 1).toNatClampNeg))) := hr
  try simp only [hm2, hm3, hnn] at hr2
  subst hr2
  refine ⟨_, rfl, rfl, ?_⟩
  have hb := pu_plan hB (xs (x + 1).toNatClampNeg)
  refine st_cmp hb (st_72 ?_)
  exact K P n t y7 y8 y9 ln ta e s1 F1 a b M s2 F2 s3 F3 sl sz cf dt s F ms A (h)

set_option maxRecDepth 100000 in
set_option maxHeartbeats 1000000 in
theorem cs_live {N : Nat} {xs : Nat → Int32} {G : Nat → sK} {x : Int32} (hx : lX x N) (K : lK G x) {P n t : Nat} {y7 y8 y9 ln : Int32} {ta : Nat → Int32} {e : eT} {s1 : Nat → Int32} {F1 : Nat → Nat → Int32} {a b : Int32} {M : Nat → Nat → Int32} {s2 : Nat → Int32} {F2 : Nat → Nat → Int32} {s3 : Nat → Int32} {F3 : Nat → Nat → Int32} {sl sz : Nat → Int32} {cf : Nat → Nat → Int32} {dt s : Nat → Int32} {F : Nat → Nat → Int32} {ms : Nat → Int32} {A : Nat → Nat → Int32} (h : LIx P n t y7 y8 y9 ln ta s2 F2 s3 F3 sl sz cf s F ms A) : wJ (s_go (some (N, xs)) k_L_law G lP true 99) 9 (lL x) [] (lW y7 y8 y9 ln ta e s1 F1 a b M s2 F2 s3 F3 sl sz cf dt s F ms A) := by
  obtain ⟨⟨hB, hy, hp⟩, ⟨hk, h0, h1⟩, ⟨ht1, ht2, ht3, ht4, ht5⟩, hS, hm8, hm9, hm2, hm3⟩ := id h
  obtain ⟨hs1, hn8, hP8, hnn, hs2x, hs15x, hs18x, hyp, hnd, hh8⟩ := li_x h
  obtain ⟨h00, dd, ll, e1, e2, e3, e4, e5, e6, hs2⟩ := hs2x
  obtain ⟨Np, hs15, hp1, hp2, hpl⟩ := hs15x
  obtain ⟨Sz, hs18, hz2, hz3⟩ := hs18x
  refine st_go rfl rfl (st_al rfl ?_)
  refine st_rd nW (lx hx 1 (by decide)) ?_
  refine st_rd nW (lx hx 2 (by decide)) ?_
  refine st_if (fun q => ?_) (fun q => ?_)
  · refine st_go rfl rfl (st_ic (st_nop (st_go rfl rfl ?_)))
    refine st_rw (args := [.ref 0, .int (xs (x + 1).toNatClampNeg), .int 0]) (rest := []) rfl (fun f hf => hf) rfl (rcvC [.int (xs (x + 1).toNatClampNeg), .int 0]) (fp1 [.int (xs (x + 1).toNatClampNeg), .int 0]) rfl rfl sub1 rfl ⟨_, _, _, _, _, _, y7, y8, y9, s, F, _, _, rfl, rfl⟩ ?_
    rintro r L' ⟨hr, hL⟩
    have hr2 : r = some (.int (r_bit 3 0 s (xs (x + 1).toNatClampNeg))) := hr
    have hL2 : L' = w1 1001 1003 1014 1019 1040 1049 y7 y8 y9 (q_bit 3 0 s (xs (x + 1).toNatClampNeg) 0) F := hL
    subst hr2 hL2
    refine ⟨_, rfl, rfl, ?_⟩
    rw [put1]
    refine st_al rfl ?_
    refine st_rd nW (lx hx 1 (by decide)) ?_
    refine st_rd nW (lx hx 2 (by decide)) ?_
    refine st_if (fun q2 => ?_) (fun q2 => absurd q q2)
    refine st_go rfl rfl (st_ic (st_nop (st_go rfl rfl ?_)))
    refine st_rw (args := [.ref 60, .int (xs (x + 1).toNatClampNeg), .int 0]) (rest := [.int (r_bit 3 0 s (xs (x + 1).toNatClampNeg))]) rfl (fun f hf => hf) rfl (rcvM [.int (xs (x + 1).toNatClampNeg), .int 0]) (fpm [.int (xs (x + 1).toNatClampNeg), .int 0]) rfl rfl subm rfl ⟨ms, A, _, _, P, rfl, rfl, hm2, hP8⟩ ?_
    rintro r L' ⟨hr, hL⟩
    have hr2 : r = some (.int (r_bitv (ms 2) (A 1 0) (xs (x + 1).toNatClampNeg))) := hr
    have hL2 : L' = mdW ms (va_up A 1 (q_mbit 0 (ms 2) (A 1) (xs (x + 1).toNatClampNeg) 0)) := hL
    try simp only [hm2, hm3, hnn] at hL2
    try simp only [hm2, hm3, hnn] at hr2
    subst hr2 hL2
    refine ⟨_, rfl, rfl, ?_⟩
    rw [putm]
    have hb := pu_live hB (xs (x + 1).toNatClampNeg) 0
    refine st_cmp hb.1 (st_72 ?_)
    exact K P n t y7 y8 y9 ln ta e s1 F1 a b M s2 F2 s3 F3 sl sz cf dt (q_bit 3 0 s (xs (x + 1).toNatClampNeg) 0) F _ _ (LI_st h hb.2 rfl rfl (hi_bit (by decide) _ _ _ _))
  · refine st_ic (st_goto (st_go rfl rfl ?_))
    refine st_rw (args := [.ref 0, .int (xs (x + 1).toNatClampNeg), .int 1]) (rest := []) rfl (fun f hf => hf) rfl (rcvC [.int (xs (x + 1).toNatClampNeg), .int 1]) (fp1 [.int (xs (x + 1).toNatClampNeg), .int 1]) rfl rfl sub1 rfl ⟨_, _, _, _, _, _, y7, y8, y9, s, F, _, _, rfl, rfl⟩ ?_
    rintro r L' ⟨hr, hL⟩
    have hr2 : r = some (.int (r_bit 3 0 s (xs (x + 1).toNatClampNeg))) := hr
    have hL2 : L' = w1 1001 1003 1014 1019 1040 1049 y7 y8 y9 (q_bit 3 0 s (xs (x + 1).toNatClampNeg) 1) F := hL
    subst hr2 hL2
    refine ⟨_, rfl, rfl, ?_⟩
    rw [put1]
    refine st_al rfl ?_
    refine st_rd nW (lx hx 1 (by decide)) ?_
    refine st_rd nW (lx hx 2 (by decide)) ?_
    refine st_if (fun q2 => absurd q2 q) (fun q2 => ?_)
    refine st_ic (st_goto (st_go rfl rfl ?_))
    refine st_rw (args := [.ref 60, .int (xs (x + 1).toNatClampNeg), .int 1]) (rest := [.int (r_bit 3 0 s (xs (x + 1).toNatClampNeg))]) rfl (fun f hf => hf) rfl (rcvM [.int (xs (x + 1).toNatClampNeg), .int 1]) (fpm [.int (xs (x + 1).toNatClampNeg), .int 1]) rfl rfl subm rfl ⟨ms, A, _, _, P, rfl, rfl, hm2, hP8⟩ ?_
    rintro r L' ⟨hr, hL⟩
    have hr2 : r = some (.int (r_bitv (ms 2) (A 1 0) (xs (x + 1).toNatClampNeg))) := hr
    have hL2 : L' = mdW ms (va_up A 1 (q_mbit 0 (ms 2) (A 1) (xs (x + 1).toNatClampNeg) 1)) := hL
    try simp only [hm2, hm3, hnn] at hL2
    try simp only [hm2, hm3, hnn] at hr2
    subst hr2 hL2
    refine ⟨_, rfl, rfl, ?_⟩
    rw [putm]
    have hb := pu_live hB (xs (x + 1).toNatClampNeg) 1
    refine st_cmp hb.1 (st_72 ?_)
    exact K P n t y7 y8 y9 ln ta e s1 F1 a b M s2 F2 s3 F3 sl sz cf dt (q_bit 3 0 s (xs (x + 1).toNatClampNeg) 1) F _ _ (LI_st h hb.2 rfl rfl (hi_bit (by decide) _ _ _ _))

set_option maxRecDepth 100000 in
set_option maxHeartbeats 1000000 in
theorem cs_bar {N : Nat} {xs : Nat → Int32} {G : Nat → sK} {x : Int32} (hx : lX x N) (K : lK G x) {P n t : Nat} {y7 y8 y9 ln : Int32} {ta : Nat → Int32} {e : eT} {s1 : Nat → Int32} {F1 : Nat → Nat → Int32} {a b : Int32} {M : Nat → Nat → Int32} {s2 : Nat → Int32} {F2 : Nat → Nat → Int32} {s3 : Nat → Int32} {F3 : Nat → Nat → Int32} {sl sz : Nat → Int32} {cf : Nat → Nat → Int32} {dt s : Nat → Int32} {F : Nat → Nat → Int32} {ms : Nat → Int32} {A : Nat → Nat → Int32} (h : LIx P n t y7 y8 y9 ln ta s2 F2 s3 F3 sl sz cf s F ms A) : wJ (s_go (some (N, xs)) k_L_law G lP true 99) 14 (lL x) [] (lW y7 y8 y9 ln ta e s1 F1 a b M s2 F2 s3 F3 sl sz cf dt s F ms A) := by
  obtain ⟨⟨hB, hy, hp⟩, ⟨hk, h0, h1⟩, ⟨ht1, ht2, ht3, ht4, ht5⟩, hS, hm8, hm9, hm2, hm3⟩ := id h
  obtain ⟨hs1, hn8, hP8, hnn, hs2x, hs15x, hs18x, hyp, hnd, hh8⟩ := li_x h
  obtain ⟨h00, dd, ll, e1, e2, e3, e4, e5, e6, hs2⟩ := hs2x
  obtain ⟨Np, hs15, hp1, hp2, hpl⟩ := hs15x
  obtain ⟨Sz, hs18, hz2, hz3⟩ := hs18x
  refine st_go rfl rfl (st_al rfl ?_)
  refine st_rd nW (lx hx 1 (by decide)) ?_
  refine st_rd nW (lx hx 2 (by decide)) ?_
  refine st_if (fun q => ?_) (fun q => ?_)
  · refine st_go rfl rfl (st_ic (st_nop (st_go rfl rfl ?_)))
    refine st_rw (args := [.ref 0, .int (xs (x + 1).toNatClampNeg), .int 0]) (rest := []) rfl (fun f hf => hf) rfl (rcvC [.int (xs (x + 1).toNatClampNeg), .int 0]) (fp1 [.int (xs (x + 1).toNatClampNeg), .int 0]) rfl rfl sub1 rfl ⟨_, _, _, _, _, _, y7, y8, y9, s, F, _, _, rfl, rfl⟩ ?_
    rintro r L' ⟨hr, hL⟩
    have hr2 : r = some (.int (r_bit 4 0 s (xs (x + 1).toNatClampNeg))) := hr
    have hL2 : L' = w1 1001 1003 1014 1019 1040 1049 y7 y8 y9 (q_bit 4 0 s (xs (x + 1).toNatClampNeg) 0) F := hL
    subst hr2 hL2
    refine ⟨_, rfl, rfl, ?_⟩
    rw [put1]
    refine st_al rfl ?_
    refine st_rd nW (lx hx 1 (by decide)) ?_
    refine st_rd nW (lx hx 2 (by decide)) ?_
    refine st_if (fun q2 => ?_) (fun q2 => absurd q q2)
    refine st_go rfl rfl (st_ic (st_nop (st_go rfl rfl ?_)))
    refine st_rw (args := [.ref 60, .int (xs (x + 1).toNatClampNeg), .int 0]) (rest := [.int (r_bit 4 0 s (xs (x + 1).toNatClampNeg))]) rfl (fun f hf => hf) rfl (rcvM [.int (xs (x + 1).toNatClampNeg), .int 0]) (fpm [.int (xs (x + 1).toNatClampNeg), .int 0]) rfl rfl subm rfl ⟨ms, A, _, _, P, rfl, rfl, hm2, hP8⟩ ?_
    rintro r L' ⟨hr, hL⟩
    have hr2 : r = some (.int (r_bitv (ms 2) (A 1 1) (xs (x + 1).toNatClampNeg))) := hr
    have hL2 : L' = mdW ms (va_up A 1 (q_mbit 1 (ms 2) (A 1) (xs (x + 1).toNatClampNeg) 0)) := hL
    try simp only [hm2, hm3, hnn] at hL2
    try simp only [hm2, hm3, hnn] at hr2
    subst hr2 hL2
    refine ⟨_, rfl, rfl, ?_⟩
    rw [putm]
    have hb := pu_bar hB (xs (x + 1).toNatClampNeg) 0
    refine st_cmp hb.1 (st_72 ?_)
    exact K P n t y7 y8 y9 ln ta e s1 F1 a b M s2 F2 s3 F3 sl sz cf dt (q_bit 4 0 s (xs (x + 1).toNatClampNeg) 0) F _ _ (LI_st h hb.2 rfl rfl (hi_bit (by decide) _ _ _ _))
  · refine st_ic (st_goto (st_go rfl rfl ?_))
    refine st_rw (args := [.ref 0, .int (xs (x + 1).toNatClampNeg), .int 1]) (rest := []) rfl (fun f hf => hf) rfl (rcvC [.int (xs (x + 1).toNatClampNeg), .int 1]) (fp1 [.int (xs (x + 1).toNatClampNeg), .int 1]) rfl rfl sub1 rfl ⟨_, _, _, _, _, _, y7, y8, y9, s, F, _, _, rfl, rfl⟩ ?_
    rintro r L' ⟨hr, hL⟩
    have hr2 : r = some (.int (r_bit 4 0 s (xs (x + 1).toNatClampNeg))) := hr
    have hL2 : L' = w1 1001 1003 1014 1019 1040 1049 y7 y8 y9 (q_bit 4 0 s (xs (x + 1).toNatClampNeg) 1) F := hL
    subst hr2 hL2
    refine ⟨_, rfl, rfl, ?_⟩
    rw [put1]
    refine st_al rfl ?_
    refine st_rd nW (lx hx 1 (by decide)) ?_
    refine st_rd nW (lx hx 2 (by decide)) ?_
    refine st_if (fun q2 => absurd q2 q) (fun q2 => ?_)
    refine st_ic (st_goto (st_go rfl rfl ?_))
    refine st_rw (args := [.ref 60, .int (xs (x + 1).toNatClampNeg), .int 1]) (rest := [.int (r_bit 4 0 s (xs (x + 1).toNatClampNeg))]) rfl (fun f hf => hf) rfl (rcvM [.int (xs (x + 1).toNatClampNeg), .int 1]) (fpm [.int (xs (x + 1).toNatClampNeg), .int 1]) rfl rfl subm rfl ⟨ms, A, _, _, P, rfl, rfl, hm2, hP8⟩ ?_
    rintro r L' ⟨hr, hL⟩
    have hr2 : r = some (.int (r_bitv (ms 2) (A 1 1) (xs (x + 1).toNatClampNeg))) := hr
    have hL2 : L' = mdW ms (va_up A 1 (q_mbit 1 (ms 2) (A 1) (xs (x + 1).toNatClampNeg) 1)) := hL
    try simp only [hm2, hm3, hnn] at hL2
    try simp only [hm2, hm3, hnn] at hr2
    subst hr2 hL2
    refine ⟨_, rfl, rfl, ?_⟩
    rw [putm]
    have hb := pu_bar hB (xs (x + 1).toNatClampNeg) 1
    refine st_cmp hb.1 (st_72 ?_)
    exact K P n t y7 y8 y9 ln ta e s1 F1 a b M s2 F2 s3 F3 sl sz cf dt (q_bit 4 0 s (xs (x + 1).toNatClampNeg) 1) F _ _ (LI_st h hb.2 rfl rfl (hi_bit (by decide) _ _ _ _))

set_option maxRecDepth 100000 in
set_option maxHeartbeats 1000000 in
theorem cs_list {N : Nat} {xs : Nat → Int32} {G : Nat → sK} {x : Int32} (hx : lX x N) (K : lK G x) {P n t : Nat} {y7 y8 y9 ln : Int32} {ta : Nat → Int32} {e : eT} {s1 : Nat → Int32} {F1 : Nat → Nat → Int32} {a b : Int32} {M : Nat → Nat → Int32} {s2 : Nat → Int32} {F2 : Nat → Nat → Int32} {s3 : Nat → Int32} {F3 : Nat → Nat → Int32} {sl sz : Nat → Int32} {cf : Nat → Nat → Int32} {dt s : Nat → Int32} {F : Nat → Nat → Int32} {ms : Nat → Int32} {A : Nat → Nat → Int32} (h : LIx P n t y7 y8 y9 ln ta s2 F2 s3 F3 sl sz cf s F ms A) : wJ (s_go (some (N, xs)) k_L_law G lP true 99) 19 (lL x) [] (lW y7 y8 y9 ln ta e s1 F1 a b M s2 F2 s3 F3 sl sz cf dt s F ms A) := by
  obtain ⟨⟨hB, hy, hp⟩, ⟨hk, h0, h1⟩, ⟨ht1, ht2, ht3, ht4, ht5⟩, hS, hm8, hm9, hm2, hm3⟩ := id h
  obtain ⟨hs1, hn8, hP8, hnn, hs2x, hs15x, hs18x, hyp, hnd, hh8⟩ := li_x h
  obtain ⟨h00, dd, ll, e1, e2, e3, e4, e5, e6, hs2⟩ := hs2x
  obtain ⟨Np, hs15, hp1, hp2, hpl⟩ := hs15x
  obtain ⟨Sz, hs18, hz2, hz3⟩ := hs18x
  refine st_go rfl rfl (st_al rfl ?_)
  refine st_rd nW (lx hx 1 (by decide)) ?_
  refine st_rd nW (lx hx 2 (by decide)) ?_
  refine st_if (fun q => ?_) (fun q => ?_)
  · refine st_go rfl rfl (st_ic (st_nop (st_go rfl rfl ?_)))
    refine st_rw (args := [.ref 0, .int (xs (x + 1).toNatClampNeg), .int 0]) (rest := []) rfl (fun f hf => hf) rfl (rcvC [.int (xs (x + 1).toNatClampNeg), .int 0]) (fp1 [.int (xs (x + 1).toNatClampNeg), .int 0]) rfl rfl sub1 rfl ⟨_, _, _, _, _, _, y7, y8, y9, s, F, _, _, rfl, rfl⟩ ?_
    rintro r L' ⟨hr, hL⟩
    have hr2 : r = some (.int (r_bit 6 1 s (xs (x + 1).toNatClampNeg))) := hr
    have hL2 : L' = w1 1001 1003 1014 1019 1040 1049 y7 y8 y9 (q_bit 6 1 s (xs (x + 1).toNatClampNeg) 0) F := hL
    subst hr2 hL2
    refine ⟨_, rfl, rfl, ?_⟩
    rw [put1]
    refine st_al rfl ?_
    refine st_rd nW (lx hx 1 (by decide)) ?_
    refine st_rd nW (lx hx 2 (by decide)) ?_
    refine st_if (fun q2 => ?_) (fun q2 => absurd q q2)
    refine st_go rfl rfl (st_ic (st_nop (st_go rfl rfl ?_)))
    refine st_rw (args := [.ref 60, .int (xs (x + 1).toNatClampNeg), .int 0]) (rest := [.int (r_bit 6 1 s (xs (x + 1).toNatClampNeg))]) rfl (fun f hf => hf) rfl (rcvM [.int (xs (x + 1).toNatClampNeg), .int 0]) (fpm [.int (xs (x + 1).toNatClampNeg), .int 0]) rfl rfl subm rfl ⟨ms, A, _, _, n, rfl, rfl, hm3, hn8⟩ ?_
    rintro r L' ⟨hr, hL⟩
    have hr2 : r = some (.int (r_bitv (ms 3) (A 1 27) (xs (x + 1).toNatClampNeg))) := hr
    have hL2 : L' = mdW ms (va_up A 1 (q_mbit 27 (ms 3) (A 1) (xs (x + 1).toNatClampNeg) 0)) := hL
    try simp only [hm2, hm3, hnn] at hL2
    try simp only [hm2, hm3, hnn] at hr2
    subst hr2 hL2
    refine ⟨_, rfl, rfl, ?_⟩
    rw [putm]
    have hb := pu_list hB (xs (x + 1).toNatClampNeg) 0
    refine st_cmp hb.1 (st_72 ?_)
    exact K P n t y7 y8 y9 ln ta e s1 F1 a b M s2 F2 s3 F3 sl sz cf dt (q_bit 6 1 s (xs (x + 1).toNatClampNeg) 0) F _ _ (LI_st h hb.2 rfl rfl (hi_bit (by decide) _ _ _ _))
  · refine st_ic (st_goto (st_go rfl rfl ?_))
    refine st_rw (args := [.ref 0, .int (xs (x + 1).toNatClampNeg), .int 1]) (rest := []) rfl (fun f hf => hf) rfl (rcvC [.int (xs (x + 1).toNatClampNeg), .int 1]) (fp1 [.int (xs (x + 1).toNatClampNeg), .int 1]) rfl rfl sub1 rfl ⟨_, _, _, _, _, _, y7, y8, y9, s, F, _, _, rfl, rfl⟩ ?_
    rintro r L' ⟨hr, hL⟩
    have hr2 : r = some (.int (r_bit 6 1 s (xs (x + 1).toNatClampNeg))) := hr
    have hL2 : L' = w1 1001 1003 1014 1019 1040 1049 y7 y8 y9 (q_bit 6 1 s (xs (x + 1).toNatClampNeg) 1) F := hL
    subst hr2 hL2
    refine ⟨_, rfl, rfl, ?_⟩
    rw [put1]
    refine st_al rfl ?_
    refine st_rd nW (lx hx 1 (by decide)) ?_
    refine st_rd nW (lx hx 2 (by decide)) ?_
    refine st_if (fun q2 => absurd q2 q) (fun q2 => ?_)
    refine st_ic (st_goto (st_go rfl rfl ?_))
    refine st_rw (args := [.ref 60, .int (xs (x + 1).toNatClampNeg), .int 1]) (rest := [.int (r_bit 6 1 s (xs (x + 1).toNatClampNeg))]) rfl (fun f hf => hf) rfl (rcvM [.int (xs (x + 1).toNatClampNeg), .int 1]) (fpm [.int (xs (x + 1).toNatClampNeg), .int 1]) rfl rfl subm rfl ⟨ms, A, _, _, n, rfl, rfl, hm3, hn8⟩ ?_
    rintro r L' ⟨hr, hL⟩
    have hr2 : r = some (.int (r_bitv (ms 3) (A 1 27) (xs (x + 1).toNatClampNeg))) := hr
    have hL2 : L' = mdW ms (va_up A 1 (q_mbit 27 (ms 3) (A 1) (xs (x + 1).toNatClampNeg) 1)) := hL
    try simp only [hm2, hm3, hnn] at hL2
    try simp only [hm2, hm3, hnn] at hr2
    subst hr2 hL2
    refine ⟨_, rfl, rfl, ?_⟩
    rw [putm]
    have hb := pu_list hB (xs (x + 1).toNatClampNeg) 1
    refine st_cmp hb.1 (st_72 ?_)
    exact K P n t y7 y8 y9 ln ta e s1 F1 a b M s2 F2 s3 F3 sl sz cf dt (q_bit 6 1 s (xs (x + 1).toNatClampNeg) 1) F _ _ (LI_st h hb.2 rfl rfl (hi_bit (by decide) _ _ _ _))

set_option maxRecDepth 100000 in
set_option maxHeartbeats 1000000 in
theorem cs_depth {N : Nat} {xs : Nat → Int32} {G : Nat → sK} {x : Int32} (hx : lX x N) (K : lK G x) {P n t : Nat} {y7 y8 y9 ln : Int32} {ta : Nat → Int32} {e : eT} {s1 : Nat → Int32} {F1 : Nat → Nat → Int32} {a b : Int32} {M : Nat → Nat → Int32} {s2 : Nat → Int32} {F2 : Nat → Nat → Int32} {s3 : Nat → Int32} {F3 : Nat → Nat → Int32} {sl sz : Nat → Int32} {cf : Nat → Nat → Int32} {dt s : Nat → Int32} {F : Nat → Nat → Int32} {ms : Nat → Int32} {A : Nat → Nat → Int32} (h : LIx P n t y7 y8 y9 ln ta s2 F2 s3 F3 sl sz cf s F ms A) : wJ (s_go (some (N, xs)) k_L_law G lP true 99) 24 (lL x) [] (lW y7 y8 y9 ln ta e s1 F1 a b M s2 F2 s3 F3 sl sz cf dt s F ms A) := by
  obtain ⟨⟨hB, hy, hp⟩, ⟨hk, h0, h1⟩, ⟨ht1, ht2, ht3, ht4, ht5⟩, hS, hm8, hm9, hm2, hm3⟩ := id h
  obtain ⟨hs1, hn8, hP8, hnn, hs2x, hs15x, hs18x, hyp, hnd, hh8⟩ := li_x h
  obtain ⟨h00, dd, ll, e1, e2, e3, e4, e5, e6, hs2⟩ := hs2x
  obtain ⟨Np, hs15, hp1, hp2, hpl⟩ := hs15x
  obtain ⟨Sz, hs18, hz2, hz3⟩ := hs18x
  refine st_go rfl rfl (st_al rfl ?_)
  refine st_rd nW (lx hx 1 (by decide)) ?_
  refine st_rw (args := [.ref 0, .int (xs (x + 1).toNatClampNeg)]) (rest := []) rfl (fun f hf => hf) rfl (rcvC [.int (xs (x + 1).toNatClampNeg)]) (fp1 [.int (xs (x + 1).toNatClampNeg)]) rfl rfl sub1 rfl ⟨_, _, _, _, _, _, y7, y8, y9, s, F, _, rfl, rfl⟩ ?_
  rintro r L' ⟨hr, hL⟩
  have hr2 : r = some (.int (r_cut 2 8 s (xs (x + 1).toNatClampNeg))) := hr
  have hL2 : L' = w1 1001 1003 1014 1019 1040 1049 y7 y8 y9 (q_cut 2 8 s (xs (x + 1).toNatClampNeg)) F := hL
  subst hr2 hL2
  refine ⟨_, rfl, rfl, ?_⟩
  rw [put1]
  refine st_al rfl ?_
  refine st_rd nW (lx hx 1 (by decide)) ?_
  refine st_rw (args := [.ref 60, .int (xs (x + 1).toNatClampNeg)]) (rest := [.int (r_cut 2 8 s (xs (x + 1).toNatClampNeg))]) rfl (fun f hf => hf) rfl (rcvM [.int (xs (x + 1).toNatClampNeg)]) (fpm [.int (xs (x + 1).toNatClampNeg)]) rfl rfl subm rfl ⟨ms, A, _, rfl, rfl⟩ ?_
  rintro r L' ⟨hr, hL⟩
  have hr2 : r = some (.int (r_cutv (8) (A 1 28) (xs (x + 1).toNatClampNeg))) := hr
  have hL2 : L' = mdW ms (va_up A 1 (q_mcut 28 (8) (A 1) (xs (x + 1).toNatClampNeg))) := hL
  try simp only [hm2, hm3, hnn] at hL2
  try simp only [hm2, hm3, hnn] at hr2
  subst hr2 hL2
  refine ⟨_, rfl, rfl, ?_⟩
  rw [putm]
  have hb := pu_depth hB (xs (x + 1).toNatClampNeg)
  refine st_cmp hb.1 (st_72 ?_)
  exact K P n t y7 y8 y9 ln ta e s1 F1 a b M s2 F2 s3 F3 sl sz cf dt (q_cut 2 8 s (xs (x + 1).toNatClampNeg)) F _ _ (LI_st h hb.2 rfl rfl (hi_cut (by decide) _ _ _))

set_option maxRecDepth 100000 in
set_option maxHeartbeats 1000000 in
theorem cs_cut {N : Nat} {xs : Nat → Int32} {G : Nat → sK} {x : Int32} (hx : lX x N) (K : lK G x) {P n t : Nat} {y7 y8 y9 ln : Int32} {ta : Nat → Int32} {e : eT} {s1 : Nat → Int32} {F1 : Nat → Nat → Int32} {a b : Int32} {M : Nat → Nat → Int32} {s2 : Nat → Int32} {F2 : Nat → Nat → Int32} {s3 : Nat → Int32} {F3 : Nat → Nat → Int32} {sl sz : Nat → Int32} {cf : Nat → Nat → Int32} {dt s : Nat → Int32} {F : Nat → Nat → Int32} {ms : Nat → Int32} {A : Nat → Nat → Int32} (h : LIx P n t y7 y8 y9 ln ta s2 F2 s3 F3 sl sz cf s F ms A) : wJ (s_go (some (N, xs)) k_L_law G lP true 99) 41 (lL x) [] (lW y7 y8 y9 ln ta e s1 F1 a b M s2 F2 s3 F3 sl sz cf dt s F ms A) := by
  obtain ⟨⟨hB, hy, hp⟩, ⟨hk, h0, h1⟩, ⟨ht1, ht2, ht3, ht4, ht5⟩, hS, hm8, hm9, hm2, hm3⟩ := id h
  obtain ⟨hs1, hn8, hP8, hnn, hs2x, hs15x, hs18x, hyp, hnd, hh8⟩ := li_x h
  obtain ⟨h00, dd, ll, e1, e2, e3, e4, e5, e6, hs2⟩ := hs2x
  obtain ⟨Np, hs15, hp1, hp2, hpl⟩ := hs15x
  obtain ⟨Sz, hs18, hz2, hz3⟩ := hs18x
  refine st_go rfl rfl (st_al rfl ?_)
  refine st_rd nW (lx hx 1 (by decide)) ?_
  refine st_rw (args := [.ref 0, .int (xs (x + 1).toNatClampNeg)]) (rest := []) rfl (fun f hf => hf) rfl (rcvC [.int (xs (x + 1).toNatClampNeg)]) (fp1 [.int (xs (x + 1).toNatClampNeg)]) rfl rfl sub1 rfl ⟨_, _, _, _, _, _, y7, y8, y9, s, F, _, rfl, rfl⟩ ?_
  rintro r L' ⟨hr, hL⟩
  have hr2 : r = some (.int (r_cut 15 (s 15) s (xs (x + 1).toNatClampNeg))) := hr
  have hL2 : L' = w1 1001 1003 1014 1019 1040 1049 y7 y8 y9 (q_cut 15 (s 15) s (xs (x + 1).toNatClampNeg)) F := hL
  subst hr2 hL2
  refine ⟨_, rfl, rfl, ?_⟩
  rw [put1]
  refine st_al rfl ?_
  refine st_rd nW (lx hx 1 (by decide)) ?_
  refine st_rw (args := [.ref 60, .int (xs (x + 1).toNatClampNeg)]) (rest := [.int (r_cut 15 (s 15) s (xs (x + 1).toNatClampNeg))]) rfl (fun f hf => hf) rfl (rcvM [.int (xs (x + 1).toNatClampNeg)]) (fpm [.int (xs (x + 1).toNatClampNeg)]) rfl rfl subm rfl ⟨ms, A, _, rfl, rfl⟩ ?_
  rintro r L' ⟨hr, hL⟩
  have hr2 : r = some (.int (r_cutv (A 1 29) (A 1 29) (xs (x + 1).toNatClampNeg))) := hr
  have hL2 : L' = mdW ms (va_up A 1 (q_mcut 29 (A 1 29) (A 1) (xs (x + 1).toNatClampNeg))) := hL
  try simp only [hm2, hm3, hnn] at hL2
  try simp only [hm2, hm3, hnn] at hr2
  subst hr2 hL2
  refine ⟨_, rfl, rfl, ?_⟩
  rw [putm]
  have hb := pu_cut hB (xs (x + 1).toNatClampNeg)
  refine st_cmp hb.1 (st_72 ?_)
  exact K P n t y7 y8 y9 ln ta e s1 F1 a b M s2 F2 s3 F3 sl sz cf dt (q_cut 15 (s 15) s (xs (x + 1).toNatClampNeg)) F _ _ (LI_st h hb.2 rfl rfl (hi_cut (by decide) _ _ _))

set_option maxRecDepth 100000 in
set_option maxHeartbeats 1000000 in
theorem cs_forget {N : Nat} {xs : Nat → Int32} {G : Nat → sK} {x : Int32} (hx : lX x N) (K : lK G x) {P n t : Nat} {y7 y8 y9 ln : Int32} {ta : Nat → Int32} {e : eT} {s1 : Nat → Int32} {F1 : Nat → Nat → Int32} {a b : Int32} {M : Nat → Nat → Int32} {s2 : Nat → Int32} {F2 : Nat → Nat → Int32} {s3 : Nat → Int32} {F3 : Nat → Nat → Int32} {sl sz : Nat → Int32} {cf : Nat → Nat → Int32} {dt s : Nat → Int32} {F : Nat → Nat → Int32} {ms : Nat → Int32} {A : Nat → Nat → Int32} (h : LIx P n t y7 y8 y9 ln ta s2 F2 s3 F3 sl sz cf s F ms A) : wJ (s_go (some (N, xs)) k_L_law G lP true 99) 61 (lL x) [] (lW y7 y8 y9 ln ta e s1 F1 a b M s2 F2 s3 F3 sl sz cf dt s F ms A) := by
  obtain ⟨⟨hB, hy, hp⟩, ⟨hk, h0, h1⟩, ⟨ht1, ht2, ht3, ht4, ht5⟩, hS, hm8, hm9, hm2, hm3⟩ := id h
  obtain ⟨hs1, hn8, hP8, hnn, hs2x, hs15x, hs18x, hyp, hnd, hh8⟩ := li_x h
  obtain ⟨h00, dd, ll, e1, e2, e3, e4, e5, e6, hs2⟩ := hs2x
  obtain ⟨Np, hs15, hp1, hp2, hpl⟩ := hs15x
  obtain ⟨Sz, hs18, hz2, hz3⟩ := hs18x
  refine st_go rfl rfl (st_al rfl ?_)
  refine st_rd nW (lx hx 1 (by decide)) ?_
  refine st_rw (args := [.ref 0, .int (xs (x + 1).toNatClampNeg)]) (rest := []) rfl (fun f hf => hf) rfl (rcvC [.int (xs (x + 1).toNatClampNeg)]) (fp1 [.int (xs (x + 1).toNatClampNeg)]) rfl rfl sub1 rfl ⟨_, _, _, _, _, _, y7, y8, y9, s, F, _, rfl, rfl⟩ ?_
  rintro r L' ⟨hr, hL⟩
  have hr2 : r = some (.int (r_cut 18 (s 18) s (xs (x + 1).toNatClampNeg))) := hr
  have hL2 : L' = w1 1001 1003 1014 1019 1040 1049 y7 y8 y9 (q_cut 18 (s 18) s (xs (x + 1).toNatClampNeg)) F := hL
  subst hr2 hL2
  refine ⟨_, rfl, rfl, ?_⟩
  rw [put1]
  refine st_al rfl ?_
  refine st_rd nW (lx hx 1 (by decide)) ?_
  refine st_rw (args := [.ref 60, .int (xs (x + 1).toNatClampNeg)]) (rest := [.int (r_cut 18 (s 18) s (xs (x + 1).toNatClampNeg))]) rfl (fun f hf => hf) rfl (rcvM [.int (xs (x + 1).toNatClampNeg)]) (fpm [.int (xs (x + 1).toNatClampNeg)]) rfl rfl subm rfl ⟨ms, A, _, rfl, rfl⟩ ?_
  rintro r L' ⟨hr, hL⟩
  have hr2 : r = some (.int (r_cutv (A 1 36) (A 1 36) (xs (x + 1).toNatClampNeg))) := hr
  have hL2 : L' = mdW ms (va_up A 1 (q_mcut 36 (A 1 36) (A 1) (xs (x + 1).toNatClampNeg))) := hL
  try simp only [hm2, hm3, hnn] at hL2
  try simp only [hm2, hm3, hnn] at hr2
  subst hr2 hL2
  refine ⟨_, rfl, rfl, ?_⟩
  rw [putm]
  have hb := pu_forget hB (xs (x + 1).toNatClampNeg)
  refine st_cmp hb.1 (st_72 ?_)
  exact K P n t y7 y8 y9 ln ta e s1 F1 a b M s2 F2 s3 F3 sl sz cf dt (q_cut 18 (s 18) s (xs (x + 1).toNatClampNeg)) F _ _ (LI_st h hb.2 rfl rfl (hi_cut (by decide) _ _ _))

set_option maxRecDepth 100000 in
set_option maxHeartbeats 1000000 in
theorem cs_asks {N : Nat} {xs : Nat → Int32} {G : Nat → sK} {x : Int32} (hx : lX x N) (K : lK G x) {P n t : Nat} {y7 y8 y9 ln : Int32} {ta : Nat → Int32} {e : eT} {s1 : Nat → Int32} {F1 : Nat → Nat → Int32} {a b : Int32} {M : Nat → Nat → Int32} {s2 : Nat → Int32} {F2 : Nat → Nat → Int32} {s3 : Nat → Int32} {F3 : Nat → Nat → Int32} {sl sz : Nat → Int32} {cf : Nat → Nat → Int32} {dt s : Nat → Int32} {F : Nat → Nat → Int32} {ms : Nat → Int32} {A : Nat → Nat → Int32} (h : LIx P n t y7 y8 y9 ln ta s2 F2 s3 F3 sl sz cf s F ms A) : wJ (s_go (some (N, xs)) k_L_law G lP true 99) 25 (lL x) [] (lW y7 y8 y9 ln ta e s1 F1 a b M s2 F2 s3 F3 sl sz cf dt s F ms A) := by
  obtain ⟨⟨hB, hy, hp⟩, ⟨hk, h0, h1⟩, ⟨ht1, ht2, ht3, ht4, ht5⟩, hS, hm8, hm9, hm2, hm3⟩ := id h
  obtain ⟨hs1, hn8, hP8, hnn, hs2x, hs15x, hs18x, hyp, hnd, hh8⟩ := li_x h
  obtain ⟨h00, dd, ll, e1, e2, e3, e4, e5, e6, hs2⟩ := hs2x
  obtain ⟨Np, hs15, hp1, hp2, hpl⟩ := hs15x
  obtain ⟨Sz, hs18, hz2, hz3⟩ := hs18x
  refine st_go rfl rfl (st_al rfl ?_)
  refine st_rd nW (lx hx 1 (by decide)) ?_
  refine st_rd nW (lx hx 2 (by decide)) ?_
  refine st_rd nW (lx hx 3 (by decide)) ?_
  refine st_if (fun q => ?_) (fun q => ?_)
  · refine st_go rfl rfl (st_ic (st_nop (st_go rfl rfl ?_)))
    refine st_rw (args := [.ref 0, .int (xs (x + 1).toNatClampNeg), .int (xs (x + 2).toNatClampNeg), .int 0]) (rest := []) rfl (fun f hf => hf) rfl (rcvC [.int (xs (x + 1).toNatClampNeg), .int (xs (x + 2).toNatClampNeg), .int 0]) (fp1 [.int (xs (x + 1).toNatClampNeg), .int (xs (x + 2).toNatClampNeg), .int 0]) rfl rfl sub1 rfl ⟨_, _, _, _, _, _, y7, y8, y9, s, F, _, _, _, n, rfl, rfl, hs1, hn8⟩ ?_
    rintro r L' ⟨hr, hL⟩
    have hr2 : r = some (.int (r_asks s F (xs (x + 1).toNatClampNeg) (xs (x + 2).toNatClampNeg))) := hr
    have hL2 : L' = w1 1001 1003 1014 1019 1040 1049 y7 y8 y9 s (q_asks s F (xs (x + 1).toNatClampNeg) (xs (x + 2).toNatClampNeg) 0) := hL
    subst hr2 hL2
    refine ⟨_, rfl, rfl, ?_⟩
    rw [put1]
    refine st_al rfl ?_
    refine st_rd nW (lx hx 1 (by decide)) ?_
    refine st_rd nW (lx hx 2 (by decide)) ?_
    refine st_rd nW (lx hx 3 (by decide)) ?_
    refine st_if (fun q2 => ?_) (fun q2 => absurd q q2)
    refine st_go rfl rfl (st_ic (st_nop (st_go rfl rfl ?_)))
    refine st_rw (args := [.ref 60, .int (xs (x + 1).toNatClampNeg), .int (xs (x + 2).toNatClampNeg), .int 0]) (rest := [.int (r_asks s F (xs (x + 1).toNatClampNeg) (xs (x + 2).toNatClampNeg))]) rfl (fun f hf => hf) rfl (rcvM [.int (xs (x + 1).toNatClampNeg), .int (xs (x + 2).toNatClampNeg), .int 0]) (fpm [.int (xs (x + 1).toNatClampNeg), .int (xs (x + 2).toNatClampNeg), .int 0]) rfl rfl subm rfl ⟨ms, A, _, _, _, n, P, rfl, rfl, hm3, hn8, hm2, hP8⟩ ?_
    rintro r L' ⟨hr, hL⟩
    have hr2 : r = some (.int (r_masks (A 1) (ms 3) (ms 2) (xs (x + 1).toNatClampNeg) (xs (x + 2).toNatClampNeg))) := hr
    have hL2 : L' = mdW ms (va_up A 1 (q_masks (A 1) (ms 3) (ms 2) (xs (x + 1).toNatClampNeg) (xs (x + 2).toNatClampNeg) 0)) := hL
    try simp only [hm2, hm3, hnn] at hL2
    try simp only [hm2, hm3, hnn] at hr2
    subst hr2 hL2
    refine ⟨_, rfl, rfl, ?_⟩
    rw [putm]
    have hb := pu_asks hB (xs (x + 1).toNatClampNeg) (xs (x + 2).toNatClampNeg) 0
    refine st_cmp hb.1 (st_72 ?_)
    exact K P n t y7 y8 y9 ln ta e s1 F1 a b M s2 F2 s3 F3 sl sz cf dt s (q_asks s F (xs (x + 1).toNatClampNeg) (xs (x + 2).toNatClampNeg) 0) _ _ (LI_st h hb.2 (as_1 _ _ _ _ _).1 (as_1 _ _ _ _ _).2 (hi_asks hn8 _ _ _ _ _))
  · refine st_ic (st_goto (st_go rfl rfl ?_))
    refine st_rw (args := [.ref 0, .int (xs (x + 1).toNatClampNeg), .int (xs (x + 2).toNatClampNeg), .int 1]) (rest := []) rfl (fun f hf => hf) rfl (rcvC [.int (xs (x + 1).toNatClampNeg), .int (xs (x + 2).toNatClampNeg), .int 1]) (fp1 [.int (xs (x + 1).toNatClampNeg), .int (xs (x + 2).toNatClampNeg), .int 1]) rfl rfl sub1 rfl ⟨_, _, _, _, _, _, y7, y8, y9, s, F, _, _, _, n, rfl, rfl, hs1, hn8⟩ ?_
    rintro r L' ⟨hr, hL⟩
    have hr2 : r = some (.int (r_asks s F (xs (x + 1).toNatClampNeg) (xs (x + 2).toNatClampNeg))) := hr
    have hL2 : L' = w1 1001 1003 1014 1019 1040 1049 y7 y8 y9 s (q_asks s F (xs (x + 1).toNatClampNeg) (xs (x + 2).toNatClampNeg) 1) := hL
    subst hr2 hL2
    refine ⟨_, rfl, rfl, ?_⟩
    rw [put1]
    refine st_al rfl ?_
    refine st_rd nW (lx hx 1 (by decide)) ?_
    refine st_rd nW (lx hx 2 (by decide)) ?_
    refine st_rd nW (lx hx 3 (by decide)) ?_
    refine st_if (fun q2 => absurd q2 q) (fun q2 => ?_)
    refine st_ic (st_goto (st_go rfl rfl ?_))
    refine st_rw (args := [.ref 60, .int (xs (x + 1).toNatClampNeg), .int (xs (x + 2).toNatClampNeg), .int 1]) (rest := [.int (r_asks s F (xs (x + 1).toNatClampNeg) (xs (x + 2).toNatClampNeg))]) rfl (fun f hf => hf) rfl (rcvM [.int (xs (x + 1).toNatClampNeg), .int (xs (x + 2).toNatClampNeg), .int 1]) (fpm [.int (xs (x + 1).toNatClampNeg), .int (xs (x + 2).toNatClampNeg), .int 1]) rfl rfl subm rfl ⟨ms, A, _, _, _, n, P, rfl, rfl, hm3, hn8, hm2, hP8⟩ ?_
    rintro r L' ⟨hr, hL⟩
    have hr2 : r = some (.int (r_masks (A 1) (ms 3) (ms 2) (xs (x + 1).toNatClampNeg) (xs (x + 2).toNatClampNeg))) := hr
    have hL2 : L' = mdW ms (va_up A 1 (q_masks (A 1) (ms 3) (ms 2) (xs (x + 1).toNatClampNeg) (xs (x + 2).toNatClampNeg) 1)) := hL
    try simp only [hm2, hm3, hnn] at hL2
    try simp only [hm2, hm3, hnn] at hr2
    subst hr2 hL2
    refine ⟨_, rfl, rfl, ?_⟩
    rw [putm]
    have hb := pu_asks hB (xs (x + 1).toNatClampNeg) (xs (x + 2).toNatClampNeg) 1
    refine st_cmp hb.1 (st_72 ?_)
    exact K P n t y7 y8 y9 ln ta e s1 F1 a b M s2 F2 s3 F3 sl sz cf dt s (q_asks s F (xs (x + 1).toNatClampNeg) (xs (x + 2).toNatClampNeg) 1) _ _ (LI_st h hb.2 (as_1 _ _ _ _ _).1 (as_1 _ _ _ _ _).2 (hi_asks hn8 _ _ _ _ _))

set_option maxRecDepth 100000 in
set_option maxHeartbeats 1000000 in
theorem cs_needs {N : Nat} {xs : Nat → Int32} {G : Nat → sK} {x : Int32} (hx : lX x N) (K : lK G x) {P n t : Nat} {y7 y8 y9 ln : Int32} {ta : Nat → Int32} {e : eT} {s1 : Nat → Int32} {F1 : Nat → Nat → Int32} {a b : Int32} {M : Nat → Nat → Int32} {s2 : Nat → Int32} {F2 : Nat → Nat → Int32} {s3 : Nat → Int32} {F3 : Nat → Nat → Int32} {sl sz : Nat → Int32} {cf : Nat → Nat → Int32} {dt s : Nat → Int32} {F : Nat → Nat → Int32} {ms : Nat → Int32} {A : Nat → Nat → Int32} (h : LIx P n t y7 y8 y9 ln ta s2 F2 s3 F3 sl sz cf s F ms A) : wJ (s_go (some (N, xs)) k_L_law G lP true 99) 30 (lL x) [] (lW y7 y8 y9 ln ta e s1 F1 a b M s2 F2 s3 F3 sl sz cf dt s F ms A) := by
  obtain ⟨⟨hB, hy, hp⟩, ⟨hk, h0, h1⟩, ⟨ht1, ht2, ht3, ht4, ht5⟩, hS, hm8, hm9, hm2, hm3⟩ := id h
  obtain ⟨hs1, hn8, hP8, hnn, hs2x, hs15x, hs18x, hyp, hnd, hh8⟩ := li_x h
  obtain ⟨h00, dd, ll, e1, e2, e3, e4, e5, e6, hs2⟩ := hs2x
  obtain ⟨Np, hs15, hp1, hp2, hpl⟩ := hs15x
  obtain ⟨Sz, hs18, hz2, hz3⟩ := hs18x
  refine st_go rfl rfl (st_al rfl ?_)
  refine st_rd nW (lx hx 1 (by decide)) ?_
  refine st_rd nW (lx hx 2 (by decide)) ?_
  refine st_rd nW (lx hx 3 (by decide)) ?_
  refine st_if (fun q => ?_) (fun q => ?_)
  · refine st_go rfl rfl (st_ic (st_nop (st_go rfl rfl ?_)))
    refine st_rw (args := [.ref 0, .int (xs (x + 1).toNatClampNeg), .int (xs (x + 2).toNatClampNeg), .int 0]) (rest := []) rfl (fun f hf => hf) rfl (rcvC [.int (xs (x + 1).toNatClampNeg), .int (xs (x + 2).toNatClampNeg), .int 0]) (fp1 [.int (xs (x + 1).toNatClampNeg), .int (xs (x + 2).toNatClampNeg), .int 0]) rfl rfl sub1 rfl ⟨_, _, _, _, _, _, y7, y8, y9, s, F, _, _, _, n, rfl, rfl, hs1, hn8⟩ ?_
    rintro r L' ⟨hr, hL⟩
    have hr2 : r = some (.int (r_needs s F (xs (x + 1).toNatClampNeg) (xs (x + 2).toNatClampNeg))) := hr
    have hL2 : L' = w1 1001 1003 1014 1019 1040 1049 y7 y8 y9 s (q_needs s F (xs (x + 1).toNatClampNeg) (xs (x + 2).toNatClampNeg) 0) := hL
    subst hr2 hL2
    refine ⟨_, rfl, rfl, ?_⟩
    rw [put1]
    refine st_al rfl ?_
    refine st_rd nW (lx hx 1 (by decide)) ?_
    refine st_rd nW (lx hx 2 (by decide)) ?_
    refine st_rd nW (lx hx 3 (by decide)) ?_
    refine st_if (fun q2 => ?_) (fun q2 => absurd q q2)
    refine st_go rfl rfl (st_ic (st_nop (st_go rfl rfl ?_)))
    refine st_rw (args := [.ref 60, .int (xs (x + 1).toNatClampNeg), .int (xs (x + 2).toNatClampNeg), .int 0]) (rest := [.int (r_needs s F (xs (x + 1).toNatClampNeg) (xs (x + 2).toNatClampNeg))]) rfl (fun f hf => hf) rfl (rcvM [.int (xs (x + 1).toNatClampNeg), .int (xs (x + 2).toNatClampNeg), .int 0]) (fpm [.int (xs (x + 1).toNatClampNeg), .int (xs (x + 2).toNatClampNeg), .int 0]) rfl rfl subm rfl ⟨ms, A, _, _, _, n, rfl, rfl, hm3, hn8⟩ ?_
    rintro r L' ⟨hr, hL⟩
    have hr2 : r = some (.int (r_mneeds (A 1) (ms 3) (xs (x + 1).toNatClampNeg) (xs (x + 2).toNatClampNeg))) := hr
    have hL2 : L' = mdW ms (va_up A 1 (q_mneeds (A 1) (ms 3) (xs (x + 1).toNatClampNeg) (xs (x + 2).toNatClampNeg) 0)) := hL
    try simp only [hm2, hm3, hnn] at hL2
    try simp only [hm2, hm3, hnn] at hr2
    subst hr2 hL2
    refine ⟨_, rfl, rfl, ?_⟩
    rw [putm]
    have hb := pu_needs hB (xs (x + 1).toNatClampNeg) (xs (x + 2).toNatClampNeg) 0
    refine st_cmp hb.1 (st_72 ?_)
    exact K P n t y7 y8 y9 ln ta e s1 F1 a b M s2 F2 s3 F3 sl sz cf dt s (q_needs s F (xs (x + 1).toNatClampNeg) (xs (x + 2).toNatClampNeg) 0) _ _ (LI_st h hb.2 (ne_1 _ _ _ _ _).1 (ne_1 _ _ _ _ _).2 (hi_needs hn8 _ _ _ _))
  · refine st_ic (st_goto (st_go rfl rfl ?_))
    refine st_rw (args := [.ref 0, .int (xs (x + 1).toNatClampNeg), .int (xs (x + 2).toNatClampNeg), .int 1]) (rest := []) rfl (fun f hf => hf) rfl (rcvC [.int (xs (x + 1).toNatClampNeg), .int (xs (x + 2).toNatClampNeg), .int 1]) (fp1 [.int (xs (x + 1).toNatClampNeg), .int (xs (x + 2).toNatClampNeg), .int 1]) rfl rfl sub1 rfl ⟨_, _, _, _, _, _, y7, y8, y9, s, F, _, _, _, n, rfl, rfl, hs1, hn8⟩ ?_
    rintro r L' ⟨hr, hL⟩
    have hr2 : r = some (.int (r_needs s F (xs (x + 1).toNatClampNeg) (xs (x + 2).toNatClampNeg))) := hr
    have hL2 : L' = w1 1001 1003 1014 1019 1040 1049 y7 y8 y9 s (q_needs s F (xs (x + 1).toNatClampNeg) (xs (x + 2).toNatClampNeg) 1) := hL
    subst hr2 hL2
    refine ⟨_, rfl, rfl, ?_⟩
    rw [put1]
    refine st_al rfl ?_
    refine st_rd nW (lx hx 1 (by decide)) ?_
    refine st_rd nW (lx hx 2 (by decide)) ?_
    refine st_rd nW (lx hx 3 (by decide)) ?_
    refine st_if (fun q2 => absurd q2 q) (fun q2 => ?_)
    refine st_ic (st_goto (st_go rfl rfl ?_))
    refine st_rw (args := [.ref 60, .int (xs (x + 1).toNatClampNeg), .int (xs (x + 2).toNatClampNeg), .int 1]) (rest := [.int (r_needs s F (xs (x + 1).toNatClampNeg) (xs (x + 2).toNatClampNeg))]) rfl (fun f hf => hf) rfl (rcvM [.int (xs (x + 1).toNatClampNeg), .int (xs (x + 2).toNatClampNeg), .int 1]) (fpm [.int (xs (x + 1).toNatClampNeg), .int (xs (x + 2).toNatClampNeg), .int 1]) rfl rfl subm rfl ⟨ms, A, _, _, _, n, rfl, rfl, hm3, hn8⟩ ?_
    rintro r L' ⟨hr, hL⟩
    have hr2 : r = some (.int (r_mneeds (A 1) (ms 3) (xs (x + 1).toNatClampNeg) (xs (x + 2).toNatClampNeg))) := hr
    have hL2 : L' = mdW ms (va_up A 1 (q_mneeds (A 1) (ms 3) (xs (x + 1).toNatClampNeg) (xs (x + 2).toNatClampNeg) 1)) := hL
    try simp only [hm2, hm3, hnn] at hL2
    try simp only [hm2, hm3, hnn] at hr2
    subst hr2 hL2
    refine ⟨_, rfl, rfl, ?_⟩
    rw [putm]
    have hb := pu_needs hB (xs (x + 1).toNatClampNeg) (xs (x + 2).toNatClampNeg) 1
    refine st_cmp hb.1 (st_72 ?_)
    exact K P n t y7 y8 y9 ln ta e s1 F1 a b M s2 F2 s3 F3 sl sz cf dt s (q_needs s F (xs (x + 1).toNatClampNeg) (xs (x + 2).toNatClampNeg) 1) _ _ (LI_st h hb.2 (ne_1 _ _ _ _ _).1 (ne_1 _ _ _ _ _).2 (hi_needs hn8 _ _ _ _))

set_option maxRecDepth 100000 in
set_option maxHeartbeats 1000000 in
theorem cs_clash {N : Nat} {xs : Nat → Int32} {G : Nat → sK} {x : Int32} (hx : lX x N) (K : lK G x) {P n t : Nat} {y7 y8 y9 ln : Int32} {ta : Nat → Int32} {e : eT} {s1 : Nat → Int32} {F1 : Nat → Nat → Int32} {a b : Int32} {M : Nat → Nat → Int32} {s2 : Nat → Int32} {F2 : Nat → Nat → Int32} {s3 : Nat → Int32} {F3 : Nat → Nat → Int32} {sl sz : Nat → Int32} {cf : Nat → Nat → Int32} {dt s : Nat → Int32} {F : Nat → Nat → Int32} {ms : Nat → Int32} {A : Nat → Nat → Int32} (h : LIx P n t y7 y8 y9 ln ta s2 F2 s3 F3 sl sz cf s F ms A) : wJ (s_go (some (N, xs)) k_L_law G lP true 99) 35 (lL x) [] (lW y7 y8 y9 ln ta e s1 F1 a b M s2 F2 s3 F3 sl sz cf dt s F ms A) := by
  obtain ⟨⟨hB, hy, hp⟩, ⟨hk, h0, h1⟩, ⟨ht1, ht2, ht3, ht4, ht5⟩, hS, hm8, hm9, hm2, hm3⟩ := id h
  obtain ⟨hs1, hn8, hP8, hnn, hs2x, hs15x, hs18x, hyp, hnd, hh8⟩ := li_x h
  obtain ⟨h00, dd, ll, e1, e2, e3, e4, e5, e6, hs2⟩ := hs2x
  obtain ⟨Np, hs15, hp1, hp2, hpl⟩ := hs15x
  obtain ⟨Sz, hs18, hz2, hz3⟩ := hs18x
  refine st_go rfl rfl (st_al rfl ?_)
  refine st_rd nW (lx hx 1 (by decide)) ?_
  refine st_rd nW (lx hx 2 (by decide)) ?_
  refine st_rd nW (lx hx 3 (by decide)) ?_
  refine st_if (fun q => ?_) (fun q => ?_)
  · refine st_go rfl rfl (st_ic (st_nop (st_go rfl rfl ?_)))
    refine st_rw (args := [.ref 0, .int (xs (x + 1).toNatClampNeg), .int (xs (x + 2).toNatClampNeg), .int 0]) (rest := []) rfl (fun f hf => hf) rfl (rcvC [.int (xs (x + 1).toNatClampNeg), .int (xs (x + 2).toNatClampNeg), .int 0]) (fp1 [.int (xs (x + 1).toNatClampNeg), .int (xs (x + 2).toNatClampNeg), .int 0]) rfl rfl sub1 rfl ⟨_, _, _, _, _, _, y7, y8, y9, s, F, _, _, _, n, rfl, rfl, hs1, hn8⟩ ?_
    rintro r L' ⟨hr, hL⟩
    have hr2 : r = some (.int (r_clash s F (xs (x + 1).toNatClampNeg) (xs (x + 2).toNatClampNeg))) := hr
    have hL2 : L' = w1 1001 1003 1014 1019 1040 1049 y7 y8 y9 s (q_clash s F (xs (x + 1).toNatClampNeg) (xs (x + 2).toNatClampNeg) 0) := hL
    subst hr2 hL2
    refine ⟨_, rfl, rfl, ?_⟩
    rw [put1]
    refine st_al rfl ?_
    refine st_rd nW (lx hx 1 (by decide)) ?_
    refine st_rd nW (lx hx 2 (by decide)) ?_
    refine st_rd nW (lx hx 3 (by decide)) ?_
    refine st_if (fun q2 => ?_) (fun q2 => absurd q q2)
    refine st_go rfl rfl (st_ic (st_nop (st_go rfl rfl ?_)))
    refine st_rw (args := [.ref 60, .int (xs (x + 1).toNatClampNeg), .int (xs (x + 2).toNatClampNeg), .int 0]) (rest := [.int (r_clash s F (xs (x + 1).toNatClampNeg) (xs (x + 2).toNatClampNeg))]) rfl (fun f hf => hf) rfl (rcvM [.int (xs (x + 1).toNatClampNeg), .int (xs (x + 2).toNatClampNeg), .int 0]) (fpm [.int (xs (x + 1).toNatClampNeg), .int (xs (x + 2).toNatClampNeg), .int 0]) rfl rfl subm rfl ⟨ms, A, _, _, _, n, rfl, rfl, hm3, hn8⟩ ?_
    rintro r L' ⟨hr, hL⟩
    have hr2 : r = some (.int (r_mcl (A 1) (ms 3) (xs (x + 1).toNatClampNeg) (xs (x + 2).toNatClampNeg))) := hr
    have hL2 : L' = mdW ms (va_up A 1 (q_mcl (A 1) (ms 3) (xs (x + 1).toNatClampNeg) (xs (x + 2).toNatClampNeg) 0)) := hL
    try simp only [hm2, hm3, hnn] at hL2
    try simp only [hm2, hm3, hnn] at hr2
    subst hr2 hL2
    refine ⟨_, rfl, rfl, ?_⟩
    rw [putm]
    have hb := pu_clash hB (xs (x + 1).toNatClampNeg) (xs (x + 2).toNatClampNeg) 0
    refine st_cmp hb.1 (st_72 ?_)
    exact K P n t y7 y8 y9 ln ta e s1 F1 a b M s2 F2 s3 F3 sl sz cf dt s (q_clash s F (xs (x + 1).toNatClampNeg) (xs (x + 2).toNatClampNeg) 0) _ _ (LI_st h hb.2 (cl_1 _ _ _ _ _).1 (cl_1 _ _ _ _ _).2 (hi_cl hn8 _ _ _ _))
  · refine st_ic (st_goto (st_go rfl rfl ?_))
    refine st_rw (args := [.ref 0, .int (xs (x + 1).toNatClampNeg), .int (xs (x + 2).toNatClampNeg), .int 1]) (rest := []) rfl (fun f hf => hf) rfl (rcvC [.int (xs (x + 1).toNatClampNeg), .int (xs (x + 2).toNatClampNeg), .int 1]) (fp1 [.int (xs (x + 1).toNatClampNeg), .int (xs (x + 2).toNatClampNeg), .int 1]) rfl rfl sub1 rfl ⟨_, _, _, _, _, _, y7, y8, y9, s, F, _, _, _, n, rfl, rfl, hs1, hn8⟩ ?_
    rintro r L' ⟨hr, hL⟩
    have hr2 : r = some (.int (r_clash s F (xs (x + 1).toNatClampNeg) (xs (x + 2).toNatClampNeg))) := hr
    have hL2 : L' = w1 1001 1003 1014 1019 1040 1049 y7 y8 y9 s (q_clash s F (xs (x + 1).toNatClampNeg) (xs (x + 2).toNatClampNeg) 1) := hL
    subst hr2 hL2
    refine ⟨_, rfl, rfl, ?_⟩
    rw [put1]
    refine st_al rfl ?_
    refine st_rd nW (lx hx 1 (by decide)) ?_
    refine st_rd nW (lx hx 2 (by decide)) ?_
    refine st_rd nW (lx hx 3 (by decide)) ?_
    refine st_if (fun q2 => absurd q2 q) (fun q2 => ?_)
    refine st_ic (st_goto (st_go rfl rfl ?_))
    refine st_rw (args := [.ref 60, .int (xs (x + 1).toNatClampNeg), .int (xs (x + 2).toNatClampNeg), .int 1]) (rest := [.int (r_clash s F (xs (x + 1).toNatClampNeg) (xs (x + 2).toNatClampNeg))]) rfl (fun f hf => hf) rfl (rcvM [.int (xs (x + 1).toNatClampNeg), .int (xs (x + 2).toNatClampNeg), .int 1]) (fpm [.int (xs (x + 1).toNatClampNeg), .int (xs (x + 2).toNatClampNeg), .int 1]) rfl rfl subm rfl ⟨ms, A, _, _, _, n, rfl, rfl, hm3, hn8⟩ ?_
    rintro r L' ⟨hr, hL⟩
    have hr2 : r = some (.int (r_mcl (A 1) (ms 3) (xs (x + 1).toNatClampNeg) (xs (x + 2).toNatClampNeg))) := hr
    have hL2 : L' = mdW ms (va_up A 1 (q_mcl (A 1) (ms 3) (xs (x + 1).toNatClampNeg) (xs (x + 2).toNatClampNeg) 1)) := hL
    try simp only [hm2, hm3, hnn] at hL2
    try simp only [hm2, hm3, hnn] at hr2
    subst hr2 hL2
    refine ⟨_, rfl, rfl, ?_⟩
    rw [putm]
    have hb := pu_clash hB (xs (x + 1).toNatClampNeg) (xs (x + 2).toNatClampNeg) 1
    refine st_cmp hb.1 (st_72 ?_)
    exact K P n t y7 y8 y9 ln ta e s1 F1 a b M s2 F2 s3 F3 sl sz cf dt s (q_clash s F (xs (x + 1).toNatClampNeg) (xs (x + 2).toNatClampNeg) 1) _ _ (LI_st h hb.2 (cl_1 _ _ _ _ _).1 (cl_1 _ _ _ _ _).2 (hi_cl hn8 _ _ _ _))

set_option maxRecDepth 100000 in
set_option maxHeartbeats 1000000 in
theorem cs_plans {N : Nat} {xs : Nat → Int32} {G : Nat → sK} {x : Int32} (hx : lX x N) (K : lK G x) {P n t : Nat} {y7 y8 y9 ln : Int32} {ta : Nat → Int32} {e : eT} {s1 : Nat → Int32} {F1 : Nat → Nat → Int32} {a b : Int32} {M : Nat → Nat → Int32} {s2 : Nat → Int32} {F2 : Nat → Nat → Int32} {s3 : Nat → Int32} {F3 : Nat → Nat → Int32} {sl sz : Nat → Int32} {cf : Nat → Nat → Int32} {dt s : Nat → Int32} {F : Nat → Nat → Int32} {ms : Nat → Int32} {A : Nat → Nat → Int32} (h : LIx P n t y7 y8 y9 ln ta s2 F2 s3 F3 sl sz cf s F ms A) : wJ (s_go (some (N, xs)) k_L_law G lP true 99) 40 (lL x) [] (lW y7 y8 y9 ln ta e s1 F1 a b M s2 F2 s3 F3 sl sz cf dt s F ms A) := by
  obtain ⟨⟨hB, hy, hp⟩, ⟨hk, h0, h1⟩, ⟨ht1, ht2, ht3, ht4, ht5⟩, hS, hm8, hm9, hm2, hm3⟩ := id h
  obtain ⟨hs1, hn8, hP8, hnn, hs2x, hs15x, hs18x, hyp, hnd, hh8⟩ := li_x h
  obtain ⟨h00, dd, ll, e1, e2, e3, e4, e5, e6, hs2⟩ := hs2x
  obtain ⟨Np, hs15, hp1, hp2, hpl⟩ := hs15x
  obtain ⟨Sz, hs18, hz2, hz3⟩ := hs18x
  refine st_go rfl rfl (st_al rfl ?_)
  refine st_rd nW (lx hx 1 (by decide)) ?_
  refine st_rw (args := [.ref 0, .int (xs (x + 1).toNatClampNeg)]) (rest := []) rfl (fun f hf => hf) rfl (rcvC [.int (xs (x + 1).toNatClampNeg)]) (fp1 [.int (xs (x + 1).toNatClampNeg)]) rfl rfl sub1 rfl ⟨_, _, _, _, _, _, y7, y8, y9, s, F, _, Np, rfl, rfl, hs15, hp1⟩ ?_
  rintro r L' ⟨hr, hL⟩
  have hr2 : r = some (.int (r_plans s (xs (x + 1).toNatClampNeg))) := hr
  have hL2 : L' = w1 1001 1003 1014 1019 1040 1049 y7 y8 y9 (q_plans s (xs (x + 1).toNatClampNeg)) (q_plansF s F (xs (x + 1).toNatClampNeg)) := hL
  subst hr2 hL2
  refine ⟨_, rfl, rfl, ?_⟩
  rw [put1]
  refine st_al rfl ?_
  refine st_rd nW (lx hx 1 (by decide)) ?_
  refine st_rw (args := [.ref 60, .int (xs (x + 1).toNatClampNeg)]) (rest := [.int (r_plans s (xs (x + 1).toNatClampNeg))]) rfl (fun f hf => hf) rfl (rcvM [.int (xs (x + 1).toNatClampNeg)]) (fpm [.int (xs (x + 1).toNatClampNeg)]) rfl rfl subm rfl ⟨ms, A, _, n, Np, rfl, rfl, hm3, hn8, hp2, hp1⟩ ?_
  rintro r L' ⟨hr, hL⟩
  have hr2 : r = some (.int (r_mplans (A 1) (ms 3) (xs (x + 1).toNatClampNeg))) := hr
  have hL2 : L' = mdW ms (va_up A 1 (q_mplans (A 1) (ms 3) (xs (x + 1).toNatClampNeg))) := hL
  try simp only [hm2, hm3, hnn] at hL2
  try simp only [hm2, hm3, hnn] at hr2
  subst hr2 hL2
  refine ⟨_, rfl, rfl, ?_⟩
  rw [putm]
  have hb := pu_plans hB (xs (x + 1).toNatClampNeg)
  refine st_cmp hb.1 (st_72 ?_)
  exact K P n t y7 y8 y9 ln ta e s1 F1 a b M s2 F2 s3 F3 sl sz cf dt (q_plans s (xs (x + 1).toNatClampNeg)) (q_plansF s F (xs (x + 1).toNatClampNeg)) _ _ (LI_st h hb.2 (pl_1 _ _ _).1 (pl_1 _ _ _).2 (hi_plans hp1 hp2 _ _))

set_option maxRecDepth 100000 in
set_option maxHeartbeats 1000000 in
theorem cs_see {N : Nat} {xs : Nat → Int32} {G : Nat → sK} {x : Int32} (hx : lX x N) (K : lK G x) {P n t : Nat} {y7 y8 y9 ln : Int32} {ta : Nat → Int32} {e : eT} {s1 : Nat → Int32} {F1 : Nat → Nat → Int32} {a b : Int32} {M : Nat → Nat → Int32} {s2 : Nat → Int32} {F2 : Nat → Nat → Int32} {s3 : Nat → Int32} {F3 : Nat → Nat → Int32} {sl sz : Nat → Int32} {cf : Nat → Nat → Int32} {dt s : Nat → Int32} {F : Nat → Nat → Int32} {ms : Nat → Int32} {A : Nat → Nat → Int32} (h : LIx P n t y7 y8 y9 ln ta s2 F2 s3 F3 sl sz cf s F ms A) : wJ (s_go (some (N, xs)) k_L_law G lP true 99) 56 (lL x) [] (lW y7 y8 y9 ln ta e s1 F1 a b M s2 F2 s3 F3 sl sz cf dt s F ms A) := by
  obtain ⟨⟨hB, hy, hp⟩, ⟨hk, h0, h1⟩, ⟨ht1, ht2, ht3, ht4, ht5⟩, hS, hm8, hm9, hm2, hm3⟩ := id h
  obtain ⟨hs1, hn8, hP8, hnn, hs2x, hs15x, hs18x, hyp, hnd, hh8⟩ := li_x h
  obtain ⟨h00, dd, ll, e1, e2, e3, e4, e5, e6, hs2⟩ := hs2x
  obtain ⟨Np, hs15, hp1, hp2, hpl⟩ := hs15x
  obtain ⟨Sz, hs18, hz2, hz3⟩ := hs18x
  refine st_go rfl rfl (st_al rfl ?_)
  refine st_rd nW (lx hx 1 (by decide)) ?_
  refine st_rd nW (lx hx 2 (by decide)) ?_
  refine st_if (fun q => ?_) (fun q => ?_)
  · refine st_go rfl rfl (st_ic (st_nop (st_go rfl rfl ?_)))
    refine st_rw (args := [.ref 0, .int (xs (x + 1).toNatClampNeg), .int 0]) (rest := []) rfl (fun f hf => hf) rfl (rcvC [.int (xs (x + 1).toNatClampNeg), .int 0]) (fp1 [.int (xs (x + 1).toNatClampNeg), .int 0]) rfl rfl sub1 rfl ⟨_, _, _, _, _, _, y7, y8, y9, s, F, _, _, Sz, rfl, rfl, hs18, hz2⟩ ?_
    rintro r L' ⟨hr, hL⟩
    have hr2 : r = some (.int (r_see s (xs (x + 1).toNatClampNeg))) := hr
    have hL2 : L' = w1 1001 1003 1014 1019 1040 1049 y7 y8 y9 (q_see s (xs (x + 1).toNatClampNeg) 0) (q_seeF s F (xs (x + 1).toNatClampNeg)) := hL
    subst hr2 hL2
    refine ⟨_, rfl, rfl, ?_⟩
    rw [put1]
    refine st_al rfl ?_
    refine st_rd nW (lx hx 1 (by decide)) ?_
    refine st_rd nW (lx hx 2 (by decide)) ?_
    refine st_if (fun q2 => ?_) (fun q2 => absurd q q2)
    refine st_go rfl rfl (st_ic (st_nop (st_go rfl rfl ?_)))
    refine st_rw (args := [.ref 60, .int (xs (x + 1).toNatClampNeg), .int 0]) (rest := [.int (r_see s (xs (x + 1).toNatClampNeg))]) rfl (fun f hf => hf) rfl (rcvM [.int (xs (x + 1).toNatClampNeg), .int 0]) (fpm [.int (xs (x + 1).toNatClampNeg), .int 0]) rfl rfl subm rfl ⟨ms, A, _, _, P, Sz, rfl, rfl, hm2, hP8, hz3, hz2⟩ ?_
    rintro r L' ⟨hr, hL⟩
    have hr2 : r = some (.int (r_msee (A 1) (ms 2) (xs (x + 1).toNatClampNeg))) := hr
    have hL2 : L' = mdW ms (va_up A 1 (q_msee (A 1) (ms 2) (xs (x + 1).toNatClampNeg) 0)) := hL
    try simp only [hm2, hm3, hnn] at hL2
    try simp only [hm2, hm3, hnn] at hr2
    subst hr2 hL2
    refine ⟨_, rfl, rfl, ?_⟩
    rw [putm]
    have hb := pu_see hB (xs (x + 1).toNatClampNeg) 0
    refine st_cmp hb.1 (st_72 ?_)
    exact K P n t y7 y8 y9 ln ta e s1 F1 a b M s2 F2 s3 F3 sl sz cf dt (q_see s (xs (x + 1).toNatClampNeg) 0) (q_seeF s F (xs (x + 1).toNatClampNeg)) _ _ (LI_st h hb.2 (se_1 _ _ _).1 (se_1 _ _ _).2 (hi_see hz2 hz3 _ _ _))
  · refine st_ic (st_goto (st_go rfl rfl ?_))
    refine st_rw (args := [.ref 0, .int (xs (x + 1).toNatClampNeg), .int 1]) (rest := []) rfl (fun f hf => hf) rfl (rcvC [.int (xs (x + 1).toNatClampNeg), .int 1]) (fp1 [.int (xs (x + 1).toNatClampNeg), .int 1]) rfl rfl sub1 rfl ⟨_, _, _, _, _, _, y7, y8, y9, s, F, _, _, Sz, rfl, rfl, hs18, hz2⟩ ?_
    rintro r L' ⟨hr, hL⟩
    have hr2 : r = some (.int (r_see s (xs (x + 1).toNatClampNeg))) := hr
    have hL2 : L' = w1 1001 1003 1014 1019 1040 1049 y7 y8 y9 (q_see s (xs (x + 1).toNatClampNeg) 1) (q_seeF s F (xs (x + 1).toNatClampNeg)) := hL
    subst hr2 hL2
    refine ⟨_, rfl, rfl, ?_⟩
    rw [put1]
    refine st_al rfl ?_
    refine st_rd nW (lx hx 1 (by decide)) ?_
    refine st_rd nW (lx hx 2 (by decide)) ?_
    refine st_if (fun q2 => absurd q2 q) (fun q2 => ?_)
    refine st_ic (st_goto (st_go rfl rfl ?_))
    refine st_rw (args := [.ref 60, .int (xs (x + 1).toNatClampNeg), .int 1]) (rest := [.int (r_see s (xs (x + 1).toNatClampNeg))]) rfl (fun f hf => hf) rfl (rcvM [.int (xs (x + 1).toNatClampNeg), .int 1]) (fpm [.int (xs (x + 1).toNatClampNeg), .int 1]) rfl rfl subm rfl ⟨ms, A, _, _, P, Sz, rfl, rfl, hm2, hP8, hz3, hz2⟩ ?_
    rintro r L' ⟨hr, hL⟩
    have hr2 : r = some (.int (r_msee (A 1) (ms 2) (xs (x + 1).toNatClampNeg))) := hr
    have hL2 : L' = mdW ms (va_up A 1 (q_msee (A 1) (ms 2) (xs (x + 1).toNatClampNeg) 1)) := hL
    try simp only [hm2, hm3, hnn] at hL2
    try simp only [hm2, hm3, hnn] at hr2
    subst hr2 hL2
    refine ⟨_, rfl, rfl, ?_⟩
    rw [putm]
    have hb := pu_see hB (xs (x + 1).toNatClampNeg) 1
    refine st_cmp hb.1 (st_72 ?_)
    exact K P n t y7 y8 y9 ln ta e s1 F1 a b M s2 F2 s3 F3 sl sz cf dt (q_see s (xs (x + 1).toNatClampNeg) 1) (q_seeF s F (xs (x + 1).toNatClampNeg)) _ _ (LI_st h hb.2 (se_1 _ _ _).1 (se_1 _ _ _).2 (hi_see hz2 hz3 _ _ _))

set_option maxRecDepth 100000 in
set_option maxHeartbeats 1000000 in
theorem cs_looks {N : Nat} {xs : Nat → Int32} {G : Nat → sK} {x : Int32} (hx : lX x N) (K : lK G x) {P n t : Nat} {y7 y8 y9 ln : Int32} {ta : Nat → Int32} {e : eT} {s1 : Nat → Int32} {F1 : Nat → Nat → Int32} {a b : Int32} {M : Nat → Nat → Int32} {s2 : Nat → Int32} {F2 : Nat → Nat → Int32} {s3 : Nat → Int32} {F3 : Nat → Nat → Int32} {sl sz : Nat → Int32} {cf : Nat → Nat → Int32} {dt s : Nat → Int32} {F : Nat → Nat → Int32} {ms : Nat → Int32} {A : Nat → Nat → Int32} (h : LIx P n t y7 y8 y9 ln ta s2 F2 s3 F3 sl sz cf s F ms A) : wJ (s_go (some (N, xs)) k_L_law G lP true 99) 42 (lL x) [] (lW y7 y8 y9 ln ta e s1 F1 a b M s2 F2 s3 F3 sl sz cf dt s F ms A) := by
  obtain ⟨⟨hB, hy, hp⟩, ⟨hk, h0, h1⟩, ⟨ht1, ht2, ht3, ht4, ht5⟩, hS, hm8, hm9, hm2, hm3⟩ := id h
  obtain ⟨hs1, hn8, hP8, hnn, hs2x, hs15x, hs18x, hyp, hnd, hh8⟩ := li_x h
  obtain ⟨h00, dd, ll, e1, e2, e3, e4, e5, e6, hs2⟩ := hs2x
  obtain ⟨Np, hs15, hp1, hp2, hpl⟩ := hs15x
  obtain ⟨Sz, hs18, hz2, hz3⟩ := hs18x
  refine st_go rfl rfl (st_al rfl ?_)
  refine st_rd nW (lx hx 1 (by decide)) ?_
  refine st_ro (args := [.ref 0, .int (xs (x + 1).toNatClampNeg)]) (rest := []) rfl (fun f hf => hf) rfl (rcvC [.int (xs (x + 1).toNatClampNeg)]) (fp1 [.int (xs (x + 1).toNatClampNeg)]) rfl rfl sub1 rfl ⟨_, _, _, _, _, _, y7, y8, y9, s, F, _, n, dd, rfl, rfl, hs1, hn8, hs2, e3⟩ ?_
  intro r hr
  have hr2 : r = some (.int (r_looks s F (xs (x + 1).toNatClampNeg))) := hr
  subst hr2
  refine ⟨_, rfl, rfl, ?_⟩
  refine st_al rfl ?_
  refine st_rd nW (lx hx 1 (by decide)) ?_
  refine st_ro (args := [.ref 60, .int (xs (x + 1).toNatClampNeg)]) (rest := [.int (r_looks s F (xs (x + 1).toNatClampNeg))]) rfl (fun f hf => hf) rfl (rcvM [.int (xs (x + 1).toNatClampNeg)]) (fpm [.int (xs (x + 1).toNatClampNeg)]) rfl rfl subm rfl ⟨ms, A, _, n, dd, rfl, rfl, hm3, hn8, e4, e3⟩ ?_
  intro r hr
  have hr2 : r = some (.int (r_mlooks (A 1) (ms 3) (ms 3).toNatClampNeg (xs (x + 1).toNatClampNeg))) := hr
  try simp only [hm2, hm3, hnn] at hr2
  subst hr2
  refine ⟨_, rfl, rfl, ?_⟩
  have hb := pu_looks hB (xs (x + 1).toNatClampNeg)
  refine st_cmp hb (st_72 ?_)
  exact K P n t y7 y8 y9 ln ta e s1 F1 a b M s2 F2 s3 F3 sl sz cf dt s F ms A (h)

set_option maxRecDepth 100000 in
set_option maxHeartbeats 1000000 in
theorem cs_refuses {N : Nat} {xs : Nat → Int32} {G : Nat → sK} {x : Int32} (hx : lX x N) (K : lK G x) {P n t : Nat} {y7 y8 y9 ln : Int32} {ta : Nat → Int32} {e : eT} {s1 : Nat → Int32} {F1 : Nat → Nat → Int32} {a b : Int32} {M : Nat → Nat → Int32} {s2 : Nat → Int32} {F2 : Nat → Nat → Int32} {s3 : Nat → Int32} {F3 : Nat → Nat → Int32} {sl sz : Nat → Int32} {cf : Nat → Nat → Int32} {dt s : Nat → Int32} {F : Nat → Nat → Int32} {ms : Nat → Int32} {A : Nat → Nat → Int32} (h : LIx P n t y7 y8 y9 ln ta s2 F2 s3 F3 sl sz cf s F ms A) : wJ (s_go (some (N, xs)) k_L_law G lP true 99) 43 (lL x) [] (lW y7 y8 y9 ln ta e s1 F1 a b M s2 F2 s3 F3 sl sz cf dt s F ms A) := by
  obtain ⟨⟨hB, hy, hp⟩, ⟨hk, h0, h1⟩, ⟨ht1, ht2, ht3, ht4, ht5⟩, hS, hm8, hm9, hm2, hm3⟩ := id h
  obtain ⟨hs1, hn8, hP8, hnn, hs2x, hs15x, hs18x, hyp, hnd, hh8⟩ := li_x h
  obtain ⟨h00, dd, ll, e1, e2, e3, e4, e5, e6, hs2⟩ := hs2x
  obtain ⟨Np, hs15, hp1, hp2, hpl⟩ := hs15x
  obtain ⟨Sz, hs18, hz2, hz3⟩ := hs18x
  refine st_go rfl rfl (st_al rfl ?_)
  refine st_rd nW (lx hx 1 (by decide)) ?_
  refine st_ro (args := [.ref 0, .int (xs (x + 1).toNatClampNeg)]) (rest := []) rfl (fun f hf => hf) rfl (rcvC [.int (xs (x + 1).toNatClampNeg)]) (fp1 [.int (xs (x + 1).toNatClampNeg)]) rfl rfl sub1 rfl ⟨_, _, _, _, _, _, y7, y8, y9, s, F, _, n, dd, rfl, rfl, hs1, hn8, hs2, e3⟩ ?_
  intro r hr
  have hr2 : r = some (.int (r_refuses s F (xs (x + 1).toNatClampNeg))) := hr
  subst hr2
  refine ⟨_, rfl, rfl, ?_⟩
  refine st_al rfl ?_
  refine st_rd nW (lx hx 1 (by decide)) ?_
  refine st_ro (args := [.ref 60, .int (xs (x + 1).toNatClampNeg)]) (rest := [.int (r_refuses s F (xs (x + 1).toNatClampNeg))]) rfl (fun f hf => hf) rfl (rcvM [.int (xs (x + 1).toNatClampNeg)]) (fpm [.int (xs (x + 1).toNatClampNeg)]) rfl rfl subm rfl ⟨ms, A, _, n, dd, rfl, rfl, hm3, hn8, e4, e3⟩ ?_
  intro r hr
  have hr2 : r = some (.int (r_mrefuses (A 1) (ms 3) (ms 3).toNatClampNeg (xs (x + 1).toNatClampNeg))) := hr
  try simp only [hm2, hm3, hnn] at hr2
  subst hr2
  refine ⟨_, rfl, rfl, ?_⟩
  have hb := pu_refuses hB (xs (x + 1).toNatClampNeg)
  refine st_cmp hb (st_72 ?_)
  exact K P n t y7 y8 y9 ln ta e s1 F1 a b M s2 F2 s3 F3 sl sz cf dt s F ms A (h)

set_option maxRecDepth 100000 in
set_option maxHeartbeats 1000000 in
theorem cs_ask {N : Nat} {xs : Nat → Int32} {G : Nat → sK} {x : Int32} (hx : lX x N) (K : lK G x) {P n t : Nat} {y7 y8 y9 ln : Int32} {ta : Nat → Int32} {e : eT} {s1 : Nat → Int32} {F1 : Nat → Nat → Int32} {a b : Int32} {M : Nat → Nat → Int32} {s2 : Nat → Int32} {F2 : Nat → Nat → Int32} {s3 : Nat → Int32} {F3 : Nat → Nat → Int32} {sl sz : Nat → Int32} {cf : Nat → Nat → Int32} {dt s : Nat → Int32} {F : Nat → Nat → Int32} {ms : Nat → Int32} {A : Nat → Nat → Int32} (h : LIx P n t y7 y8 y9 ln ta s2 F2 s3 F3 sl sz cf s F ms A) : wJ (s_go (some (N, xs)) k_L_law G lP true 99) 44 (lL x) [] (lW y7 y8 y9 ln ta e s1 F1 a b M s2 F2 s3 F3 sl sz cf dt s F ms A) := by
  obtain ⟨⟨hB, hy, hp⟩, ⟨hk, h0, h1⟩, ⟨ht1, ht2, ht3, ht4, ht5⟩, hS, hm8, hm9, hm2, hm3⟩ := id h
  obtain ⟨hs1, hn8, hP8, hnn, hs2x, hs15x, hs18x, hyp, hnd, hh8⟩ := li_x h
  obtain ⟨h00, dd, ll, e1, e2, e3, e4, e5, e6, hs2⟩ := hs2x
  obtain ⟨Np, hs15, hp1, hp2, hpl⟩ := hs15x
  obtain ⟨Sz, hs18, hz2, hz3⟩ := hs18x
  refine st_go rfl rfl (st_al rfl ?_)
  refine st_rd nW (lx hx 1 (by decide)) ?_
  refine st_rw (args := [.ref 0, .int (xs (x + 1).toNatClampNeg)]) (rest := []) rfl (fun f hf => hf) rfl (rcvC [.int (xs (x + 1).toNatClampNeg)]) (fp1 [.int (xs (x + 1).toNatClampNeg)]) rfl rfl sub1 rfl ⟨_, _, _, _, _, _, y7, y8, y9, s, F, _, n, dd, rfl, rfl, hs1, hn8, hs2, e3⟩ ?_
  rintro r L' ⟨hr, hL⟩
  have hr2 : r = some (.int (r_ask s F (xs (x + 1).toNatClampNeg))) := hr
  have hL2 : L' = w1 1001 1003 1014 1019 1040 1049 y7 y8 y9 (q_ask s F (xs (x + 1).toNatClampNeg)) F := hL
  subst hr2 hL2
  refine ⟨_, rfl, rfl, ?_⟩
  rw [put1]
  refine st_al rfl ?_
  refine st_rd nW (lx hx 1 (by decide)) ?_
  refine st_rw (args := [.ref 60, .int (xs (x + 1).toNatClampNeg)]) (rest := [.int (r_ask s F (xs (x + 1).toNatClampNeg))]) rfl (fun f hf => hf) rfl (rcvM [.int (xs (x + 1).toNatClampNeg)]) (fpm [.int (xs (x + 1).toNatClampNeg)]) rfl rfl subm rfl ⟨ms, A, _, n, dd, rfl, rfl, hm3, hn8, e4, e3⟩ ?_
  rintro r L' ⟨hr, hL⟩
  have hr2 : r = some (.int (r_mask (A 1) (ms 3) (ms 3).toNatClampNeg (xs (x + 1).toNatClampNeg))) := hr
  have hL2 : L' = mdW ms (va_up A 1 (q_mask (A 1) (ms 3) (ms 3).toNatClampNeg (xs (x + 1).toNatClampNeg))) := hL
  try simp only [hm2, hm3, hnn] at hL2
  try simp only [hm2, hm3, hnn] at hr2
  subst hr2 hL2
  refine ⟨_, rfl, rfl, ?_⟩
  rw [putm]
  have hb := pu_ask hB (xs (x + 1).toNatClampNeg)
  refine st_cmp hb.1 (st_72 ?_)
  exact K P n t y7 y8 y9 ln ta e s1 F1 a b M s2 F2 s3 F3 sl sz cf dt (q_ask s F (xs (x + 1).toNatClampNeg)) F _ _ (LI_st h hb.2 rfl rfl (hi_ask _ _ _ _))

set_option maxRecDepth 100000 in
set_option maxHeartbeats 1000000 in
theorem cs_take {N : Nat} {xs : Nat → Int32} {G : Nat → sK} {x : Int32} (hx : lX x N) (K : lK G x) {P n t : Nat} {y7 y8 y9 ln : Int32} {ta : Nat → Int32} {e : eT} {s1 : Nat → Int32} {F1 : Nat → Nat → Int32} {a b : Int32} {M : Nat → Nat → Int32} {s2 : Nat → Int32} {F2 : Nat → Nat → Int32} {s3 : Nat → Int32} {F3 : Nat → Nat → Int32} {sl sz : Nat → Int32} {cf : Nat → Nat → Int32} {dt s : Nat → Int32} {F : Nat → Nat → Int32} {ms : Nat → Int32} {A : Nat → Nat → Int32} (h : LIx P n t y7 y8 y9 ln ta s2 F2 s3 F3 sl sz cf s F ms A) : wJ (s_go (some (N, xs)) k_L_law G lP true 99) 45 (lL x) [] (lW y7 y8 y9 ln ta e s1 F1 a b M s2 F2 s3 F3 sl sz cf dt s F ms A) := by
  obtain ⟨⟨hB, hy, hp⟩, ⟨hk, h0, h1⟩, ⟨ht1, ht2, ht3, ht4, ht5⟩, hS, hm8, hm9, hm2, hm3⟩ := id h
  obtain ⟨hs1, hn8, hP8, hnn, hs2x, hs15x, hs18x, hyp, hnd, hh8⟩ := li_x h
  obtain ⟨h00, dd, ll, e1, e2, e3, e4, e5, e6, hs2⟩ := hs2x
  obtain ⟨Np, hs15, hp1, hp2, hpl⟩ := hs15x
  obtain ⟨Sz, hs18, hz2, hz3⟩ := hs18x
  refine st_go rfl rfl (st_al rfl ?_)
  refine st_rd nW (lx hx 1 (by decide)) ?_
  refine st_rw (args := [.ref 0, .int (xs (x + 1).toNatClampNeg)]) (rest := []) rfl (fun f hf => hf) rfl (rcvC [.int (xs (x + 1).toNatClampNeg)]) (fp1 [.int (xs (x + 1).toNatClampNeg)]) rfl rfl sub1 rfl ⟨_, _, _, _, _, _, y7, y8, y9, s, F, _, n, rfl, rfl, hs1, hn8⟩ ?_
  rintro r L' ⟨hr, hL⟩
  have hr2 : r = some (.int (r_take s F (xs (x + 1).toNatClampNeg))) := hr
  have hL2 : L' = w1 1001 1003 1014 1019 1040 1049 y7 y8 y9 (q_take s F (xs (x + 1).toNatClampNeg)) F := hL
  subst hr2 hL2
  refine ⟨_, rfl, rfl, ?_⟩
  rw [put1]
  refine st_al rfl ?_
  refine st_rd nW (lx hx 1 (by decide)) ?_
  refine st_rw (args := [.ref 60, .int (xs (x + 1).toNatClampNeg)]) (rest := [.int (r_take s F (xs (x + 1).toNatClampNeg))]) rfl (fun f hf => hf) rfl (rcvM [.int (xs (x + 1).toNatClampNeg)]) (fpm [.int (xs (x + 1).toNatClampNeg)]) rfl rfl subm rfl ⟨ms, A, _, n, rfl, rfl, hm3, hn8⟩ ?_
  rintro r L' ⟨hr, hL⟩
  have hr2 : r = some (.int (r_mtake (A 1) (ms 3) (ms 3).toNatClampNeg (xs (x + 1).toNatClampNeg))) := hr
  have hL2 : L' = mdW ms (va_up A 1 (q_mtake (A 1) (ms 3) (ms 3).toNatClampNeg (xs (x + 1).toNatClampNeg))) := hL
  try simp only [hm2, hm3, hnn] at hL2
  try simp only [hm2, hm3, hnn] at hr2
  subst hr2 hL2
  refine ⟨_, rfl, rfl, ?_⟩
  rw [putm]
  have hb := pu_take hB (xs (x + 1).toNatClampNeg)
  refine st_cmp hb.1 (st_72 ?_)
  exact K P n t y7 y8 y9 ln ta e s1 F1 a b M s2 F2 s3 F3 sl sz cf dt (q_take s F (xs (x + 1).toNatClampNeg)) F _ _ (LI_st h hb.2 rfl rfl (hi_take _ _ _ _))

set_option maxRecDepth 100000 in
set_option maxHeartbeats 1000000 in
theorem cs_clashes {N : Nat} {xs : Nat → Int32} {G : Nat → sK} {x : Int32} (hx : lX x N) (K : lK G x) {P n t : Nat} {y7 y8 y9 ln : Int32} {ta : Nat → Int32} {e : eT} {s1 : Nat → Int32} {F1 : Nat → Nat → Int32} {a b : Int32} {M : Nat → Nat → Int32} {s2 : Nat → Int32} {F2 : Nat → Nat → Int32} {s3 : Nat → Int32} {F3 : Nat → Nat → Int32} {sl sz : Nat → Int32} {cf : Nat → Nat → Int32} {dt s : Nat → Int32} {F : Nat → Nat → Int32} {ms : Nat → Int32} {A : Nat → Nat → Int32} (h : LIx P n t y7 y8 y9 ln ta s2 F2 s3 F3 sl sz cf s F ms A) : wJ (s_go (some (N, xs)) k_L_law G lP true 99) 46 (lL x) [] (lW y7 y8 y9 ln ta e s1 F1 a b M s2 F2 s3 F3 sl sz cf dt s F ms A) := by
  obtain ⟨⟨hB, hy, hp⟩, ⟨hk, h0, h1⟩, ⟨ht1, ht2, ht3, ht4, ht5⟩, hS, hm8, hm9, hm2, hm3⟩ := id h
  obtain ⟨hs1, hn8, hP8, hnn, hs2x, hs15x, hs18x, hyp, hnd, hh8⟩ := li_x h
  obtain ⟨h00, dd, ll, e1, e2, e3, e4, e5, e6, hs2⟩ := hs2x
  obtain ⟨Np, hs15, hp1, hp2, hpl⟩ := hs15x
  obtain ⟨Sz, hs18, hz2, hz3⟩ := hs18x
  refine st_go rfl rfl (st_al rfl ?_)
  refine st_ro (args := [.ref 0]) (rest := []) rfl (fun f hf => hf) rfl (rcvC []) (fp1 []) rfl rfl sub1 rfl ⟨_, _, _, _, _, _, y7, y8, y9, s, F, n, rfl, rfl, hs1, hn8⟩ ?_
  intro r hr
  have hr2 : r = some (.int (p_ce (F 5) (s 5) (s 1).toNatClampNeg / 2)) := hr
  subst hr2
  refine ⟨_, rfl, rfl, ?_⟩
  refine st_al rfl ?_
  refine st_ro (args := [.ref 60]) (rest := [.int (p_ce (F 5) (s 5) (s 1).toNatClampNeg / 2)]) rfl (fun f hf => hf) rfl (rcvM []) (fpm []) rfl rfl subm rfl ⟨ms, A, n, rfl, rfl, hm3, hn8⟩ ?_
  intro r hr
  have hr2 : r = some (.int (p_mce (fun i => A 1 (18 + i)) (A 1 26) (ms 3).toNatClampNeg / 2)) := hr
  try simp only [hm2, hm3, hnn] at hr2
  subst hr2
  refine ⟨_, rfl, rfl, ?_⟩
  have hb := pu_clashes hB
  refine st_cmp hb (st_72 ?_)
  exact K P n t y7 y8 y9 ln ta e s1 F1 a b M s2 F2 s3 F3 sl sz cf dt s F ms A (h)

set_option maxRecDepth 100000 in
set_option maxHeartbeats 1000000 in
theorem cs_broken {N : Nat} {xs : Nat → Int32} {G : Nat → sK} {x : Int32} (hx : lX x N) (K : lK G x) {P n t : Nat} {y7 y8 y9 ln : Int32} {ta : Nat → Int32} {e : eT} {s1 : Nat → Int32} {F1 : Nat → Nat → Int32} {a b : Int32} {M : Nat → Nat → Int32} {s2 : Nat → Int32} {F2 : Nat → Nat → Int32} {s3 : Nat → Int32} {F3 : Nat → Nat → Int32} {sl sz : Nat → Int32} {cf : Nat → Nat → Int32} {dt s : Nat → Int32} {F : Nat → Nat → Int32} {ms : Nat → Int32} {A : Nat → Nat → Int32} (h : LIx P n t y7 y8 y9 ln ta s2 F2 s3 F3 sl sz cf s F ms A) : wJ (s_go (some (N, xs)) k_L_law G lP true 99) 47 (lL x) [] (lW y7 y8 y9 ln ta e s1 F1 a b M s2 F2 s3 F3 sl sz cf dt s F ms A) := by
  obtain ⟨⟨hB, hy, hp⟩, ⟨hk, h0, h1⟩, ⟨ht1, ht2, ht3, ht4, ht5⟩, hS, hm8, hm9, hm2, hm3⟩ := id h
  obtain ⟨hs1, hn8, hP8, hnn, hs2x, hs15x, hs18x, hyp, hnd, hh8⟩ := li_x h
  obtain ⟨h00, dd, ll, e1, e2, e3, e4, e5, e6, hs2⟩ := hs2x
  obtain ⟨Np, hs15, hp1, hp2, hpl⟩ := hs15x
  obtain ⟨Sz, hs18, hz2, hz3⟩ := hs18x
  refine st_go rfl rfl (st_al rfl ?_)
  refine st_ro (args := [.ref 0]) (rest := []) rfl (fun f hf => hf) rfl (rcvC []) (fp1 []) rfl rfl sub1 rfl ⟨_, _, _, _, _, _, y7, y8, y9, s, F, n, rfl, rfl, hs1, hn8⟩ ?_
  intro r hr
  have hr2 : r = some (.int (p_br (F 6) (F 7) (s 5) (s 3) (s 1).toNatClampNeg)) := hr
  subst hr2
  refine ⟨_, rfl, rfl, ?_⟩
  refine st_al rfl ?_
  refine st_ro (args := [.ref 60]) (rest := [.int (p_br (F 6) (F 7) (s 5) (s 3) (s 1).toNatClampNeg)]) rfl (fun f hf => hf) rfl (rcvM []) (fpm []) rfl rfl subm rfl ⟨ms, A, n, rfl, rfl, hm3, hn8⟩ ?_
  intro r hr
  have hr2 : r = some (.int (p_br (p_mfo (A 1) (ms 3).toNatClampNeg) (p_mwa (A 1) (ms 3).toNatClampNeg) (A 1 26) (A 1 0) (ms 3).toNatClampNeg)) := hr
  try simp only [hm2, hm3, hnn] at hr2
  subst hr2
  refine ⟨_, rfl, rfl, ?_⟩
  have hb := pu_broken hB
  refine st_cmp hb (st_72 ?_)
  exact K P n t y7 y8 y9 ln ta e s1 F1 a b M s2 F2 s3 F3 sl sz cf dt s F ms A (h)

set_option maxRecDepth 100000 in
set_option maxHeartbeats 1000000 in
theorem cs_set {N : Nat} {xs : Nat → Int32} {G : Nat → sK} {x : Int32} (hx : lX x N) (K : lK G x) {P n t : Nat} {y7 y8 y9 ln : Int32} {ta : Nat → Int32} {e : eT} {s1 : Nat → Int32} {F1 : Nat → Nat → Int32} {a b : Int32} {M : Nat → Nat → Int32} {s2 : Nat → Int32} {F2 : Nat → Nat → Int32} {s3 : Nat → Int32} {F3 : Nat → Nat → Int32} {sl sz : Nat → Int32} {cf : Nat → Nat → Int32} {dt s : Nat → Int32} {F : Nat → Nat → Int32} {ms : Nat → Int32} {A : Nat → Nat → Int32} (h : LIx P n t y7 y8 y9 ln ta s2 F2 s3 F3 sl sz cf s F ms A) : wJ (s_go (some (N, xs)) k_L_law G lP true 99) 53 (lL x) [] (lW y7 y8 y9 ln ta e s1 F1 a b M s2 F2 s3 F3 sl sz cf dt s F ms A) := by
  obtain ⟨⟨hB, hy, hp⟩, ⟨hk, h0, h1⟩, ⟨ht1, ht2, ht3, ht4, ht5⟩, hS, hm8, hm9, hm2, hm3⟩ := id h
  obtain ⟨hs1, hn8, hP8, hnn, hs2x, hs15x, hs18x, hyp, hnd, hh8⟩ := li_x h
  obtain ⟨h00, dd, ll, e1, e2, e3, e4, e5, e6, hs2⟩ := hs2x
  obtain ⟨Np, hs15, hp1, hp2, hpl⟩ := hs15x
  obtain ⟨Sz, hs18, hz2, hz3⟩ := hs18x
  refine st_go rfl rfl (st_al rfl ?_)
  refine st_rd nW (lx hx 1 (by decide)) ?_
  refine st_ro (args := [.ref 0, .int (xs (x + 1).toNatClampNeg)]) (rest := []) rfl (fun f hf => hf) rfl (rcvC [.int (xs (x + 1).toNatClampNeg)]) (fp1 [.int (xs (x + 1).toNatClampNeg)]) rfl rfl sub1 rfl ⟨_, _, _, _, _, _, y7, y8, y9, s, F, _, n, rfl, rfl, hs1, hn8⟩ ?_
  intro r hr
  have hr2 : r = some (.int (r_set s F (xs (x + 1).toNatClampNeg))) := hr
  subst hr2
  refine ⟨_, rfl, rfl, ?_⟩
  refine st_al rfl ?_
  refine st_rd nW (lx hx 1 (by decide)) ?_
  refine st_ro (args := [.ref 60, .int (xs (x + 1).toNatClampNeg)]) (rest := [.int (r_set s F (xs (x + 1).toNatClampNeg))]) rfl (fun f hf => hf) rfl (rcvM [.int (xs (x + 1).toNatClampNeg)]) (fpm [.int (xs (x + 1).toNatClampNeg)]) rfl rfl subm rfl ⟨ms, A, _, n, rfl, rfl, hm3, hn8⟩ ?_
  intro r hr
  have hr2 : r = some (.int (r_mset (fun i => A 1 (18 + i)) (fun i => A 1 (10 + i)) (ms 3).toNatClampNeg (xs (x + 1).toNatClampNeg))) := hr
  try simp only [hm2, hm3, hnn] at hr2
  subst hr2
  refine ⟨_, rfl, rfl, ?_⟩
  have hb := pu_set hB (xs (x + 1).toNatClampNeg)
  refine st_cmp hb (st_72 ?_)
  exact K P n t y7 y8 y9 ln ta e s1 F1 a b M s2 F2 s3 F3 sl sz cf dt s F ms A (h)

set_option maxRecDepth 100000 in
set_option maxHeartbeats 1000000 in
theorem cs_rid {N : Nat} {xs : Nat → Int32} {G : Nat → sK} {x : Int32} (hx : lX x N) (K : lK G x) {P n t : Nat} {y7 y8 y9 ln : Int32} {ta : Nat → Int32} {e : eT} {s1 : Nat → Int32} {F1 : Nat → Nat → Int32} {a b : Int32} {M : Nat → Nat → Int32} {s2 : Nat → Int32} {F2 : Nat → Nat → Int32} {s3 : Nat → Int32} {F3 : Nat → Nat → Int32} {sl sz : Nat → Int32} {cf : Nat → Nat → Int32} {dt s : Nat → Int32} {F : Nat → Nat → Int32} {ms : Nat → Int32} {A : Nat → Nat → Int32} (h : LIx P n t y7 y8 y9 ln ta s2 F2 s3 F3 sl sz cf s F ms A) : wJ (s_go (some (N, xs)) k_L_law G lP true 99) 54 (lL x) [] (lW y7 y8 y9 ln ta e s1 F1 a b M s2 F2 s3 F3 sl sz cf dt s F ms A) := by
  obtain ⟨⟨hB, hy, hp⟩, ⟨hk, h0, h1⟩, ⟨ht1, ht2, ht3, ht4, ht5⟩, hS, hm8, hm9, hm2, hm3⟩ := id h
  obtain ⟨hs1, hn8, hP8, hnn, hs2x, hs15x, hs18x, hyp, hnd, hh8⟩ := li_x h
  obtain ⟨h00, dd, ll, e1, e2, e3, e4, e5, e6, hs2⟩ := hs2x
  obtain ⟨Np, hs15, hp1, hp2, hpl⟩ := hs15x
  obtain ⟨Sz, hs18, hz2, hz3⟩ := hs18x
  refine st_go rfl rfl (st_al rfl ?_)
  refine st_rd nW (lx hx 1 (by decide)) ?_
  refine st_ro (args := [.ref 0, .int (xs (x + 1).toNatClampNeg)]) (rest := []) rfl (fun f hf => hf) rfl (rcvC [.int (xs (x + 1).toNatClampNeg)]) (fp1 [.int (xs (x + 1).toNatClampNeg)]) rfl rfl sub1 rfl ⟨_, _, _, _, _, _, y7, y8, y9, s, F, _, n, rfl, rfl, hs1, hn8⟩ ?_
  intro r hr
  have hr2 : r = some (.int (r_rid s F (xs (x + 1).toNatClampNeg))) := hr
  subst hr2
  refine ⟨_, rfl, rfl, ?_⟩
  refine st_al rfl ?_
  refine st_rd nW (lx hx 1 (by decide)) ?_
  refine st_ro (args := [.ref 60, .int (xs (x + 1).toNatClampNeg)]) (rest := [.int (r_rid s F (xs (x + 1).toNatClampNeg))]) rfl (fun f hf => hf) rfl (rcvM [.int (xs (x + 1).toNatClampNeg)]) (fpm [.int (xs (x + 1).toNatClampNeg)]) rfl rfl subm rfl ⟨ms, A, _, n, rfl, rfl, hm3, hn8⟩ ?_
  intro r hr
  have hr2 : r = some (.int (r_mrid (fun i => A 1 (18 + i)) (fun i => A 1 (10 + i)) (ms 3).toNatClampNeg (A 1 26) (xs (x + 1).toNatClampNeg))) := hr
  try simp only [hm2, hm3, hnn] at hr2
  subst hr2
  refine ⟨_, rfl, rfl, ?_⟩
  have hb := pu_rid hB (xs (x + 1).toNatClampNeg)
  refine st_cmp hb (st_72 ?_)
  exact K P n t y7 y8 y9 ln ta e s1 F1 a b M s2 F2 s3 F3 sl sz cf dt s F ms A (h)

set_option maxRecDepth 100000 in
set_option maxHeartbeats 1000000 in
theorem cs_fits {N : Nat} {xs : Nat → Int32} {G : Nat → sK} {x : Int32} (hx : lX x N) (K : lK G x) {P n t : Nat} {y7 y8 y9 ln : Int32} {ta : Nat → Int32} {e : eT} {s1 : Nat → Int32} {F1 : Nat → Nat → Int32} {a b : Int32} {M : Nat → Nat → Int32} {s2 : Nat → Int32} {F2 : Nat → Nat → Int32} {s3 : Nat → Int32} {F3 : Nat → Nat → Int32} {sl sz : Nat → Int32} {cf : Nat → Nat → Int32} {dt s : Nat → Int32} {F : Nat → Nat → Int32} {ms : Nat → Int32} {A : Nat → Nat → Int32} (h : LIx P n t y7 y8 y9 ln ta s2 F2 s3 F3 sl sz cf s F ms A) : wJ (s_go (some (N, xs)) k_L_law G lP true 99) 62 (lL x) [] (lW y7 y8 y9 ln ta e s1 F1 a b M s2 F2 s3 F3 sl sz cf dt s F ms A) := by
  obtain ⟨⟨hB, hy, hp⟩, ⟨hk, h0, h1⟩, ⟨ht1, ht2, ht3, ht4, ht5⟩, hS, hm8, hm9, hm2, hm3⟩ := id h
  obtain ⟨hs1, hn8, hP8, hnn, hs2x, hs15x, hs18x, hyp, hnd, hh8⟩ := li_x h
  obtain ⟨h00, dd, ll, e1, e2, e3, e4, e5, e6, hs2⟩ := hs2x
  obtain ⟨Np, hs15, hp1, hp2, hpl⟩ := hs15x
  obtain ⟨Sz, hs18, hz2, hz3⟩ := hs18x
  refine st_go rfl rfl (st_al rfl ?_)
  refine st_rd nW (lx hx 1 (by decide)) ?_
  refine st_ro (args := [.ref 0, .int (xs (x + 1).toNatClampNeg)]) (rest := []) rfl (fun f hf => hf) rfl (rcvC [.int (xs (x + 1).toNatClampNeg)]) (fp1 [.int (xs (x + 1).toNatClampNeg)]) rfl rfl sub1 rfl ⟨_, _, _, _, _, _, y7, y8, y9, s, F, _, n, Sz, rfl, rfl, hs1, hn8, hs18, hz2⟩ ?_
  intro r hr
  have hr2 : r = some (.int (r_fits s F (xs (x + 1).toNatClampNeg))) := hr
  subst hr2
  refine ⟨_, rfl, rfl, ?_⟩
  refine st_al rfl ?_
  refine st_rd nW (lx hx 1 (by decide)) ?_
  refine st_ro (args := [.ref 60, .int (xs (x + 1).toNatClampNeg)]) (rest := [.int (r_fits s F (xs (x + 1).toNatClampNeg))]) rfl (fun f hf => hf) rfl (rcvM [.int (xs (x + 1).toNatClampNeg)]) (fpm [.int (xs (x + 1).toNatClampNeg)]) rfl rfl subm rfl ⟨ms, A, _, n, Sz, rfl, rfl, hm3, hn8, hz3, hz2⟩ ?_
  intro r hr
  have hr2 : r = some (.int (r_mfits (A 1) (ms 3).toNatClampNeg (xs (x + 1).toNatClampNeg))) := hr
  try simp only [hm2, hm3, hnn] at hr2
  subst hr2
  refine ⟨_, rfl, rfl, ?_⟩
  have hb := pu_fits hB (xs (x + 1).toNatClampNeg)
  refine st_cmp hb (st_72 ?_)
  exact K P n t y7 y8 y9 ln ta e s1 F1 a b M s2 F2 s3 F3 sl sz cf dt s F ms A (h)

set_option maxRecDepth 100000 in
set_option maxHeartbeats 1000000 in
theorem cs_odds {N : Nat} {xs : Nat → Int32} {G : Nat → sK} {x : Int32} (hx : lX x N) (K : lK G x) {P n t : Nat} {y7 y8 y9 ln : Int32} {ta : Nat → Int32} {e : eT} {s1 : Nat → Int32} {F1 : Nat → Nat → Int32} {a b : Int32} {M : Nat → Nat → Int32} {s2 : Nat → Int32} {F2 : Nat → Nat → Int32} {s3 : Nat → Int32} {F3 : Nat → Nat → Int32} {sl sz : Nat → Int32} {cf : Nat → Nat → Int32} {dt s : Nat → Int32} {F : Nat → Nat → Int32} {ms : Nat → Int32} {A : Nat → Nat → Int32} (h : LIx P n t y7 y8 y9 ln ta s2 F2 s3 F3 sl sz cf s F ms A) : wJ (s_go (some (N, xs)) k_L_law G lP true 99) 63 (lL x) [] (lW y7 y8 y9 ln ta e s1 F1 a b M s2 F2 s3 F3 sl sz cf dt s F ms A) := by
  obtain ⟨⟨hB, hy, hp⟩, ⟨hk, h0, h1⟩, ⟨ht1, ht2, ht3, ht4, ht5⟩, hS, hm8, hm9, hm2, hm3⟩ := id h
  obtain ⟨hs1, hn8, hP8, hnn, hs2x, hs15x, hs18x, hyp, hnd, hh8⟩ := li_x h
  obtain ⟨h00, dd, ll, e1, e2, e3, e4, e5, e6, hs2⟩ := hs2x
  obtain ⟨Np, hs15, hp1, hp2, hpl⟩ := hs15x
  obtain ⟨Sz, hs18, hz2, hz3⟩ := hs18x
  refine st_go rfl rfl (st_al rfl ?_)
  refine st_rd nW (lx hx 1 (by decide)) ?_
  refine st_rd nW (lx hx 2 (by decide)) ?_
  refine st_rd nW (lx hx 3 (by decide)) ?_
  refine st_ro (args := [.ref 0, .int (xs (x + 1).toNatClampNeg), .int (xs (x + 2).toNatClampNeg), .int (xs (x + 3).toNatClampNeg)]) (rest := []) rfl (fun f hf => hf) rfl (rcvC [.int (xs (x + 1).toNatClampNeg), .int (xs (x + 2).toNatClampNeg), .int (xs (x + 3).toNatClampNeg)]) (fp1 [.int (xs (x + 1).toNatClampNeg), .int (xs (x + 2).toNatClampNeg), .int (xs (x + 3).toNatClampNeg)]) rfl rfl sub1 rfl ⟨_, _, _, _, _, _, y7, y8, y9, s, F, _, _, _, n, Np, dd, rfl, rfl, hs15, hp1, hs1, hn8, hs2, e3, hpl⟩ ?_
  intro r hr
  have hr2 : r = some (.long (r_odds s F (xs (x + 1).toNatClampNeg) (xs (x + 2).toNatClampNeg) (xs (x + 3).toNatClampNeg))) := hr
  subst hr2
  refine ⟨_, rfl, rfl, ?_⟩
  refine st_al rfl ?_
  refine st_rd nW (lx hx 1 (by decide)) ?_
  refine st_rd nW (lx hx 2 (by decide)) ?_
  refine st_rd nW (lx hx 3 (by decide)) ?_
  refine st_ro (args := [.ref 60, .int (xs (x + 1).toNatClampNeg), .int (xs (x + 2).toNatClampNeg), .int (xs (x + 3).toNatClampNeg)]) (rest := [.long (r_odds s F (xs (x + 1).toNatClampNeg) (xs (x + 2).toNatClampNeg) (xs (x + 3).toNatClampNeg))]) rfl (fun f hf => hf) rfl (rcvM [.int (xs (x + 1).toNatClampNeg), .int (xs (x + 2).toNatClampNeg), .int (xs (x + 3).toNatClampNeg)]) (fpm [.int (xs (x + 1).toNatClampNeg), .int (xs (x + 2).toNatClampNeg), .int (xs (x + 3).toNatClampNeg)]) rfl rfl subm rfl ⟨ms, A, _, _, _, P, n, dd, Np, rfl, rfl, hm2, hP8, hm3, hn8, e4, e3, hp2, hp1⟩ ?_
  intro r hr
  have hr2 : r = some (.long (r_modds (A 1) (ms 2) (ms 3).toNatClampNeg (xs (x + 1).toNatClampNeg) (xs (x + 2).toNatClampNeg) (xs (x + 3).toNatClampNeg))) := hr
  try simp only [hm2, hm3, hnn] at hr2
  subst hr2
  refine ⟨_, rfl, rfl, ?_⟩
  have hb := pu_odds hB (xs (x + 1).toNatClampNeg) (xs (x + 2).toNatClampNeg) (xs (x + 3).toNatClampNeg)
  refine st_lcmp hb (st_72 ?_)
  exact K P n t y7 y8 y9 ln ta e s1 F1 a b M s2 F2 s3 F3 sl sz cf dt s F ms A (h)

set_option maxRecDepth 100000 in
set_option maxHeartbeats 1000000 in
theorem cs_wild {N : Nat} {xs : Nat → Int32} {G : Nat → sK} {x : Int32} (hx : lX x N) (K : lK G x) {P n t : Nat} {y7 y8 y9 ln : Int32} {ta : Nat → Int32} {e : eT} {s1 : Nat → Int32} {F1 : Nat → Nat → Int32} {a b : Int32} {M : Nat → Nat → Int32} {s2 : Nat → Int32} {F2 : Nat → Nat → Int32} {s3 : Nat → Int32} {F3 : Nat → Nat → Int32} {sl sz : Nat → Int32} {cf : Nat → Nat → Int32} {dt s : Nat → Int32} {F : Nat → Nat → Int32} {ms : Nat → Int32} {A : Nat → Nat → Int32} (h : LIx P n t y7 y8 y9 ln ta s2 F2 s3 F3 sl sz cf s F ms A) : wJ (s_go (some (N, xs)) k_L_law G lP true 99) 64 (lL x) [] (lW y7 y8 y9 ln ta e s1 F1 a b M s2 F2 s3 F3 sl sz cf dt s F ms A) := by
  obtain ⟨⟨hB, hy, hp⟩, ⟨hk, h0, h1⟩, ⟨ht1, ht2, ht3, ht4, ht5⟩, hS, hm8, hm9, hm2, hm3⟩ := id h
  obtain ⟨hs1, hn8, hP8, hnn, hs2x, hs15x, hs18x, hyp, hnd, hh8⟩ := li_x h
  obtain ⟨h00, dd, ll, e1, e2, e3, e4, e5, e6, hs2⟩ := hs2x
  obtain ⟨Np, hs15, hp1, hp2, hpl⟩ := hs15x
  obtain ⟨Sz, hs18, hz2, hz3⟩ := hs18x
  refine st_go rfl rfl (st_al rfl ?_)
  refine st_rd nW (lx hx 1 (by decide)) ?_
  refine st_rd nW (lx hx 2 (by decide)) ?_
  refine st_rd nW (lx hx 3 (by decide)) ?_
  refine st_ro (args := [.ref 0, .int (xs (x + 1).toNatClampNeg), .int (xs (x + 2).toNatClampNeg), .int (xs (x + 3).toNatClampNeg)]) (rest := []) rfl (fun f hf => hf) rfl (rcvC [.int (xs (x + 1).toNatClampNeg), .int (xs (x + 2).toNatClampNeg), .int (xs (x + 3).toNatClampNeg)]) (fp1 [.int (xs (x + 1).toNatClampNeg), .int (xs (x + 2).toNatClampNeg), .int (xs (x + 3).toNatClampNeg)]) rfl rfl sub1 rfl ⟨_, _, _, _, _, _, y7, y8, y9, s, F, _, _, _, n, dd, rfl, rfl, hs1, hn8, hs2, e3⟩ ?_
  intro r hr
  have hr2 : r = some (.int (r_wild s F (xs (x + 1).toNatClampNeg) (xs (x + 2).toNatClampNeg) (xs (x + 3).toNatClampNeg))) := hr
  subst hr2
  refine ⟨_, rfl, rfl, ?_⟩
  refine st_al rfl ?_
  refine st_rd nW (lx hx 1 (by decide)) ?_
  refine st_rd nW (lx hx 2 (by decide)) ?_
  refine st_rd nW (lx hx 3 (by decide)) ?_
  refine st_ro (args := [.ref 60, .int (xs (x + 1).toNatClampNeg), .int (xs (x + 2).toNatClampNeg), .int (xs (x + 3).toNatClampNeg)]) (rest := [.int (r_wild s F (xs (x + 1).toNatClampNeg) (xs (x + 2).toNatClampNeg) (xs (x + 3).toNatClampNeg))]) rfl (fun f hf => hf) rfl (rcvM [.int (xs (x + 1).toNatClampNeg), .int (xs (x + 2).toNatClampNeg), .int (xs (x + 3).toNatClampNeg)]) (fpm [.int (xs (x + 1).toNatClampNeg), .int (xs (x + 2).toNatClampNeg), .int (xs (x + 3).toNatClampNeg)]) rfl rfl subm rfl ⟨ms, A, _, _, _, n, dd, rfl, rfl, hm3, hn8, e4, e3⟩ ?_
  intro r hr
  have hr2 : r = some (.int (r_mwild (A 1) (ms 3) (xs (x + 1).toNatClampNeg) (xs (x + 2).toNatClampNeg) (xs (x + 3).toNatClampNeg))) := hr
  try simp only [hm2, hm3, hnn] at hr2
  subst hr2
  refine ⟨_, rfl, rfl, ?_⟩
  have hb := pu_wild hB (xs (x + 1).toNatClampNeg) (xs (x + 2).toNatClampNeg) (xs (x + 3).toNatClampNeg)
  refine st_cmp hb (st_72 ?_)
  exact K P n t y7 y8 y9 ln ta e s1 F1 a b M s2 F2 s3 F3 sl sz cf dt s F ms A (h)

set_option maxRecDepth 100000 in
set_option maxHeartbeats 1000000 in
theorem cs_count {N : Nat} {xs : Nat → Int32} {G : Nat → sK} {x : Int32} (hx : lX x N) (K : lK G x) {P n t : Nat} {y7 y8 y9 ln : Int32} {ta : Nat → Int32} {e : eT} {s1 : Nat → Int32} {F1 : Nat → Nat → Int32} {a b : Int32} {M : Nat → Nat → Int32} {s2 : Nat → Int32} {F2 : Nat → Nat → Int32} {s3 : Nat → Int32} {F3 : Nat → Nat → Int32} {sl sz : Nat → Int32} {cf : Nat → Nat → Int32} {dt s : Nat → Int32} {F : Nat → Nat → Int32} {ms : Nat → Int32} {A : Nat → Nat → Int32} (h : LIx P n t y7 y8 y9 ln ta s2 F2 s3 F3 sl sz cf s F ms A) : wJ (s_go (some (N, xs)) k_L_law G lP true 99) 71 (lL x) [] (lW y7 y8 y9 ln ta e s1 F1 a b M s2 F2 s3 F3 sl sz cf dt s F ms A) := by
  obtain ⟨⟨hB, hy, hp⟩, ⟨hk, h0, h1⟩, ⟨ht1, ht2, ht3, ht4, ht5⟩, hS, hm8, hm9, hm2, hm3⟩ := id h
  obtain ⟨hs1, hn8, hP8, hnn, hs2x, hs15x, hs18x, hyp, hnd, hh8⟩ := li_x h
  obtain ⟨h00, dd, ll, e1, e2, e3, e4, e5, e6, hs2⟩ := hs2x
  obtain ⟨Np, hs15, hp1, hp2, hpl⟩ := hs15x
  obtain ⟨Sz, hs18, hz2, hz3⟩ := hs18x
  refine st_go rfl rfl (st_al rfl ?_)
  refine st_rd nW (lx hx 1 (by decide)) ?_
  refine st_ro (args := [.ref 0, .int (xs (x + 1).toNatClampNeg)]) (rest := []) rfl (fun f hf => hf) rfl (rcvC [.int (xs (x + 1).toNatClampNeg)]) (fp6 [.int (xs (x + 1).toNatClampNeg)]) rfl rfl sub6 rfl ⟨_, _, _, _, _, _, _, _, _, y7, y8, y9, ln, sl 0, sz 0, s, F, _, rfl, rfl⟩ ?_
  intro r hr
  have hr2 : r = some (.int (r_count s y7 ln (sl 0) (sz 0) (xs (x + 1).toNatClampNeg))) := hr
  subst hr2
  refine ⟨_, rfl, rfl, ?_⟩
  refine st_al rfl ?_
  refine st_rd nW (lx hx 1 (by decide)) ?_
  refine st_ro (args := [.ref 60, .int (xs (x + 1).toNatClampNeg)]) (rest := [.int (r_count s y7 ln (sl 0) (sz 0) (xs (x + 1).toNatClampNeg))]) rfl (fun f hf => hf) rfl (rcvM [.int (xs (x + 1).toNatClampNeg)]) (fpm [.int (xs (x + 1).toNatClampNeg)]) rfl rfl subm rfl ⟨ms, A, _, rfl, rfl⟩ ?_
  intro r hr
  have hr2 : r = some (.int (r_mcount ms (A 1) (A 2) (A 14) (A 15) (xs (x + 1).toNatClampNeg))) := hr
  subst hr2
  refine ⟨_, rfl, rfl, ?_⟩
  have hb := pu_count hB hk ht3.symm (sr_l hS) (sr_z hS) (xs (x + 1).toNatClampNeg)
  refine st_cmp hb (st_72 ?_)
  exact K P n t y7 y8 y9 ln ta e s1 F1 a b M s2 F2 s3 F3 sl sz cf dt s F ms A (h)

set_option maxRecDepth 100000 in
set_option maxHeartbeats 1000000 in
theorem cs_date {N : Nat} {xs : Nat → Int32} {G : Nat → sK} {x : Int32} (hx : lX x N) (K : lK G x) {P n t : Nat} {y7 y8 y9 ln : Int32} {ta : Nat → Int32} {e : eT} {s1 : Nat → Int32} {F1 : Nat → Nat → Int32} {a b : Int32} {M : Nat → Nat → Int32} {s2 : Nat → Int32} {F2 : Nat → Nat → Int32} {s3 : Nat → Int32} {F3 : Nat → Nat → Int32} {sl sz : Nat → Int32} {cf : Nat → Nat → Int32} {dt s : Nat → Int32} {F : Nat → Nat → Int32} {ms : Nat → Int32} {A : Nat → Nat → Int32} (h : LIx P n t y7 y8 y9 ln ta s2 F2 s3 F3 sl sz cf s F ms A) : wJ (s_go (some (N, xs)) k_L_law G lP true 99) 55 (lL x) [] (lW y7 y8 y9 ln ta e s1 F1 a b M s2 F2 s3 F3 sl sz cf dt s F ms A) := by
  obtain ⟨⟨hB, hy, hp⟩, ⟨hk, h0, h1⟩, ⟨ht1, ht2, ht3, ht4, ht5⟩, hS, hm8, hm9, hm2, hm3⟩ := id h
  obtain ⟨hs1, hn8, hP8, hnn, hs2x, hs15x, hs18x, hyp, hnd, hh8⟩ := li_x h
  obtain ⟨h00, dd, ll, e1, e2, e3, e4, e5, e6, hs2⟩ := hs2x
  obtain ⟨Np, hs15, hp1, hp2, hpl⟩ := hs15x
  obtain ⟨Sz, hs18, hz2, hz3⟩ := hs18x
  refine st_go rfl rfl (st_al rfl ?_)
  refine st_rd nW (lx hx 1 (by decide)) ?_
  refine st_rw (args := [.ref 0, .int (xs (x + 1).toNatClampNeg)]) (rest := []) rfl (fun f hf => hf) rfl (rcvC [.int (xs (x + 1).toNatClampNeg)]) (fp2 [.int (xs (x + 1).toNatClampNeg)]) rfl rfl sub2 rfl ⟨_, _, _, _, _, y7, y8, y9, s, F, dt, _, n, rfl, rfl, hs1, hn8⟩ ?_
  rintro r L' ⟨hr, dt', hL⟩
  have hr2 : r = some (.int (r_date s F dt (xs (x + 1).toNatClampNeg))) := hr
  have hL2 : L' = w2 1001 1003 1014 1019 1040 y7 y8 y9 s F dt' := hL
  subst hr2 hL2
  refine ⟨_, rfl, rfl, ?_⟩
  rw [put2]
  refine st_al rfl ?_
  refine st_rd nW (lx hx 1 (by decide)) ?_
  refine st_rw (args := [.ref 60, .int (xs (x + 1).toNatClampNeg)]) (rest := [.int (r_date s F dt (xs (x + 1).toNatClampNeg))]) rfl (fun f hf => hf) rfl (rcvM [.int (xs (x + 1).toNatClampNeg)]) (fpm [.int (xs (x + 1).toNatClampNeg)]) rfl rfl subm rfl ⟨ms, A, _, n, rfl, rfl, hm3, hn8⟩ ?_
  rintro r L' ⟨hr, f', hL⟩
  have hr2 : r = some (.int (r_mdate (ms 3) (ms 3).toNatClampNeg (A 1) (A 3) (A 13) (xs (x + 1).toNatClampNeg))) := hr
  have hL2 : L' = mdW ms (va_up A 13 f') := hL
  try simp only [hm2, hm3, hnn] at hL2
  try simp only [hm2, hm3, hnn] at hr2
  subst hr2 hL2
  refine ⟨_, rfl, rfl, ?_⟩
  rw [putm]
  have hb := pu_date (dt := dt) (d := A 13) hB (fun i hi => (hy i hi).1) (xs (x + 1).toNatClampNeg)
  refine st_cmp hb (st_72 ?_)
  exact K P n t y7 y8 y9 ln ta e s1 F1 a b M s2 F2 s3 F3 sl sz cf dt' s F _ _ (h)

set_option maxRecDepth 100000 in
set_option maxHeartbeats 1000000 in
theorem cs_keep {N : Nat} {xs : Nat → Int32} {G : Nat → sK} {x : Int32} (hx : lX x N) (K : lK G x) {P n t : Nat} {y7 y8 y9 ln : Int32} {ta : Nat → Int32} {e : eT} {s1 : Nat → Int32} {F1 : Nat → Nat → Int32} {a b : Int32} {M : Nat → Nat → Int32} {s2 : Nat → Int32} {F2 : Nat → Nat → Int32} {s3 : Nat → Int32} {F3 : Nat → Nat → Int32} {sl sz : Nat → Int32} {cf : Nat → Nat → Int32} {dt s : Nat → Int32} {F : Nat → Nat → Int32} {ms : Nat → Int32} {A : Nat → Nat → Int32} (h : LIx P n t y7 y8 y9 ln ta s2 F2 s3 F3 sl sz cf s F ms A) : wJ (s_go (some (N, xs)) k_L_law G lP true 99) 65 (lL x) [] (lW y7 y8 y9 ln ta e s1 F1 a b M s2 F2 s3 F3 sl sz cf dt s F ms A) := by
  obtain ⟨⟨hB, hy, hp⟩, ⟨hk, h0, h1⟩, ⟨ht1, ht2, ht3, ht4, ht5⟩, hS, hm8, hm9, hm2, hm3⟩ := id h
  obtain ⟨hs1, hn8, hP8, hnn, hs2x, hs15x, hs18x, hyp, hnd, hh8⟩ := li_x h
  obtain ⟨h00, dd, ll, e1, e2, e3, e4, e5, e6, hs2⟩ := hs2x
  obtain ⟨Np, hs15, hp1, hp2, hpl⟩ := hs15x
  obtain ⟨Sz, hs18, hz2, hz3⟩ := hs18x
  refine st_go rfl rfl (st_al rfl ?_)
  refine st_rd nW (lx hx 1 (by decide)) ?_
  refine st_rw (args := [.ref 0, .int (xs (x + 1).toNatClampNeg)]) (rest := []) rfl (fun f hf => hf) rfl (rcvC [.int (xs (x + 1).toNatClampNeg)]) (fp7 [.int (xs (x + 1).toNatClampNeg)]) rfl rfl sub7 rfl ⟨_, _, _, _, _, y7, y8, y9, s, s2, s3, F, F2, F3, _, rfl, rfl⟩ ?_
  rintro r L' ⟨hr, hL⟩
  have hr2 : r = some (.int (r_keep y7 (xs (x + 1).toNatClampNeg))) := hr
  have hL2 : L' = w7 1001 1003 1014 1040 1049 (q_kept y7 (xs (x + 1).toNatClampNeg)) y8 y9 s (q_keepS (xs (x + 1).toNatClampNeg) 0 s s2) (q_keepS (xs (x + 1).toNatClampNeg) 1 s s3) F (q_keepF (xs (x + 1).toNatClampNeg) 0 F F2) (q_keepF (xs (x + 1).toNatClampNeg) 1 F F3) := hL
  subst hr2 hL2
  refine ⟨_, rfl, rfl, ?_⟩
  rw [put7]
  refine st_al rfl ?_
  refine st_rd nW (lx hx 1 (by decide)) ?_
  refine st_rw (args := [.ref 60, .int (xs (x + 1).toNatClampNeg)]) (rest := [.int (r_keep y7 (xs (x + 1).toNatClampNeg))]) rfl (fun f hf => hf) rfl (rcvM [.int (xs (x + 1).toNatClampNeg)]) (fpm [.int (xs (x + 1).toNatClampNeg)]) rfl rfl subm rfl ⟨ms, A, _, rfl, rfl⟩ ?_
  rintro r L' ⟨hr, hL⟩
  have hr2 : r = some (.int (r_mkeep (A 2) (xs (x + 1).toNatClampNeg))) := hr
  have hL2 : L' = mdW ms (va_up (va_up A 2 (q_mkeepK (A 2) (xs (x + 1).toNatClampNeg))) 1 (q_mkeep (A 1) (xs (x + 1).toNatClampNeg))) := hL
  try simp only [hm2, hm3, hnn] at hL2
  try simp only [hm2, hm3, hnn] at hr2
  subst hr2 hL2
  refine ⟨_, rfl, rfl, ?_⟩
  rw [putm]
  have hb := pu_keep hB hyp hk h0 h1 (xs (x + 1).toNatClampNeg)
  refine st_cmp hb.1 (st_72 ?_)
  exact K P n t (q_kept y7 (xs (x + 1).toNatClampNeg)) y8 y9 ln ta e s1 F1 a b M (q_keepS (xs (x + 1).toNatClampNeg) 0 s s2) (q_keepF (xs (x + 1).toNatClampNeg) 0 F F2) (q_keepS (xs (x + 1).toNatClampNeg) 1 s s3) (q_keepF (xs (x + 1).toNatClampNeg) 1 F F3) sl sz cf dt s F _ _ (⟨⟨hb.2.2.1, hy, hp⟩, ⟨hb.2.1, hb.2.2.2.1, hb.2.2.2.2⟩, ⟨ht1, ht2, ht3, ht4, ht5⟩, hS, hm8, hm9, hm2, hm3⟩)

set_option maxRecDepth 100000 in
set_option maxHeartbeats 1000000 in
theorem cs_back {N : Nat} {xs : Nat → Int32} {G : Nat → sK} {x : Int32} (hx : lX x N) (K : lK G x) {P n t : Nat} {y7 y8 y9 ln : Int32} {ta : Nat → Int32} {e : eT} {s1 : Nat → Int32} {F1 : Nat → Nat → Int32} {a b : Int32} {M : Nat → Nat → Int32} {s2 : Nat → Int32} {F2 : Nat → Nat → Int32} {s3 : Nat → Int32} {F3 : Nat → Nat → Int32} {sl sz : Nat → Int32} {cf : Nat → Nat → Int32} {dt s : Nat → Int32} {F : Nat → Nat → Int32} {ms : Nat → Int32} {A : Nat → Nat → Int32} (h : LIx P n t y7 y8 y9 ln ta s2 F2 s3 F3 sl sz cf s F ms A) : wJ (s_go (some (N, xs)) k_L_law G lP true 99) 66 (lL x) [] (lW y7 y8 y9 ln ta e s1 F1 a b M s2 F2 s3 F3 sl sz cf dt s F ms A) := by
  obtain ⟨⟨hB, hy, hp⟩, ⟨hk, h0, h1⟩, ⟨ht1, ht2, ht3, ht4, ht5⟩, hS, hm8, hm9, hm2, hm3⟩ := id h
  obtain ⟨hs1, hn8, hP8, hnn, hs2x, hs15x, hs18x, hyp, hnd, hh8⟩ := li_x h
  obtain ⟨h00, dd, ll, e1, e2, e3, e4, e5, e6, hs2⟩ := hs2x
  obtain ⟨Np, hs15, hp1, hp2, hpl⟩ := hs15x
  obtain ⟨Sz, hs18, hz2, hz3⟩ := hs18x
  refine st_go rfl rfl (st_al rfl ?_)
  refine st_rd nW (lx hx 1 (by decide)) ?_
  refine st_rw (args := [.ref 0, .int (xs (x + 1).toNatClampNeg)]) (rest := []) rfl (fun f hf => hf) rfl (rcvC [.int (xs (x + 1).toNatClampNeg)]) (fp7 [.int (xs (x + 1).toNatClampNeg)]) rfl rfl sub7 rfl ⟨_, _, _, _, _, y7, y8, y9, s, s2, s3, F, F2, F3, _, rfl, rfl⟩ ?_
  rintro r L' ⟨hr, hL⟩
  have hr2 : r = some (.int (r_back y7 (xs (x + 1).toNatClampNeg) s2 s3)) := hr
  have hL2 : L' = w7 1001 1003 1014 1040 1049 y7 y8 y9 (q_backS y7 (xs (x + 1).toNatClampNeg) s s2 s3) s2 s3 (q_backF y7 (xs (x + 1).toNatClampNeg) F F2 F3) F2 F3 := hL
  subst hr2 hL2
  refine ⟨_, rfl, rfl, ?_⟩
  rw [put7]
  refine st_al rfl ?_
  refine st_rd nW (lx hx 1 (by decide)) ?_
  refine st_rw (args := [.ref 60, .int (xs (x + 1).toNatClampNeg)]) (rest := [.int (r_back y7 (xs (x + 1).toNatClampNeg) s2 s3)]) rfl (fun f hf => hf) rfl (rcvM [.int (xs (x + 1).toNatClampNeg)]) (fpm [.int (xs (x + 1).toNatClampNeg)]) rfl rfl subm rfl ⟨ms, A, _, rfl, rfl⟩ ?_
  rintro r L' ⟨hr, hL⟩
  have hr2 : r = some (.int (r_mback (A 1) (A 2) (xs (x + 1).toNatClampNeg))) := hr
  have hL2 : L' = mdW ms (va_up A 1 (q_mback (A 1) (A 2) (xs (x + 1).toNatClampNeg))) := hL
  try simp only [hm2, hm3, hnn] at hL2
  try simp only [hm2, hm3, hnn] at hr2
  subst hr2 hL2
  refine ⟨_, rfl, rfl, ?_⟩
  rw [putm]
  have hb := pu_back hB hyp hk h0 h1 (xs (x + 1).toNatClampNeg)
  refine st_cmp hb.1 (st_72 ?_)
  exact K P n t y7 y8 y9 ln ta e s1 F1 a b M s2 F2 s3 F3 sl sz cf dt (q_backS y7 (xs (x + 1).toNatClampNeg) s s2 s3) (q_backF y7 (xs (x + 1).toNatClampNeg) F F2 F3) _ _ (⟨⟨hb.2.1, fun i hi => ⟨(hb.2.2.1 i hi).1, (hy i hi).2⟩, fun i hi => ⟨(hb.2.2.1 i hi).2, (hp i hi).2⟩⟩, ⟨hk, IR_st h0 hb.2.2.2, IR_st h1 hb.2.2.2⟩, ⟨ht1, ht2, ht3, ht4, ht5⟩, hS, hm8, hm9, hm2, hm3⟩)

set_option maxRecDepth 100000 in
set_option maxHeartbeats 1000000 in
theorem cs_cheap {N : Nat} {xs : Nat → Int32} {G : Nat → sK} {x : Int32} (hx : lX x N) (K : lK G x) {P n t : Nat} {y7 y8 y9 ln : Int32} {ta : Nat → Int32} {e : eT} {s1 : Nat → Int32} {F1 : Nat → Nat → Int32} {a b : Int32} {M : Nat → Nat → Int32} {s2 : Nat → Int32} {F2 : Nat → Nat → Int32} {s3 : Nat → Int32} {F3 : Nat → Nat → Int32} {sl sz : Nat → Int32} {cf : Nat → Nat → Int32} {dt s : Nat → Int32} {F : Nat → Nat → Int32} {ms : Nat → Int32} {A : Nat → Nat → Int32} (h : LIx P n t y7 y8 y9 ln ta s2 F2 s3 F3 sl sz cf s F ms A) : wJ (s_go (some (N, xs)) k_L_law G lP true 99) 49 (lL x) [] (lW y7 y8 y9 ln ta e s1 F1 a b M s2 F2 s3 F3 sl sz cf dt s F ms A) := by
  obtain ⟨⟨hB, hy, hp⟩, ⟨hk, h0, h1⟩, ⟨ht1, ht2, ht3, ht4, ht5⟩, hS, hm8, hm9, hm2, hm3⟩ := id h
  obtain ⟨hs1, hn8, hP8, hnn, hs2x, hs15x, hs18x, hyp, hnd, hh8⟩ := li_x h
  obtain ⟨h00, dd, ll, e1, e2, e3, e4, e5, e6, hs2⟩ := hs2x
  obtain ⟨Np, hs15, hp1, hp2, hpl⟩ := hs15x
  obtain ⟨Sz, hs18, hz2, hz3⟩ := hs18x
  refine st_go rfl rfl (st_al rfl ?_)
  refine st_rd nW (lx hx 1 (by decide)) ?_
  refine st_rw (args := [.ref 0, .int (xs (x + 1).toNatClampNeg)]) (rest := []) rfl (fun f hf => hf) rfl (rcvC [.int (xs (x + 1).toNatClampNeg)]) (fpr [.int (xs (x + 1).toNatClampNeg)]) rfl rfl subr rfl ⟨_, _, _, _, _, y7, y8, y9, a, b, M, s, F, _, n, h00, dd, rfl, rfl, bOK_of hB e1 e2, hs2, e3⟩ ?_
  rintro r L' ⟨v, hr, hq0, a', b', M', hL⟩
  have hq : q_chp s F (s 1).toNatClampNeg (s 5).toNatClampNeg (s 2).toNatClampNeg (xs (x + 1).toNatClampNeg) v := hq0
  have hL2 : L' = wr5 1001 1003 1019 1040 1049 y7 y8 y9 a' b' M' s F := hL
  subst hr hL2
  refine ⟨_, rfl, rfl, ?_⟩
  rw [putr]
  refine st_al rfl ?_
  refine st_rd nW (lx hx 1 (by decide)) ?_
  refine st_rw (args := [.ref 60, .int (xs (x + 1).toNatClampNeg)]) (rest := [.int v]) rfl (fun f hf => hf) rfl (rcvM [.int (xs (x + 1).toNatClampNeg)]) (fpm [.int (xs (x + 1).toNatClampNeg)]) rfl rfl subm rfl ⟨ms, A, _, P, n, dd, rfl, rfl, hm2, hP8, hm3, hn8, e4, e3, hnd, hh8⟩ ?_
  rintro r L' ⟨hr, g', hL⟩
  have hr2 : r = some (.int (r_mch ms A (xs (x + 1).toNatClampNeg))) := hr
  have hL2 : L' = mdW ms (md4 A g') := hL
  try simp only [hm2, hm3, hnn] at hL2
  subst hr2 hL2
  refine ⟨_, rfl, rfl, ?_⟩
  rw [putm]
  have hb := pu_cheap hB hp hm2 hm3 hq
  refine st_cmp hb (st_72 ?_)
  exact K P n t y7 y8 y9 ln ta e s1 F1 a' b' M' s2 F2 s3 F3 sl sz cf dt s F _ _ (h)

set_option maxRecDepth 100000 in
set_option maxHeartbeats 1000000 in
theorem cs_all {N : Nat} {xs : Nat → Int32} {G : Nat → sK} {x : Int32} (hx : lX x N) (K : lK G x) {P n t : Nat} {y7 y8 y9 ln : Int32} {ta : Nat → Int32} {e : eT} {s1 : Nat → Int32} {F1 : Nat → Nat → Int32} {a b : Int32} {M : Nat → Nat → Int32} {s2 : Nat → Int32} {F2 : Nat → Nat → Int32} {s3 : Nat → Int32} {F3 : Nat → Nat → Int32} {sl sz : Nat → Int32} {cf : Nat → Nat → Int32} {dt s : Nat → Int32} {F : Nat → Nat → Int32} {ms : Nat → Int32} {A : Nat → Nat → Int32} (h : LIx P n t y7 y8 y9 ln ta s2 F2 s3 F3 sl sz cf s F ms A) : wJ (s_go (some (N, xs)) k_L_law G lP true 99) 52 (lL x) [] (lW y7 y8 y9 ln ta e s1 F1 a b M s2 F2 s3 F3 sl sz cf dt s F ms A) := by
  obtain ⟨⟨hB, hy, hp⟩, ⟨hk, h0, h1⟩, ⟨ht1, ht2, ht3, ht4, ht5⟩, hS, hm8, hm9, hm2, hm3⟩ := id h
  obtain ⟨hs1, hn8, hP8, hnn, hs2x, hs15x, hs18x, hyp, hnd, hh8⟩ := li_x h
  obtain ⟨h00, dd, ll, e1, e2, e3, e4, e5, e6, hs2⟩ := hs2x
  obtain ⟨Np, hs15, hp1, hp2, hpl⟩ := hs15x
  obtain ⟨Sz, hs18, hz2, hz3⟩ := hs18x
  refine st_go rfl rfl (st_al rfl ?_)
  refine st_rw (args := [.ref 0]) (rest := []) rfl (fun f hf => hf) rfl (rcvC []) (fpr []) rfl rfl subr rfl ⟨_, _, _, _, _, y7, y8, y9, a, b, M, s, F, n, h00, dd, rfl, rfl, bOK_of hB e1 e2, hs2, e3⟩ ?_
  rintro r L' ⟨v, hr, hq0, a', b', M', hL⟩
  have hq : q_all s F (s 1).toNatClampNeg (s 5).toNatClampNeg (s 2).toNatClampNeg v := hq0
  have hL2 : L' = wr5 1001 1003 1019 1040 1049 y7 y8 y9 a' b' M' s F := hL
  subst hr hL2
  refine ⟨_, rfl, rfl, ?_⟩
  rw [putr]
  refine st_al rfl ?_
  refine st_rw (args := [.ref 60]) (rest := [.int v]) rfl (fun f hf => hf) rfl (rcvM []) (fpm []) rfl rfl subm rfl ⟨ms, A, n, dd, rfl, rfl, hm3, hn8, e4, e3, hnd, hh8⟩ ?_
  rintro r L' ⟨hr, g', hL⟩
  have hr2 : r = some (.int (r_mal ms A)) := hr
  have hL2 : L' = mdW ms (md4 A g') := hL
  try simp only [hm2, hm3, hnn] at hL2
  subst hr2 hL2
  refine ⟨_, rfl, rfl, ?_⟩
  rw [putm]
  have hb := pu_all hB hp hm3 hq
  refine st_cmp hb (st_72 ?_)
  exact K P n t y7 y8 y9 ln ta e s1 F1 a' b' M' s2 F2 s3 F3 sl sz cf dt s F _ _ (h)

set_option maxRecDepth 100000 in
set_option maxHeartbeats 1000000 in
theorem cs_row {N : Nat} {xs : Nat → Int32} {G : Nat → sK} {x : Int32} (hx : lX x N) (K : lK G x) {P n t : Nat} {y7 y8 y9 ln : Int32} {ta : Nat → Int32} {e : eT} {s1 : Nat → Int32} {F1 : Nat → Nat → Int32} {a b : Int32} {M : Nat → Nat → Int32} {s2 : Nat → Int32} {F2 : Nat → Nat → Int32} {s3 : Nat → Int32} {F3 : Nat → Nat → Int32} {sl sz : Nat → Int32} {cf : Nat → Nat → Int32} {dt s : Nat → Int32} {F : Nat → Nat → Int32} {ms : Nat → Int32} {A : Nat → Nat → Int32} (h : LIx P n t y7 y8 y9 ln ta s2 F2 s3 F3 sl sz cf s F ms A) : wJ (s_go (some (N, xs)) k_L_law G lP true 99) 48 (lL x) [] (lW y7 y8 y9 ln ta e s1 F1 a b M s2 F2 s3 F3 sl sz cf dt s F ms A) := by
  obtain ⟨⟨hB, hy, hp⟩, ⟨hk, h0, h1⟩, ⟨ht1, ht2, ht3, ht4, ht5⟩, hS, hm8, hm9, hm2, hm3⟩ := id h
  obtain ⟨hs1, hn8, hP8, hnn, hs2x, hs15x, hs18x, hyp, hnd, hh8⟩ := li_x h
  obtain ⟨h00, dd, ll, e1, e2, e3, e4, e5, e6, hs2⟩ := hs2x
  obtain ⟨Np, hs15, hp1, hp2, hpl⟩ := hs15x
  obtain ⟨Sz, hs18, hz2, hz3⟩ := hs18x
  refine st_go rfl rfl (st_al rfl ?_)
  refine st_rd nW (lx hx 1 (by decide)) ?_
  refine st_rd nW (lx hx 2 (by decide)) ?_
  refine st_rw (args := [.ref 0, .int (xs (x + 1).toNatClampNeg), .int (xs (x + 2).toNatClampNeg)]) (rest := []) rfl (fun f hf => hf) rfl (rcvC [.int (xs (x + 1).toNatClampNeg), .int (xs (x + 2).toNatClampNeg)]) (fpr [.int (xs (x + 1).toNatClampNeg), .int (xs (x + 2).toNatClampNeg)]) rfl rfl subr rfl ⟨_, _, _, _, _, y7, y8, y9, a, b, M, s, F, _, _, n, h00, dd, rfl, rfl, bOK_of hB e1 e2, hs2, e3⟩ ?_
  rintro r L' ⟨v, hr, hq0, a', b', M', hL⟩
  have hq : q_row (p_AS (F 3) (F 4) (F 5) (s 1).toNatClampNeg (s 3) (s 5) (s 4) (s 2).toNatClampNeg (s 6)) (p_LB (F 3) (F 4) (s 1).toNatClampNeg (s 3) (s 5)) (F 6) (F 2) (s 0) (s 1).toNatClampNeg (s 5).toNatClampNeg (xs (x + 1).toNatClampNeg) (xs (x + 2).toNatClampNeg) v := hq0
  have hL2 : L' = wr5 1001 1003 1019 1040 1049 y7 y8 y9 a' b' M' s F := hL
  subst hr hL2
  refine ⟨_, rfl, rfl, ?_⟩
  rw [putr]
  refine st_al rfl ?_
  refine st_rd nW (lx hx 1 (by decide)) ?_
  refine st_rd nW (lx hx 2 (by decide)) ?_
  refine st_rw (args := [.ref 60, .int (xs (x + 1).toNatClampNeg), .int (xs (x + 2).toNatClampNeg)]) (rest := [.int v]) rfl (fun f hf => hf) rfl (rcvM [.int (xs (x + 1).toNatClampNeg), .int (xs (x + 2).toNatClampNeg)]) (fpm [.int (xs (x + 1).toNatClampNeg), .int (xs (x + 2).toNatClampNeg)]) rfl rfl subm rfl ⟨ms, A, _, _, P, n, dd, rfl, rfl, hm2, hP8, hm3, hn8, e4, e3, hnd, hh8⟩ ?_
  rintro r L' ⟨hr, g', hL⟩
  have hr2 : r = some (.int (r_mrow ms A (xs (x + 1).toNatClampNeg) (xs (x + 2).toNatClampNeg))) := hr
  have hL2 : L' = mdW ms (md4 A g') := hL
  try simp only [hm2, hm3, hnn] at hL2
  subst hr2 hL2
  refine ⟨_, rfl, rfl, ?_⟩
  rw [putm]
  have hb := pu_row hB hm2 hm3 hq
  refine st_cmp hb (st_72 ?_)
  exact K P n t y7 y8 y9 ln ta e s1 F1 a' b' M' s2 F2 s3 F3 sl sz cf dt s F _ _ (h)

set_option maxRecDepth 100000 in
set_option maxHeartbeats 1000000 in
theorem cs_fewest {N : Nat} {xs : Nat → Int32} {G : Nat → sK} {x : Int32} (hx : lX x N) (K : lK G x) {P n t : Nat} {y7 y8 y9 ln : Int32} {ta : Nat → Int32} {e : eT} {s1 : Nat → Int32} {F1 : Nat → Nat → Int32} {a b : Int32} {M : Nat → Nat → Int32} {s2 : Nat → Int32} {F2 : Nat → Nat → Int32} {s3 : Nat → Int32} {F3 : Nat → Nat → Int32} {sl sz : Nat → Int32} {cf : Nat → Nat → Int32} {dt s : Nat → Int32} {F : Nat → Nat → Int32} {ms : Nat → Int32} {A : Nat → Nat → Int32} (h : LIx P n t y7 y8 y9 ln ta s2 F2 s3 F3 sl sz cf s F ms A) : wJ (s_go (some (N, xs)) k_L_law G lP true 99) 51 (lL x) [] (lW y7 y8 y9 ln ta e s1 F1 a b M s2 F2 s3 F3 sl sz cf dt s F ms A) := by
  obtain ⟨⟨hB, hy, hp⟩, ⟨hk, h0, h1⟩, ⟨ht1, ht2, ht3, ht4, ht5⟩, hS, hm8, hm9, hm2, hm3⟩ := id h
  obtain ⟨hs1, hn8, hP8, hnn, hs2x, hs15x, hs18x, hyp, hnd, hh8⟩ := li_x h
  obtain ⟨h00, dd, ll, e1, e2, e3, e4, e5, e6, hs2⟩ := hs2x
  obtain ⟨Np, hs15, hp1, hp2, hpl⟩ := hs15x
  obtain ⟨Sz, hs18, hz2, hz3⟩ := hs18x
  refine st_go rfl rfl (st_al rfl ?_)
  refine st_rd nW (lx hx 1 (by decide)) ?_
  refine st_rd nW (lx hx 2 (by decide)) ?_
  refine st_rw (args := [.ref 0, .int (xs (x + 1).toNatClampNeg), .int (xs (x + 2).toNatClampNeg)]) (rest := []) rfl (fun f hf => hf) rfl (rcvC [.int (xs (x + 1).toNatClampNeg), .int (xs (x + 2).toNatClampNeg)]) (fpr [.int (xs (x + 1).toNatClampNeg), .int (xs (x + 2).toNatClampNeg)]) rfl rfl subr rfl ⟨_, _, _, _, _, y7, y8, y9, a, b, M, s, F, _, _, n, h00, dd, rfl, rfl, bOK_of hB e1 e2, hs2, e3⟩ ?_
  rintro r L' ⟨v, hr, hq0, a', b', M', hL⟩
  have hq : q_few (p_AS (F 3) (F 4) (F 5) (s 1).toNatClampNeg (s 3) (s 5) (s 4) (s 2).toNatClampNeg (s 6)) (p_LB (F 3) (F 4) (s 1).toNatClampNeg (s 3) (s 5)) (F 6) (s 0) (s 3) (s 6) (s 1).toNatClampNeg (s 5).toNatClampNeg (xs (x + 1).toNatClampNeg) (xs (x + 2).toNatClampNeg) v := hq0
  have hL2 : L' = wr5 1001 1003 1019 1040 1049 y7 y8 y9 a' b' M' s F := hL
  subst hr hL2
  refine ⟨_, rfl, rfl, ?_⟩
  rw [putr]
  refine st_al rfl ?_
  refine st_rd nW (lx hx 1 (by decide)) ?_
  refine st_rd nW (lx hx 2 (by decide)) ?_
  refine st_rw (args := [.ref 60, .int (xs (x + 1).toNatClampNeg), .int (xs (x + 2).toNatClampNeg)]) (rest := [.int v]) rfl (fun f hf => hf) rfl (rcvM [.int (xs (x + 1).toNatClampNeg), .int (xs (x + 2).toNatClampNeg)]) (fpm [.int (xs (x + 1).toNatClampNeg), .int (xs (x + 2).toNatClampNeg)]) rfl rfl subm rfl ⟨ms, A, _, _, P, n, dd, rfl, rfl, hm2, hP8, hm3, hn8, e4, e3, hnd, hh8⟩ ?_
  rintro r L' ⟨hr, g', hL⟩
  have hr2 : r = some (.int (r_mfe ms A (xs (x + 1).toNatClampNeg) (xs (x + 2).toNatClampNeg))) := hr
  have hL2 : L' = mdW ms (md4 A g') := hL
  try simp only [hm2, hm3, hnn] at hL2
  subst hr2 hL2
  refine ⟨_, rfl, rfl, ?_⟩
  rw [putm]
  have hb := pu_few hB hp hm2 hm3 hq
  refine st_cmp hb (st_72 ?_)
  exact K P n t y7 y8 y9 ln ta e s1 F1 a' b' M' s2 F2 s3 F3 sl sz cf dt s F _ _ (h)

set_option maxRecDepth 100000 in
set_option maxHeartbeats 1000000 in
theorem cs_deep {N : Nat} {xs : Nat → Int32} {G : Nat → sK} {x : Int32} (hx : lX x N) (K : lK G x) {P n t : Nat} {y7 y8 y9 ln : Int32} {ta : Nat → Int32} {e : eT} {s1 : Nat → Int32} {F1 : Nat → Nat → Int32} {a b : Int32} {M : Nat → Nat → Int32} {s2 : Nat → Int32} {F2 : Nat → Nat → Int32} {s3 : Nat → Int32} {F3 : Nat → Nat → Int32} {sl sz : Nat → Int32} {cf : Nat → Nat → Int32} {dt s : Nat → Int32} {F : Nat → Nat → Int32} {ms : Nat → Int32} {A : Nat → Nat → Int32} (h : LIx P n t y7 y8 y9 ln ta s2 F2 s3 F3 sl sz cf s F ms A) : wJ (s_go (some (N, xs)) k_L_law G lP true 99) 50 (lL x) [] (lW y7 y8 y9 ln ta e s1 F1 a b M s2 F2 s3 F3 sl sz cf dt s F ms A) := by
  obtain ⟨⟨hB, hy, hp⟩, ⟨hk, h0, h1⟩, ⟨ht1, ht2, ht3, ht4, ht5⟩, hS, hm8, hm9, hm2, hm3⟩ := id h
  obtain ⟨hs1, hn8, hP8, hnn, hs2x, hs15x, hs18x, hyp, hnd, hh8⟩ := li_x h
  obtain ⟨h00, dd, ll, e1, e2, e3, e4, e5, e6, hs2⟩ := hs2x
  obtain ⟨Np, hs15, hp1, hp2, hpl⟩ := hs15x
  obtain ⟨Sz, hs18, hz2, hz3⟩ := hs18x
  refine st_go rfl rfl (st_al rfl ?_)
  refine st_rd nW (lx hx 1 (by decide)) ?_
  refine st_rw (args := [.ref 0, .int (xs (x + 1).toNatClampNeg)]) (rest := []) rfl (fun f hf => hf) rfl (rcvC [.int (xs (x + 1).toNatClampNeg)]) (fpr [.int (xs (x + 1).toNatClampNeg)]) rfl rfl subr rfl ⟨_, _, _, _, _, y7, y8, y9, a, b, M, s, F, _, n, h00, rfl, rfl, bOK_of hB e1 e2⟩ ?_
  rintro r L' ⟨v, hr, hq0, a', b', M', hL⟩
  have hq : q_dpc (fun d => p_AS (F 3) (F 4) (F 5) (s 1).toNatClampNeg (s 3) (s 5) (s 4) d (s 6)) (p_LB (F 3) (F 4) (s 1).toNatClampNeg (s 3) (s 5)) (s 0) (s 3) (s 1).toNatClampNeg (s 5).toNatClampNeg (xs (x + 1).toNatClampNeg) v := hq0
  have hL2 : L' = wr5 1001 1003 1019 1040 1049 y7 y8 y9 a' b' M' s F := hL
  subst hr hL2
  refine ⟨_, rfl, rfl, ?_⟩
  rw [putr]
  refine st_al rfl ?_
  refine st_rd nW (lx hx 1 (by decide)) ?_
  refine st_rw (args := [.ref 60, .int (xs (x + 1).toNatClampNeg)]) (rest := [.int v]) rfl (fun f hf => hf) rfl (rcvM [.int (xs (x + 1).toNatClampNeg)]) (fpm [.int (xs (x + 1).toNatClampNeg)]) rfl rfl subm rfl ⟨ms, A, _, P, n, rfl, rfl, hm2, hP8, hm3, hn8, hnd, hh8⟩ ?_
  rintro r L' ⟨hr, g', hL⟩
  have hr2 : r = some (.int (r_mdp ms A (xs (x + 1).toNatClampNeg))) := hr
  have hL2 : L' = mdW ms (md4 A g') := hL
  try simp only [hm2, hm3, hnn] at hL2
  subst hr2 hL2
  refine ⟨_, rfl, rfl, ?_⟩
  rw [putm]
  have hb := pu_deep hB hp hm2 hm3 hq
  refine st_cmp hb (st_72 ?_)
  exact K P n t y7 y8 y9 ln ta e s1 F1 a' b' M' s2 F2 s3 F3 sl sz cf dt s F _ _ (h)

set_option maxRecDepth 100000 in
set_option maxHeartbeats 1000000 in
theorem cs_sheet {N : Nat} {xs : Nat → Int32} {G : Nat → sK} {x : Int32} (hx : lX x N) (K : lK G x) {P n t : Nat} {y7 y8 y9 ln : Int32} {ta : Nat → Int32} {e : eT} {s1 : Nat → Int32} {F1 : Nat → Nat → Int32} {a b : Int32} {M : Nat → Nat → Int32} {s2 : Nat → Int32} {F2 : Nat → Nat → Int32} {s3 : Nat → Int32} {F3 : Nat → Nat → Int32} {sl sz : Nat → Int32} {cf : Nat → Nat → Int32} {dt s : Nat → Int32} {F : Nat → Nat → Int32} {ms : Nat → Int32} {A : Nat → Nat → Int32} (h : LIx P n t y7 y8 y9 ln ta s2 F2 s3 F3 sl sz cf s F ms A) : wJ (s_go (some (N, xs)) k_L_law G lP true 99) 67 (lL x) [] (lW y7 y8 y9 ln ta e s1 F1 a b M s2 F2 s3 F3 sl sz cf dt s F ms A) := by
  obtain ⟨⟨hB, hy, hp⟩, ⟨hk, h0, h1⟩, ⟨ht1, ht2, ht3, ht4, ht5⟩, hS, hm8, hm9, hm2, hm3⟩ := id h
  obtain ⟨hs1, hn8, hP8, hnn, hs2x, hs15x, hs18x, hyp, hnd, hh8⟩ := li_x h
  obtain ⟨h00, dd, ll, e1, e2, e3, e4, e5, e6, hs2⟩ := hs2x
  obtain ⟨Np, hs15, hp1, hp2, hpl⟩ := hs15x
  obtain ⟨Sz, hs18, hz2, hz3⟩ := hs18x
  obtain ⟨sl2, hsl2⟩ : ∃ f, f = shL 2 (w4 1001 1003 1014 1019 1049 1050 y7 y8 y9 sl sz cf) := ⟨_, rfl⟩
  obtain ⟨sz2, hsz2⟩ : ∃ f, f = shZ 2 (w4 1001 1003 1014 1019 1049 1050 y7 y8 y9 sl sz cf) := ⟨_, rfl⟩
  obtain ⟨cf2, hcf2⟩ : ∃ f, f = shF 2 (w4 1001 1003 1014 1019 1049 1050 y7 y8 y9 sl sz cf) := ⟨_, rfl⟩
  have hS2 : SR sl2 sz2 cf2 (A 14) (A 15) (A 16) := by
    rw [hsl2, hsz2, hcf2]
    exact sr_w4 hS
  refine st_go rfl rfl (st_al rfl ?_)
  refine st_rd nW (lx hx 1 (by decide)) ?_
  refine st_rd nW (lx hx 2 (by decide)) ?_
  refine st_rd nW (lx hx 3 (by decide)) ?_
  refine st_rw (args := [.ref 0, .int (xs (x + 1).toNatClampNeg), .int (xs (x + 2).toNatClampNeg), .int (xs (x + 3).toNatClampNeg)]) (rest := []) rfl (fun f hf => hf) rfl (rcvC [.int (xs (x + 1).toNatClampNeg), .int (xs (x + 2).toNatClampNeg), .int (xs (x + 3).toNatClampNeg)]) (fp4 [.int (xs (x + 1).toNatClampNeg), .int (xs (x + 2).toNatClampNeg), .int (xs (x + 3).toNatClampNeg)]) rfl rfl sub4 rfl ⟨_, _, _, _, _, _, y7, y8, y9, sl, sz, cf, _, _, _, rfl, rfl⟩ ?_
  rintro r L' ⟨hr, hL⟩
  have hr2 : r = some (.int (r_sheet (xs (x + 1).toNatClampNeg) (xs (x + 2).toNatClampNeg) (xs (x + 3).toNatClampNeg))) := hr
  have hL2 : L' = w4 1001 1003 1014 1019 1049 1050 y7 y8 y9 (q_shL (xs (x + 1).toNatClampNeg) (xs (x + 2).toNatClampNeg) (xs (x + 3).toNatClampNeg) sl2) (q_shZ (xs (x + 1).toNatClampNeg) (xs (x + 2).toNatClampNeg) (xs (x + 3).toNatClampNeg) sz2) (q_shF (xs (x + 1).toNatClampNeg) (xs (x + 2).toNatClampNeg) (xs (x + 3).toNatClampNeg) cf2) := by
    rw [hsl2, hsz2, hcf2]
    exact hL
  subst hr2 hL2
  refine ⟨_, rfl, rfl, ?_⟩
  rw [put4]
  refine st_al rfl ?_
  refine st_rd nW (lx hx 1 (by decide)) ?_
  refine st_rd nW (lx hx 2 (by decide)) ?_
  refine st_rd nW (lx hx 3 (by decide)) ?_
  refine st_rw (args := [.ref 60, .int (xs (x + 1).toNatClampNeg), .int (xs (x + 2).toNatClampNeg), .int (xs (x + 3).toNatClampNeg)]) (rest := [.int (r_sheet (xs (x + 1).toNatClampNeg) (xs (x + 2).toNatClampNeg) (xs (x + 3).toNatClampNeg))]) rfl (fun f hf => hf) rfl (rcvM [.int (xs (x + 1).toNatClampNeg), .int (xs (x + 2).toNatClampNeg), .int (xs (x + 3).toNatClampNeg)]) (fpm [.int (xs (x + 1).toNatClampNeg), .int (xs (x + 2).toNatClampNeg), .int (xs (x + 3).toNatClampNeg)]) rfl rfl subm rfl ⟨ms, A, _, _, _, rfl, rfl⟩ ?_
  rintro r L' ⟨hr, hL⟩
  have hr2 : r = some (.int (r_msheet (xs (x + 1).toNatClampNeg) (xs (x + 2).toNatClampNeg) (xs (x + 3).toNatClampNeg))) := hr
  have hL2 : L' = mdW ms (q_msh A (xs (x + 1).toNatClampNeg) (xs (x + 2).toNatClampNeg) (xs (x + 3).toNatClampNeg)) := hL
  try simp only [hm2, hm3, hnn] at hL2
  try simp only [hm2, hm3, hnn] at hr2
  subst hr2 hL2
  refine ⟨_, rfl, rfl, ?_⟩
  rw [putm]
  have hb := pu_sheet hS2 (xs (x + 1).toNatClampNeg) (xs (x + 2).toNatClampNeg) (xs (x + 3).toNatClampNeg)
  refine st_cmp hb.1 (st_72 ?_)
  exact K P n t y7 y8 y9 ln ta e s1 F1 a b M s2 F2 s3 F3 (q_shL (xs (x + 1).toNatClampNeg) (xs (x + 2).toNatClampNeg) (xs (x + 3).toNatClampNeg) sl2) (q_shZ (xs (x + 1).toNatClampNeg) (xs (x + 2).toNatClampNeg) (xs (x + 3).toNatClampNeg) sz2) (q_shF (xs (x + 1).toNatClampNeg) (xs (x + 2).toNatClampNeg) (xs (x + 3).toNatClampNeg) cf2) dt s F _ _ (li_msh h hb.2.1 hb.2.2)

set_option maxRecDepth 100000 in
set_option maxHeartbeats 1000000 in
theorem cs_lay {N : Nat} {xs : Nat → Int32} {G : Nat → sK} {x : Int32} (hx : lX x N) (K : lK G x) {P n t : Nat} {y7 y8 y9 ln : Int32} {ta : Nat → Int32} {e : eT} {s1 : Nat → Int32} {F1 : Nat → Nat → Int32} {a b : Int32} {M : Nat → Nat → Int32} {s2 : Nat → Int32} {F2 : Nat → Nat → Int32} {s3 : Nat → Int32} {F3 : Nat → Nat → Int32} {sl sz : Nat → Int32} {cf : Nat → Nat → Int32} {dt s : Nat → Int32} {F : Nat → Nat → Int32} {ms : Nat → Int32} {A : Nat → Nat → Int32} (h : LIx P n t y7 y8 y9 ln ta s2 F2 s3 F3 sl sz cf s F ms A) : wJ (s_go (some (N, xs)) k_L_law G lP true 99) 68 (lL x) [] (lW y7 y8 y9 ln ta e s1 F1 a b M s2 F2 s3 F3 sl sz cf dt s F ms A) := by
  obtain ⟨⟨hB, hy, hp⟩, ⟨hk, h0, h1⟩, ⟨ht1, ht2, ht3, ht4, ht5⟩, hS, hm8, hm9, hm2, hm3⟩ := id h
  obtain ⟨hs1, hn8, hP8, hnn, hs2x, hs15x, hs18x, hyp, hnd, hh8⟩ := li_x h
  obtain ⟨h00, dd, ll, e1, e2, e3, e4, e5, e6, hs2⟩ := hs2x
  obtain ⟨Np, hs15, hp1, hp2, hpl⟩ := hs15x
  obtain ⟨Sz, hs18, hz2, hz3⟩ := hs18x
  obtain ⟨sl2, hsl2⟩ : ∃ f, f = shL 2 (w4 1001 1003 1014 1019 1049 1050 y7 y8 y9 sl sz cf) := ⟨_, rfl⟩
  obtain ⟨sz2, hsz2⟩ : ∃ f, f = shZ 2 (w4 1001 1003 1014 1019 1049 1050 y7 y8 y9 sl sz cf) := ⟨_, rfl⟩
  obtain ⟨cf2, hcf2⟩ : ∃ f, f = shF 2 (w4 1001 1003 1014 1019 1049 1050 y7 y8 y9 sl sz cf) := ⟨_, rfl⟩
  have hS2 : SR sl2 sz2 cf2 (A 14) (A 15) (A 16) := by
    rw [hsl2, hsz2, hcf2]
    exact sr_w4 hS
  refine st_go rfl rfl (st_al rfl ?_)
  refine st_rd nW (lx hx 1 (by decide)) ?_
  refine st_rd nW (lx hx 2 (by decide)) ?_
  refine st_rd nW (lx hx 3 (by decide)) ?_
  refine st_rw (args := [.ref 0, .int (xs (x + 1).toNatClampNeg), .int (xs (x + 2).toNatClampNeg), .int (xs (x + 3).toNatClampNeg)]) (rest := []) rfl (fun f hf => hf) rfl (rcvC [.int (xs (x + 1).toNatClampNeg), .int (xs (x + 2).toNatClampNeg), .int (xs (x + 3).toNatClampNeg)]) (fp4 [.int (xs (x + 1).toNatClampNeg), .int (xs (x + 2).toNatClampNeg), .int (xs (x + 3).toNatClampNeg)]) rfl rfl sub4 rfl ⟨_, _, _, _, _, _, y7, y8, y9, sl, sz, cf, _, _, _, rfl, rfl, sr_4 hS⟩ ?_
  rintro r L' ⟨hr, hL⟩
  have hr2 : r = some (.int (r_lay sl2 sz2 (xs (x + 1).toNatClampNeg) (xs (x + 2).toNatClampNeg))) := by
    rw [hsl2, hsz2]
    exact hr
  have hL2 : L' = w4 1001 1003 1014 1019 1049 1050 y7 y8 y9 sl2 sz2 (q_lay sl2 sz2 (xs (x + 1).toNatClampNeg) (xs (x + 2).toNatClampNeg) (xs (x + 3).toNatClampNeg) cf2) := by
    rw [hsl2, hsz2, hcf2]
    exact hL
  subst hr2 hL2
  refine ⟨_, rfl, rfl, ?_⟩
  rw [put4]
  refine st_al rfl ?_
  refine st_rd nW (lx hx 1 (by decide)) ?_
  refine st_rd nW (lx hx 2 (by decide)) ?_
  refine st_rd nW (lx hx 3 (by decide)) ?_
  refine st_rw (args := [.ref 60, .int (xs (x + 1).toNatClampNeg), .int (xs (x + 2).toNatClampNeg), .int (xs (x + 3).toNatClampNeg)]) (rest := [.int (r_lay sl2 sz2 (xs (x + 1).toNatClampNeg) (xs (x + 2).toNatClampNeg))]) rfl (fun f hf => hf) rfl (rcvM [.int (xs (x + 1).toNatClampNeg), .int (xs (x + 2).toNatClampNeg), .int (xs (x + 3).toNatClampNeg)]) (fpm [.int (xs (x + 1).toNatClampNeg), .int (xs (x + 2).toNatClampNeg), .int (xs (x + 3).toNatClampNeg)]) rfl rfl subm rfl ⟨ms, A, _, _, _, rfl, rfl, sr_m hS⟩ ?_
  rintro r L' ⟨hr, hL⟩
  have hr2 : r = some (.int (r_mlay (A 14) (A 15) (xs (x + 1).toNatClampNeg) (xs (x + 2).toNatClampNeg))) := hr
  have hL2 : L' = mdW ms (va_up A 16 (q_mlay (A 14) (A 15) (A 16) (xs (x + 1).toNatClampNeg) (xs (x + 2).toNatClampNeg) (xs (x + 3).toNatClampNeg))) := hL
  try simp only [hm2, hm3, hnn] at hL2
  try simp only [hm2, hm3, hnn] at hr2
  subst hr2 hL2
  refine ⟨_, rfl, rfl, ?_⟩
  rw [putm]
  have hb := pu_lay hS2 (xs (x + 1).toNatClampNeg) (xs (x + 2).toNatClampNeg) (xs (x + 3).toNatClampNeg)
  refine st_cmp hb.1 (st_72 ?_)
  exact K P n t y7 y8 y9 ln ta e s1 F1 a b M s2 F2 s3 F3 sl2 sz2 (q_lay sl2 sz2 (xs (x + 1).toNatClampNeg) (xs (x + 2).toNatClampNeg) (xs (x + 3).toNatClampNeg) cf2) dt s F _ _ (⟨⟨hB, hy, hp⟩, ⟨hk, h0, h1⟩, ⟨ht1, ht2, ht3, ht4, ht5⟩, hb.2, hm8, hm9, hm2, hm3⟩)

set_option maxRecDepth 100000 in
set_option maxHeartbeats 1000000 in
theorem cs_read {N : Nat} {xs : Nat → Int32} {G : Nat → sK} {x : Int32} (hx : lX x N) (K : lK G x) {P n t : Nat} {y7 y8 y9 ln : Int32} {ta : Nat → Int32} {e : eT} {s1 : Nat → Int32} {F1 : Nat → Nat → Int32} {a b : Int32} {M : Nat → Nat → Int32} {s2 : Nat → Int32} {F2 : Nat → Nat → Int32} {s3 : Nat → Int32} {F3 : Nat → Nat → Int32} {sl sz : Nat → Int32} {cf : Nat → Nat → Int32} {dt s : Nat → Int32} {F : Nat → Nat → Int32} {ms : Nat → Int32} {A : Nat → Nat → Int32} (h : LIx P n t y7 y8 y9 ln ta s2 F2 s3 F3 sl sz cf s F ms A) : wJ (s_go (some (N, xs)) k_L_law G lP true 99) 69 (lL x) [] (lW y7 y8 y9 ln ta e s1 F1 a b M s2 F2 s3 F3 sl sz cf dt s F ms A) := by
  obtain ⟨⟨hB, hy, hp⟩, ⟨hk, h0, h1⟩, ⟨ht1, ht2, ht3, ht4, ht5⟩, hS, hm8, hm9, hm2, hm3⟩ := id h
  obtain ⟨hs1, hn8, hP8, hnn, hs2x, hs15x, hs18x, hyp, hnd, hh8⟩ := li_x h
  obtain ⟨h00, dd, ll, e1, e2, e3, e4, e5, e6, hs2⟩ := hs2x
  obtain ⟨Np, hs15, hp1, hp2, hpl⟩ := hs15x
  obtain ⟨Sz, hs18, hz2, hz3⟩ := hs18x
  obtain ⟨sl2, hsl2⟩ : ∃ f, f = shL 12 (w5 1001 1003 1014 1019 1049 y7 y8 y9 s F sl sz cf) := ⟨_, rfl⟩
  obtain ⟨sz2, hsz2⟩ : ∃ f, f = shZ 12 (w5 1001 1003 1014 1019 1049 y7 y8 y9 s F sl sz cf) := ⟨_, rfl⟩
  obtain ⟨cf2, hcf2⟩ : ∃ f, f = shF 12 (w5 1001 1003 1014 1019 1049 y7 y8 y9 s F sl sz cf) := ⟨_, rfl⟩
  have hS2 : SR sl2 sz2 cf2 (A 14) (A 15) (A 16) := by
    rw [hsl2, hsz2, hcf2]
    exact sr_w5 hS
  refine st_go rfl rfl (st_al rfl ?_)
  refine st_rd nW (lx hx 1 (by decide)) ?_
  refine st_rd nW (lx hx 2 (by decide)) ?_
  refine st_rd nW (lx hx 3 (by decide)) ?_
  refine st_rd nW (lx hx 4 (by decide)) ?_
  refine st_rw (args := [.ref 0, .int (xs (x + 1).toNatClampNeg), .int (xs (x + 2).toNatClampNeg), .int (xs (x + 3).toNatClampNeg), .int (xs (x + 4).toNatClampNeg)]) (rest := []) rfl (fun f hf => hf) rfl (rcvC [.int (xs (x + 1).toNatClampNeg), .int (xs (x + 2).toNatClampNeg), .int (xs (x + 3).toNatClampNeg), .int (xs (x + 4).toNatClampNeg)]) (fp5 [.int (xs (x + 1).toNatClampNeg), .int (xs (x + 2).toNatClampNeg), .int (xs (x + 3).toNatClampNeg), .int (xs (x + 4).toNatClampNeg)]) rfl rfl sub5 rfl ⟨_, _, _, _, _, y7, y8, y9, s, F, sl, sz, cf, _, _, _, _, n, dd, rfl, rfl, hs1, hn8, hs2, e3, sr_4 hS⟩ ?_
  rintro r L' ⟨hr, hL⟩
  have hr2 : r = some (.int (r_read s F sl2 sz2 cf2 (xs (x + 1).toNatClampNeg) (xs (x + 2).toNatClampNeg) (xs (x + 3).toNatClampNeg) (xs (x + 4).toNatClampNeg))) := by
    rw [hsl2, hsz2, hcf2]
    exact hr
  have hL2 : L' = w5 1001 1003 1014 1019 1049 y7 y8 (t_read s F sl2 sz2 cf2 (xs (x + 1).toNatClampNeg) (xs (x + 2).toNatClampNeg) (xs (x + 3).toNatClampNeg) (xs (x + 4).toNatClampNeg) y9) (q_read s F sl2 sz2 cf2 (xs (x + 1).toNatClampNeg) (xs (x + 2).toNatClampNeg) (xs (x + 3).toNatClampNeg) (xs (x + 4).toNatClampNeg)) F sl2 sz2 cf2 := by
    rw [hsl2, hsz2, hcf2]
    exact hL
  subst hr2 hL2
  refine ⟨_, rfl, rfl, ?_⟩
  rw [put5]
  refine st_al rfl ?_
  refine st_rd nW (lx hx 1 (by decide)) ?_
  refine st_rd nW (lx hx 2 (by decide)) ?_
  refine st_rd nW (lx hx 3 (by decide)) ?_
  refine st_rd nW (lx hx 4 (by decide)) ?_
  refine st_rw (args := [.ref 60, .int (xs (x + 1).toNatClampNeg), .int (xs (x + 2).toNatClampNeg), .int (xs (x + 3).toNatClampNeg), .int (xs (x + 4).toNatClampNeg)]) (rest := [.int (r_read s F sl2 sz2 cf2 (xs (x + 1).toNatClampNeg) (xs (x + 2).toNatClampNeg) (xs (x + 3).toNatClampNeg) (xs (x + 4).toNatClampNeg))]) rfl (fun f hf => hf) rfl (rcvM [.int (xs (x + 1).toNatClampNeg), .int (xs (x + 2).toNatClampNeg), .int (xs (x + 3).toNatClampNeg), .int (xs (x + 4).toNatClampNeg)]) (fpm [.int (xs (x + 1).toNatClampNeg), .int (xs (x + 2).toNatClampNeg), .int (xs (x + 3).toNatClampNeg), .int (xs (x + 4).toNatClampNeg)]) rfl rfl subm rfl ⟨ms, A, _, _, _, _, n, dd, rfl, rfl, sr_m hS, hm3, hn8, e4, e3⟩ ?_
  rintro r L' ⟨hr, hL⟩
  have hr2 : r = some (.int (r_mread (ms 3) (A 1) (A 14) (A 15) (A 16) (xs (x + 1).toNatClampNeg) (xs (x + 2).toNatClampNeg) (xs (x + 3).toNatClampNeg) (xs (x + 4).toNatClampNeg))) := hr
  have hL2 : L' = mdW (upd ms 30 (t_mread (ms 3) (ms 30) (A 1) (A 14) (A 15) (A 16) (xs (x + 1).toNatClampNeg) (xs (x + 2).toNatClampNeg) (xs (x + 3).toNatClampNeg) (xs (x + 4).toNatClampNeg))) (va_up A 1 (q_mread (ms 3) (A 1) (A 14) (A 15) (A 16) (xs (x + 1).toNatClampNeg) (xs (x + 2).toNatClampNeg) (xs (x + 3).toNatClampNeg) (xs (x + 4).toNatClampNeg))) := hL
  try simp only [hm2, hm3, hnn] at hL2
  try simp only [hm2, hm3, hnn] at hr2
  subst hr2 hL2
  refine ⟨_, rfl, rfl, ?_⟩
  rw [putm]
  have hb := pu_read (y9 := y9) hB hS2 (xs (x + 1).toNatClampNeg) (xs (x + 2).toNatClampNeg) (xs (x + 3).toNatClampNeg) (xs (x + 4).toNatClampNeg)
  refine st_cmp hb.1 (st_72 ?_)
  exact K P n t y7 y8 (t_read s F sl2 sz2 cf2 (xs (x + 1).toNatClampNeg) (xs (x + 2).toNatClampNeg) (xs (x + 3).toNatClampNeg) (xs (x + 4).toNatClampNeg) y9) ln ta e s1 F1 a b M s2 F2 s3 F3 sl2 sz2 cf2 dt (q_read s F sl2 sz2 cf2 (xs (x + 1).toNatClampNeg) (xs (x + 2).toNatClampNeg) (xs (x + 3).toNatClampNeg) (xs (x + 4).toNatClampNeg)) F _ _ (⟨⟨hb.2.1, hy, hp⟩, ⟨hk, IR_st h0 hb.2.2.2, IR_st h1 hb.2.2.2⟩, ⟨ht1, ht2, ht3, ht4, ht5⟩, hS2, hm8, hb.2.2.1.trans (by rw [hm9]; rfl), hm2, hm3⟩)

