/-! ===== the law: one step, by the kind of question ===== -/
def lP : sP := fun r _ => r = some (.int 1)
abbrev lL (x : Int32) : sL := [some (.ref 599), some (.ref 0), some (.ref 60), some (.int x)]
/-- how the loop goes on -/
def lK (G : Nat → sK) (x : Int32) : Prop := ∀ (P n t : Nat) (y7 y8 y9 ln : Int32) (ta : Nat → Int32) (e : eT) (s1 : Nat → Int32) (F1 : Nat → Nat → Int32) (a b : Int32) (M : Nat → Nat → Int32) (s2 : Nat → Int32) (F2 : Nat → Nat → Int32) (s3 : Nat → Int32) (F3 : Nat → Nat → Int32) (sl sz : Nat → Int32) (cf : Nat → Nat → Int32) (dt s : Nat → Int32) (F : Nat → Nat → Int32) (ms : Nat → Int32) (A : Nat → Nat → Int32), LIx P n t y7 y8 y9 ln ta s2 F2 s3 F3 sl sz cf s F ms A → G 1 (lL (x + 5)) [] (lW y7 y8 y9 ln ta e s1 F1 a b M s2 F2 s3 F3 sl sz cf dt s F ms A)
/-- where the script may be read -/
def lX (x : Int32) (N : Nat) : Prop := ∃ i, x = nI i ∧ i + 5 ≤ N ∧ N ≤ 320
theorem lx {x : Int32} {N : Nat} (h : lX x N) (k : Nat) (hk : k < 5) : vp_in (x + nI k) N := by
  obtain ⟨i, rfl, h1, h2⟩ := h
  rw [nI_add]
  exact vp_in_nI (by omega) (by omega)
set_option profiler true in
set_option maxRecDepth 100000 in
set_option maxHeartbeats 4000000 in
theorem cs_rule {N : Nat} {xs : Nat → Int32} {G : Nat → sK} {x : Int32} (hx : lX x N) (K : lK G x) {P n t : Nat} {y7 y8 y9 ln : Int32} {ta : Nat → Int32} {e : eT} {s1 : Nat → Int32} {F1 : Nat → Nat → Int32} {a b : Int32} {M : Nat → Nat → Int32} {s2 : Nat → Int32} {F2 : Nat → Nat → Int32} {s3 : Nat → Int32} {F3 : Nat → Nat → Int32} {sl sz : Nat → Int32} {cf : Nat → Nat → Int32} {dt s : Nat → Int32} {F : Nat → Nat → Int32} {ms : Nat → Int32} {A : Nat → Nat → Int32} (h : LIx P n t y7 y8 y9 ln ta s2 F2 s3 F3 sl sz cf s F ms A) : s_go (some (N, xs)) k_L_law G lP true 99 6 (lL x) [] (lW y7 y8 y9 ln ta e s1 F1 a b M s2 F2 s3 F3 sl sz cf dt s F ms A) := by
  obtain ⟨⟨hB, hy, hp⟩, hI, hT, hS, hm8, hm9, hm2, hm3⟩ := id h
  refine And.intro (lx hx 1 (by decide)) (And.intro ⟨_, _, _, _, _, _, y7, y8, y9, s, F, _, rfl, rfl⟩ ?_)
  intro r hr
  obtain ⟨v, hv⟩ : ∃ v, v = xs (x + 1).toNatClampNeg := ⟨_, rfl⟩
  obtain rfl : r = some (.int (r_rule s v)) := by rw [hv]; exact hr
  refine And.intro (lx hx 1 (by decide)) (And.intro ⟨ms, A, _, rfl, rfl⟩ ?_)
  intro r hr
  obtain rfl : r = some (.int (r_mrule (ms 2) (ms 3) (A 1) v)) := by rw [hv]; exact hr
  refine And.intro (fun _ => ?_) (fun q => absurd (by rw [hm2, hm3]; exact pu_rule hB v) q)
  exact K P n t y7 y8 y9 ln ta e s1 F1 a b M s2 F2 s3 F3 sl sz cf dt s F ms A h
