/-! ===== the law: its loop on the machine ===== -/
def fX : List Nat := [0, 1, 2, 3, 50, 51, 52, 53, 54, 55, 56, 57, 58, 59, 14, 15, 16, 17, 18, 19, 20, 21, 22, 23, 24, 25, 26, 27, 28, 29, 30, 31, 32, 33, 34, 35, 36, 37, 38, 39, 40, 41, 42, 43, 44, 45, 46, 47, 48, 49, 4, 5, 6, 7, 8, 9, 10, 11, 12, 13, 60, 61, 62, 63, 64, 65, 66, 67, 68, 69, 70, 71, 72, 73, 74, 75, 76]
set_option maxRecDepth 100000 in
set_option maxHeartbeats 4000000 in
theorem subX {y7 y8 y9 ln : Int32} {ta : Nat → Int32} {e : eT} {s1 : Nat → Int32} {F1 : Nat → Nat → Int32} {a b : Int32} {M : Nat → Nat → Int32} {s2 : Nat → Int32} {F2 : Nat → Nat → Int32} {s3 : Nat → Int32} {F3 : Nat → Nat → Int32} {sl sz : Nat → Int32} {cf : Nat → Nat → Int32} {dt s : Nat → Int32} {F : Nat → Nat → Int32} {ms : Nat → Int32} {A : Nat → Nat → Int32} : s_sub fX (lV 4 50 y7 y8 y9 ln ta e s1 F1 a b M s2 F2 s3 F3 sl sz cf dt s F ms A) fX = lW y7 y8 y9 ln ta e s F a b M s2 F2 s3 F3 sl sz cf dt s1 F1 ms A := rfl
theorem fX_ok : s_fpk fX 77 = true := by decide +kernel
section SLaw
variable {p : Program} {l : Launch} {e' : Env} {R : Room} {s' : State} {m : MethodId} {args : Array Value} {below : List Frame} {meth : Method} {c : Code} {D : va_G} {cy : Nat → ClassId} {Aw : Nat → Prop} {Q : State → Prop} {N : Nat} {xs : Nat → Int32} {cl sl' : Nat}
theorem env_ren {ad f : Nat → Nat} (h5 : ∀ i, i < 10 → f (500 + i) = ad (500 + i)) (h9 : f 599 = ad 599) (hE : s_Env p R s' m args c D cy ad Aw (some (N, xs)) RL cL_law 4 cl sl') : s_Env p R s' m args c D cy f Aw (some (N, xs)) RL cL_law 4 cl sl' := by
  obtain ⟨hx, hb, hml, hown, hts, hK, hnst, hstr, hA, hscr, hcl, hsl⟩ := hE
  refine ⟨hx, hb, hml, hown, hts, hK, hnst, s_str_ren h5 hstr, hA, ?_, hcl, hsl⟩
  obtain ⟨a1, a2, a3⟩ := hscr
  exact ⟨by rw [h9]; exact a1, by rw [h9]; exact a2, by rw [h9]; exact a3⟩
set_option maxRecDepth 100000 in
set_option maxHeartbeats 4000000 in
theorem law_loop (hN : N ≤ 320) (hfr : 12 ≤ R.frames) (hlo : 430 ≤ R.locals) (hret : ∀ ad, s_Ret p l e' R s' m args below meth c D cy ad Aw Q cL_law 77 cl sl' lP true) : ∀ (k i : Nat), N + 5 ≤ i + 5 * k → i ≤ N + 5 → ∀ (ad : Nat → Nat), s_Env p R s' m args c D cy ad Aw (some (N, xs)) RL cL_law 4 cl sl' → ∀ (P n t : Nat) (y7 : Int32) (y8 : Int32) (y9 : Int32) (ln : Int32) (ta : Nat → Int32) (e : eT) (s1 : Nat → Int32) (F1 : Nat → Nat → Int32) (a : Int32) (b : Int32) (M : Nat → Nat → Int32) (s2 : Nat → Int32) (F2 : Nat → Nat → Int32) (s3 : Nat → Int32) (F3 : Nat → Nat → Int32) (sl : Nat → Int32) (sz : Nat → Int32) (cf : Nat → Nat → Int32) (dt : Nat → Int32) (s : Nat → Int32) (F : Nat → Nat → Int32) (ms : Nat → Int32) (A : Nat → Nat → Int32), LIx P n t y7 y8 y9 ln ta s2 F2 s3 F3 sl sz cf s F ms A → s_Gp p l e' R s' m args below meth c D cy ad Aw Q 4 77 cl sl' 18 (lL (nI i)) [] (lW y7 y8 y9 ln ta e s1 F1 a b M s2 F2 s3 F3 sl sz cf dt s F ms A) := by
  intro k
  induction k with
  | zero =>
    intro i hk hi ad hE P n t y7 y8 y9 ln ta e s1 F1 a b M s2 F2 s3 F3 sl sz cf dt s F ms A h
    have hclo := s_clo_ok hE (hret ad) hfr hlo ck_L_law okb_L_law
    exact law_step (i := i) hclo hN rfl (by omega) h (fun q => by omega) (fun q => by omega) 18 rfl
  | succ k ih =>
    intro i hk hi ad hE P n t y7 y8 y9 ln ta e s1 F1 a b M s2 F2 s3 F3 sl sz cf dt s F ms A h
    have hclo := s_clo_ok hE (hret ad) hfr hlo ck_L_law okb_L_law
    have e5 : nI i + 5 = nI (i + 5) := nI_add i 5
    refine law_step (i := i) hclo hN rfl (by omega) h (fun q => ?_) (fun q => ?_) 18 rfl
    · intro P n t y7 y8 y9 ln ta e s1 F1 a b M s2 F2 s3 F3 sl sz cf dt s F ms A h u hu
      obtain rfl : 18 = u := Option.some.inj hu
      rw [e5]
      exact ih (i + 5) (by omega) (by omega) ad hE P n t y7 y8 y9 ln ta e s1 F1 a b M s2 F2 s3 F3 sl sz cf dt s F ms A h
    · intro P n t y7 y8 y9 ln ta e s1 F1 a b M s2 F2 s3 F3 sl sz cf dt s F ms A h u hu
      obtain rfl : 18 = u := Option.some.inj hu
      rw [e5]
      have hE2 := env_ren (f := fun k => ad (s_un fX k)) (fun j hj => by
        show ad (s_un fX (500 + j)) = ad (500 + j)
        rw [s_un_sp (by decide) (by omega)]) (by
        show ad (s_un fX 599) = ad 599
        rw [s_un_sp (by decide) (by decide)]) hE
      have k1 := ih (i + 5) (by omega) (by omega) (fun k => ad (s_un fX k)) hE2 P n t y7 y8 y9 ln ta e s F a b M s2 F2 s3 F3 sl sz cf dt s1 F1 ms A h
      intro hlen H locs lr hP hD hS hl
      have hf := s_fpk_spec fX_ok
      have hP2 := s_sub_P (fp := fX) hP hf.2 (by decide)
      have hD2 := s_sub_D (fp := fX) hD hf
      rw [subX] at hP2 hD2
      exact k1 rfl H locs lr hP2 hD2 hS hl
end SLaw

