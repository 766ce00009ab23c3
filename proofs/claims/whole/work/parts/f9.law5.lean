/-! ===== the law: text ===== -/
def lK2 (G : Nat → sK) (x : Int32) : Prop := ∀ (P n t : Nat) (y7 : Int32) (y8 : Int32) (y9 : Int32) (ln : Int32) (ta : Nat → Int32) (e : eT) (s1 : Nat → Int32) (F1 : Nat → Nat → Int32) (a : Int32) (b : Int32) (M : Nat → Nat → Int32) (s2 : Nat → Int32) (F2 : Nat → Nat → Int32) (s3 : Nat → Int32) (F3 : Nat → Nat → Int32) (sl : Nat → Int32) (sz : Nat → Int32) (cf : Nat → Nat → Int32) (dt : Nat → Int32) (s : Nat → Int32) (F : Nat → Nat → Int32) (ms : Nat → Int32) (A : Nat → Nat → Int32), LIx P n t y7 y8 y9 ln ta s2 F2 s3 F3 sl sz cf s1 F1 ms A → G 1 (lL (x + 5)) [] (lV 4 50 y7 y8 y9 ln ta e s1 F1 a b M s2 F2 s3 F3 sl sz cf dt s F ms A)
def fLt : List Nat := [0, 3, 1, 2, 4, 5, 6, 7, 8, 9, 10, 11, 12, 13]
theorem fpt (As : sS) {y7 y8 y9 ln : Int32} {ta : Nat → Int32} {e : eT} {s1 : Nat → Int32} {F1 : Nat → Nat → Int32} {a b : Int32} {M : Nat → Nat → Int32} {s2 : Nat → Int32} {F2 : Nat → Nat → Int32} {s3 : Nat → Int32} {F3 : Nat → Nat → Int32} {sl sz : Nat → Int32} {cf : Nat → Nat → Int32} {dt s : Nat → Int32} {F : Nat → Nat → Int32} {ms : Nat → Int32} {A : Nat → Nat → Int32} : twfp (.ref 0 :: As) (lW y7 y8 y9 ln ta e s1 F1 a b M s2 F2 s3 F3 sl sz cf dt s F ms A) = fLt := rfl
def dOf (s1 : Nat → Int32) (F1 : Nat → Nat → Int32) : dT := (s1 0, s1 1, s1 2, s1 3, s1 4, s1 6, s1 15, F1 1, F1 2, F1 3, F1 4, F1 5, F1 8)
theorem subt {y7 y8 y9 ln : Int32} {ta : Nat → Int32} {e : eT} {s1 : Nat → Int32} {F1 : Nat → Nat → Int32} {a b : Int32} {M : Nat → Nat → Int32} {s2 : Nat → Int32} {F2 : Nat → Nat → Int32} {s3 : Nat → Int32} {F3 : Nat → Nat → Int32} {sl sz : Nat → Int32} {cf : Nat → Nat → Int32} {dt s : Nat → Int32} {F : Nat → Nat → Int32} {ms : Nat → Int32} {A : Nat → Nat → Int32} : s_sub fLt (lW y7 y8 y9 ln ta e s1 F1 a b M s2 F2 s3 F3 sl sz cf dt s F ms A) fLt = tw 1050 4 1014 1019 1040 1049 y7 y8 y9 e ln ta s1 F1 (dOf s1 F1) := rfl
set_option maxRecDepth 100000 in
set_option maxHeartbeats 1000000 in
theorem putB {y7 y8 y9 ln : Int32} {ta : Nat → Int32} {e : eT} {s1 : Nat → Int32} {F1 : Nat → Nat → Int32} {a b : Int32} {M : Nat → Nat → Int32} {s2 : Nat → Int32} {F2 : Nat → Nat → Int32} {s3 : Nat → Int32} {F3 : Nat → Nat → Int32} {sl sz : Nat → Int32} {cf : Nat → Nat → Int32} {dt s : Nat → Int32} {F : Nat → Nat → Int32} {ms : Nat → Int32} {A : Nat → Nat → Int32} (y7' y8' y9' ln' : Int32) (ta' : Nat → Int32) (e' : eT) (s' : Nat → Int32) (F' : Nat → Nat → Int32) (d' : dT) : s_put fLt fLt (tw 1050 4 1014 1019 1040 1049 y7' y8' y9' e' ln' ta' s' F' d') (lW y7 y8 y9 ln ta e s1 F1 a b M s2 F2 s3 F3 sl sz cf dt s F ms A) = lV 50 4 y7' y8' y9' ln' ta' e' (sD s' d') (FD F' d') a b M s2 F2 s3 F3 sl sz cf dt s F ms A := by
  rw [s_put_p2 fLt fLt _ _ (by decide)]
  rfl
set_option maxRecDepth 100000 in
set_option maxHeartbeats 1000000 in
theorem putG {y7 y8 y9 ln : Int32} {ta : Nat → Int32} {e : eT} {s1 : Nat → Int32} {F1 : Nat → Nat → Int32} {a b : Int32} {M : Nat → Nat → Int32} {s2 : Nat → Int32} {F2 : Nat → Nat → Int32} {s3 : Nat → Int32} {F3 : Nat → Nat → Int32} {sl sz : Nat → Int32} {cf : Nat → Nat → Int32} {dt s : Nat → Int32} {F : Nat → Nat → Int32} {ms : Nat → Int32} {A : Nat → Nat → Int32} (y7' y8' y9' ln' : Int32) (ta' : Nat → Int32) (e' : eT) (s' : Nat → Int32) (F' : Nat → Nat → Int32) (d' : dT) : s_put fLt fLt (tw 4 1050 1014 1019 1040 1049 y7' y8' y9' e' ln' ta' s' F' d') (lW y7 y8 y9 ln ta e s1 F1 a b M s2 F2 s3 F3 sl sz cf dt s F ms A) = lV 4 50 y7' y8' y9' ln' ta' e' (sD s' d') (FD F' d') a b M s2 F2 s3 F3 sl sz cf dt s F ms A := by
  rw [s_put_p2 fLt fLt _ _ (by decide)]
  rfl
theorem nW2 {y7 y8 y9 ln : Int32} {ta : Nat → Int32} {e : eT} {s1 : Nat → Int32} {F1 : Nat → Nat → Int32} {a b : Int32} {M : Nat → Nat → Int32} {s2 : Nat → Int32} {F2 : Nat → Nat → Int32} {s3 : Nat → Int32} {F3 : Nat → Nat → Int32} {sl sz : Nat → Int32} {cf : Nat → Nat → Int32} {dt s : Nat → Int32} {F : Nat → Nat → Int32} {ms : Nat → Int32} {A : Nat → Nat → Int32} : s_nth (lV 4 50 y7 y8 y9 ln ta e s1 F1 a b M s2 F2 s3 F3 sl sz cf dt s F ms A) 599 = none := rfl
theorem rcvM2 (As : sS) {y7 y8 y9 ln : Int32} {ta : Nat → Int32} {e : eT} {s1 : Nat → Int32} {F1 : Nat → Nat → Int32} {a b : Int32} {M : Nat → Nat → Int32} {s2 : Nat → Int32} {F2 : Nat → Nat → Int32} {s3 : Nat → Int32} {F3 : Nat → Nat → Int32} {sl sz : Nat → Int32} {cf : Nat → Nat → Int32} {dt s : Nat → Int32} {F : Nat → Nat → Int32} {ms : Nat → Int32} {A : Nat → Nat → Int32} (Q : Prop) (h : Q) : s_rcv 7 (.ref 60 :: As) (lV 4 50 y7 y8 y9 ln ta e s1 F1 a b M s2 F2 s3 F3 sl sz cf dt s F ms A) Q := h
theorem fpm2 (As : sS) {y7 y8 y9 ln : Int32} {ta : Nat → Int32} {e : eT} {s1 : Nat → Int32} {F1 : Nat → Nat → Int32} {a b : Int32} {M : Nat → Nat → Int32} {s2 : Nat → Int32} {F2 : Nat → Nat → Int32} {s3 : Nat → Int32} {F3 : Nat → Nat → Int32} {sl sz : Nat → Int32} {cf : Nat → Nat → Int32} {dt s : Nat → Int32} {F : Nat → Nat → Int32} {ms : Nat → Int32} {A : Nat → Nat → Int32} : mdfp (.ref 60 :: As) (lV 4 50 y7 y8 y9 ln ta e s1 F1 a b M s2 F2 s3 F3 sl sz cf dt s F ms A) = fLm := rfl
theorem subm2 {y7 y8 y9 ln : Int32} {ta : Nat → Int32} {e : eT} {s1 : Nat → Int32} {F1 : Nat → Nat → Int32} {a b : Int32} {M : Nat → Nat → Int32} {s2 : Nat → Int32} {F2 : Nat → Nat → Int32} {s3 : Nat → Int32} {F3 : Nat → Nat → Int32} {sl sz : Nat → Int32} {cf : Nat → Nat → Int32} {dt s : Nat → Int32} {F : Nat → Nat → Int32} {ms : Nat → Int32} {A : Nat → Nat → Int32} : s_sub fLm (lV 4 50 y7 y8 y9 ln ta e s1 F1 a b M s2 F2 s3 F3 sl sz cf dt s F ms A) fLm = mdW ms A := rfl
set_option maxRecDepth 100000 in
set_option maxHeartbeats 1000000 in
theorem putm2 {y7 y8 y9 ln : Int32} {ta : Nat → Int32} {e : eT} {s1 : Nat → Int32} {F1 : Nat → Nat → Int32} {a b : Int32} {M : Nat → Nat → Int32} {s2 : Nat → Int32} {F2 : Nat → Nat → Int32} {s3 : Nat → Int32} {F3 : Nat → Nat → Int32} {sl sz : Nat → Int32} {cf : Nat → Nat → Int32} {dt s : Nat → Int32} {F : Nat → Nat → Int32} {ms : Nat → Int32} {A : Nat → Nat → Int32} (ms' : Nat → Int32) (A' : Nat → Nat → Int32) : s_put fLm fLm (mdW ms' A') (lV 4 50 y7 y8 y9 ln ta e s1 F1 a b M s2 F2 s3 F3 sl sz cf dt s F ms A) = lV 4 50 y7 y8 y9 ln ta e s1 F1 a b M s2 F2 s3 F3 sl sz cf dt s F ms' A' := by
  rw [s_put_p2 fLm fLm _ _ (by decide)]
  rfl
theorem li_bad {P n t : Nat} {y7 : Int32} {y8 : Int32} {y9 : Int32} {ln : Int32} {ta : Nat → Int32} {s2 : Nat → Int32} {F2 : Nat → Nat → Int32} {s3 : Nat → Int32} {F3 : Nat → Nat → Int32} {sl : Nat → Int32} {sz : Nat → Int32} {cf : Nat → Nat → Int32} {s : Nat → Int32} {F : Nat → Nat → Int32} {ms : Nat → Int32} {A : Nat → Nat → Int32} {E : eT} {z : zT} (h : LIx P n t y7 y8 y9 ln ta s2 F2 s3 F3 sl sz cf s F ms A) (hz : z_fa z = e_fa E) : LIx P n 0 y7 (e_fa E) y9 0 ta s2 F2 s3 F3 sl sz cf s F (zs (upd ms 15 0) z) (zA A z) := by
  obtain ⟨hB, hI, ⟨ht1, ht2, ht3, ht4, ht5⟩, hS, hm8, hm9, hm2, hm3⟩ := h
  exact ⟨hB, hI, ⟨nI_0.symm, by decide, rfl, ht4, ht5⟩, hS, hz.symm, hm9, hm2, hm3⟩
theorem li_good {P n t : Nat} {y7 : Int32} {y8 : Int32} {y9 : Int32} {ln : Int32} {ta : Nat → Int32} {s2 : Nat → Int32} {F2 : Nat → Nat → Int32} {s3 : Nat → Int32} {F3 : Nat → Nat → Int32} {sl : Nat → Int32} {sz : Nat → Int32} {cf : Nat → Nat → Int32} {s : Nat → Int32} {F : Nat → Nat → Int32} {ms : Nat → Int32} {A : Nat → Nat → Int32} {E : eT} {z : zT} {P' W N M1 M2 : Nat} {g : Int32 × Int32 × Int32} {d : dT} {Fo : Nat → Nat → Int32} (h : LIx P n t y7 y8 y9 ln ta s2 F2 s3 F3 sl sz cf s F ms A) (hz : z_fa z = e_fa E) (hB : BB P' W N M1 M2 g d (zk8 z)) (hM1 : M1 < 2 ^ P') (hM2 : M2 < 2 ^ W) : LIx P' W 0 0 (e_fa E) y9 0 ta s2 F2 s3 F3 sl sz cf (sD (fun _ => 0) d) (FD (FW Fo d) d) (q_kdS (zs (upd ms 15 0) z)) (q_kd (zA A z) (z_dW z).toNatClampNeg) := by
  obtain ⟨_, hI, ⟨ht1, ht2, ht3, ht4, ht5⟩, hS, hm8, hm9, hm2, hm3⟩ := h
  obtain ⟨⟨k1, k2, k3⟩, k4, k5, k6⟩ := tx_BR (F := Fo) (st := A 1) (ye := A 3) (pr := A 4) hB hM1 hM2
  have eW : (z_dW z).toNatClampNeg = W := by rw [k2, nI_clamp (by omega)]
  rw [eW]
  exact ⟨⟨k4, k5, k6⟩, ⟨⟨0, by decide, rfl, rfl, rfl⟩, fun q => absurd rfl q, fun q => absurd rfl q⟩, ⟨nI_0.symm, by decide, rfl, ht4, ht5⟩, hS, hz.symm, hm9, k1, k2⟩
set_option maxRecDepth 100000 in
set_option maxHeartbeats 1000000 in
theorem cs_text {N : Nat} {xs : Nat → Int32} {G : Nat → sK} {x : Int32} (K : lK G x) (K2 : lK2 G x) {P n t : Nat} {y7 y8 y9 ln : Int32} {ta : Nat → Int32} {e : eT} {s1 : Nat → Int32} {F1 : Nat → Nat → Int32} {a b : Int32} {M : Nat → Nat → Int32} {s2 : Nat → Int32} {F2 : Nat → Nat → Int32} {s3 : Nat → Int32} {F3 : Nat → Nat → Int32} {sl sz : Nat → Int32} {cf : Nat → Nat → Int32} {dt s : Nat → Int32} {F : Nat → Nat → Int32} {ms : Nat → Int32} {A : Nat → Nat → Int32} (h : LIx P n t y7 y8 y9 ln ta s2 F2 s3 F3 sl sz cf s F ms A) : wJ (s_go (some (N, xs)) k_L_law G lP true 99) 4 (lL x) [] (lW y7 y8 y9 ln ta e s1 F1 a b M s2 F2 s3 F3 sl sz cf dt s F ms A) := by
  obtain ⟨⟨hB, hy, hp⟩, ⟨hk, h0, h1⟩, ⟨ht1, ht2, ht3, ht4, ht5⟩, hS, hm8, hm9, hm2, hm3⟩ := id h
  have hTx := text_end (text_eq (ta := ta) (t := t) ht5 ht2 e (dOf s1 F1) (rX (mdW ms A)))
  obtain ⟨Z, hZ⟩ : ∃ Z, Z = x_tl ta (nI t) 162 (x_nx ta (nI t) (x_t0 (rX (mdW ms A)))) 0 := ⟨_, rfl⟩
  rw [← hZ] at hTx
  have hxt : x_tx (A 8) (ms 15) (rX (mdW ms A)) = (x_te Z.1, Z.2) := by rw [ht4, ht3, ht1, x_tx, ← hZ]
  have hm15 : ms 15 = nI t := ht3.trans ht1
  have mq : ∀ (r : Option Value) (L' : sH), q_mtx (mdW ms A) r L' (r_mtx (mdW ms A)) → q_mtx (mdW ms A) r L' (x_te Z.1, Z.2) := fun r L' q => by
    have e0 : r_mtx (mdW ms A) = (x_te Z.1, Z.2) := hxt
    rw [← e0]
    exact q
  refine st_go rfl rfl (st_al rfl ?_)
  refine st_rw (args := [.ref 0]) (rest := []) rfl (fun f hf => hf) rfl (rcvC []) (fpt []) rfl rfl subt rfl ⟨_, _, _, _, _, y7, y8, y9, e, ln, ta, s1, F1, dOf s1 F1, t, rfl, rfl, ht1, ht2⟩ ?_
  rintro r L' ⟨X, E, hX, hE, hg, hb⟩
  replace hX : X = k_tx ta ln e (dOf s1 F1) := hX
  replace hE : E = k_en ln X := hE
  rw [ht1] at hX hE
  rw [← hX, ← hE] at hTx
  rcases hTx with ⟨c1, c2, c3, c4⟩ | ⟨c1, c2, c3, c4, P', W, Np, M1, M2, c5, c6, c7⟩
  · obtain ⟨hr, hL⟩ := hb c1
    have hL2 : L' = tw 1050 4 1014 1019 1040 1049 y7 (e_fa E) y9 E 0 ta (fun _ => 0) (FW F1 X.2.2.2) X.2.2.2 := hL
    subst hr hL2
    refine ⟨_, rfl, rfl, ?_⟩
    rw [putB]
    refine st_al rfl ?_
    refine st_rw (args := [.ref 60]) (rest := [.int (-10 - e_pl E)]) rfl (fun f hf => hf) rfl (rcvM []) (fpm []) rfl rfl subm rfl ⟨ms, A, rX (mdW ms A), t, rfl, rfl, hm15, ht2⟩ ?_
    intro r L' hq
    obtain ⟨hr, hL⟩ := (mq r L' hq).1 c2
    have hr2 : r = some (.int (-10 - z_wr (x_te Z.1))) := hr
    have hL2 : L' = mdW (zs (upd ms 15 0) (x_te Z.1)) (zA A (x_te Z.1)) := hL
    subst hr2 hL2
    refine ⟨_, rfl, rfl, ?_⟩
    rw [putm]
    refine st_cmp (by rw [c4]) (st_72 ?_)
    exact K P n 0 y7 (e_fa E) y9 0 ta E (sD (fun _ => 0) X.2.2.2) (FD (FW F1 X.2.2.2) X.2.2.2) a b M s2 F2 s3 F3 sl sz cf dt s F _ _ (li_bad h c3)
  · obtain ⟨hr, hL⟩ := hg c1
    have hL2 : L' = tw 4 1050 1014 1019 1040 1049 0 (e_fa E) y9 E 0 ta (fun _ => 0) (FW F1 X.2.2.2) X.2.2.2 := hL
    subst hr hL2
    refine ⟨_, rfl, rfl, ?_⟩
    rw [putG]
    refine st_al rfl ?_
    refine st_rw (args := [.ref 60]) (rest := [.int X.1]) rfl (fun f hf => hf) rfl (rcvM2 []) (fpm2 []) rfl rfl subm2 rfl ⟨ms, A, rX (mdW ms A), t, rfl, rfl, hm15, ht2⟩ ?_
    intro r L' hq
    have c8 : ¬ 0 < z_fa (x_te Z.1) := by rw [c2]; decide
    obtain ⟨hr, hL⟩ := (mq r L' hq).2 c8
    have hr2 : r = some (.int (nI Z.2)) := hr
    have hL2 : L' = mdW (q_kdS (zs (upd ms 15 0) (x_te Z.1))) (q_kd (zA A (x_te Z.1)) (z_dW (x_te Z.1)).toNatClampNeg) := hL
    subst hr2 hL2
    refine ⟨_, rfl, rfl, ?_⟩
    rw [putm2]
    refine st_cmp c3 (st_72 ?_)
    rw [← c4] at c5
    exact K2 P' W 0 0 (e_fa E) y9 0 ta E (sD (fun _ => 0) X.2.2.2) (FD (FW F1 X.2.2.2) X.2.2.2) a b M s2 F2 s3 F3 sl sz cf dt s F _ _ (li_good h (c2.trans c1.symm) c5 c6 c7)

