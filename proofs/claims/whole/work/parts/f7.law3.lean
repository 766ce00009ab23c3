/-! ===== the law: the rule of a call from its world ===== -/
theorem inv_ro {ct : sCtr} {ns : List Nat} {w : Value} {k : sK} {ls : sL} {args rest st vs : sS} {L sub : sH} {fp' : List Nat}
    (hro : ct.2.2.1 = true) (hpop : ∀ f : sS → sS → Prop, f args rest → s_pop (s_npar ct.2.1.1 ct.2.1.2.1) [] st f) (hcat : Nat.ble (s_cat rest) 8 = true) (hrcv : ∀ Q : Prop, Q → s_rcv ct.2.1.1 args L Q) (hfp : ct.2.2.2.1 args L = fp') (hk : s_fpk fp' L.length = true) (h5 : Nat.ble fp'.length 500 = true) (hsub : s_sub fp' L fp' = sub) (hvs : args.map (s_rv (s_rho fp')) = vs)
    (hpre : ct.2.2.2.2.1 vs sub) (hpost : ∀ r, ct.2.2.2.2.2 vs sub r sub → ∃ v, r = some v ∧ s_rv (s_un fp') v = v ∧ k ls (v :: rest) L) : s_inv (ns, w, some ct) k ls st L := by
  obtain ⟨⟨y, b, mx, rt⟩, ⟨kd, n, fr, lo⟩, ro, fp, pre, post⟩ := ct
  have hro : ro = true := hro
  subst hro
  unfold s_inv
  refine hpop _ ?_
  rw [hcat]
  dsimp only
  refine hrcv _ ?_
  have hfp : fp args L = fp' := hfp
  rw [s_frL_eq, hfp]
  unfold s_callP
  rw [hk, h5]
  dsimp only
  rw [s_frV_eq, s_frc_eq, hvs, hsub]
  refine ⟨hpre, fun r hr => ?_⟩
  obtain ⟨v, rfl, h1, h2⟩ := hpost r hr
  rw [Option.map_some, h1]
  exact h2
theorem inv_rw {ct : sCtr} {ns : List Nat} {w : Value} {k : sK} {ls : sL} {args rest st vs : sS} {L sub : sH} {fp' : List Nat}
    (hro : ct.2.2.1 = false) (hpop : ∀ f : sS → sS → Prop, f args rest → s_pop (s_npar ct.2.1.1 ct.2.1.2.1) [] st f) (hcat : Nat.ble (s_cat rest) 8 = true) (hrcv : ∀ Q : Prop, Q → s_rcv ct.2.1.1 args L Q) (hfp : ct.2.2.2.1 args L = fp') (hk : s_fpk fp' L.length = true) (h5 : Nat.ble fp'.length 500 = true) (hsub : s_sub fp' L fp' = sub) (hvs : args.map (s_rv (s_rho fp')) = vs)
    (hpre : ct.2.2.2.2.1 vs sub) (hpost : ∀ r L', ct.2.2.2.2.2 vs sub r L' → ∃ v, r = some v ∧ s_rv (s_un fp') v = v ∧ k ls (v :: rest) (s_put fp' fp' L' L)) : s_inv (ns, w, some ct) k ls st L := by
  obtain ⟨⟨y, b, mx, rt⟩, ⟨kd, n, fr, lo⟩, ro, fp, pre, post⟩ := ct
  have hro : ro = false := hro
  subst hro
  unfold s_inv
  refine hpop _ ?_
  rw [hcat]
  dsimp only
  refine hrcv _ ?_
  have hfp : fp args L = fp' := hfp
  rw [s_frL_eq, hfp]
  unfold s_callP
  rw [hk, h5]
  dsimp only
  rw [s_frV_eq, s_frc_eq, hvs, hsub]
  refine ⟨hpre, fun r L' hr => ?_⟩
  obtain ⟨v, rfl, h1, h2⟩ := hpost r L' hr
  rw [s_pk_eq, s_frH_eq, Option.map_some, h1]
  exact h2
/-- the walk, closed to sight -/
def wS (E : sE) (jmp : Nat → sK) (P : sP) (z : Bool) (ops : List sOp) (ls : sL) (st : sS) (L : sH) : Prop := True ∧ s_wp E jmp P z ops ls st L
def wJ (jmp : Nat → sK) (b : Nat) (ls : sL) (st : sS) (L : sH) : Prop := True ∧ jmp b ls st L
theorem st_go {E : sE} {bl : List sBk} {G : Nat → sK} {P : sP} {z : Bool} {n b pc : Nat} {live : List Bool} {ops : List sOp} {ls ls' : sL} {st : sS} {L : sH} (hb : s_nth bl b = some (pc, false, live, ops)) (hm : s_mask live ls = ls') (h : wS E (s_go E bl G P z n) P z ops ls' st L) : wJ (s_go E bl G P z (n + 1)) b ls st L := by
  refine ⟨trivial, ?_⟩
  unfold s_go
  rw [hb]
  subst hm
  exact h.2
theorem st_al {E : sE} {jmp : Nat → sK} {P : sP} {z : Bool} {pc v : Nat} {n : Fin 4} {x : sX} {r : List sOp} {ls : sL} {st : sS} {L : sH} (hl : s_nth ls n = some (some (.ref v))) (h : wS E jmp P z r ls (.ref v :: st) L) : wS E jmp P z ((pc, .aload_n n, x) :: r) ls st L := by
  refine ⟨trivial, ?_⟩
  show s_ldA ls n fun v => s_wp E jmp P z r ls (.ref v :: st) L
  unfold s_ldA
  rw [hl]
  exact h.2
abbrev lL (x : Int32) : sL := [some (.ref 599), some (.ref 0), some (.ref 60), some (.int x)]
theorem st_rd {N : Nat} {xs : Nat → Int32} {jmp : Nat → sK} {P : sP} {z : Bool} {p1 p2 p3 p4 p5 : Nat} {x1 x2 x4 x5 : sX} {c : Int} {ns3 : List Nat} {d : Int32} {ct3 : Option sCtr} {r : List sOp} {x : Int32} {st : sS} {L : sH} (hL : s_nth L 599 = none) (hv : vp_in (x + d) N) (h : wS (some (N, xs)) jmp P z r (lL x) (.int (xs (x + d).toNatClampNeg) :: st) L) : wS (some (N, xs)) jmp P z ((p1, .aload_n 0, x1) :: (p2, .iload_n 3, x2) :: (p3, .iconst c, ns3, .int d, ct3) :: (p4, .iadd, x4) :: (p5, .iaload, x5) :: r) (lL x) st L := by
  refine ⟨trivial, ?_⟩
  show (match s_nth L 599 with
    | some (.inl (0, n, f)) => vp_in (x + d) n ∧ s_wp (some (N, xs)) jmp P z r (lL x) (.int (f (x + d).toNatClampNeg) :: st) L
    | some _ => False
    | none => vp_in (x + d) N ∧ s_wp (some (N, xs)) jmp P z r (lL x) (.int (xs (x + d).toNatClampNeg) :: st) L)
  rw [hL]
  exact ⟨hv, h.2⟩
theorem st_ic {E : sE} {jmp : Nat → sK} {P : sP} {z : Bool} {pc : Nat} {c : Int} {x : sX} {r : List sOp} {ls : sL} {st : sS} {L : sH} (h : wS E jmp P z r ls (x.2.1 :: st) L) : wS E jmp P z ((pc, .iconst c, x) :: r) ls st L := ⟨trivial, h.2⟩
theorem st_nop {E : sE} {jmp : Nat → sK} {P : sP} {z : Bool} {pc b : Nat} {ns : List Nat} {y : Value × Option sCtr} {r : List sOp} {ls : sL} {st : sS} {L : sH} (h : wJ jmp b ls st L) : wS E jmp P z ((pc, .nop, b :: ns, y) :: r) ls st L := ⟨trivial, h.2⟩
theorem st_goto {E : sE} {jmp : Nat → sK} {P : sP} {z : Bool} {pc b : Nat} {o : Int} {ns : List Nat} {y : Value × Option sCtr} {r : List sOp} {ls : sL} {st : sS} {L : sH} (h : wJ jmp b ls st L) : wS E jmp P z ((pc, .goto o, b :: ns, y) :: r) ls st L := ⟨trivial, h.2⟩
theorem st_if {E : sE} {jmp : Nat → sK} {P : sP} {z : Bool} {pc b : Nat} {o : Int} {ns : List Nat} {y : Value × Option sCtr} {r : List sOp} {ls : sL} {v : Int32} {st : sS} {L : sH} (h1 : v = 0 → wJ jmp b ls st L) (h2 : ¬ v = 0 → wS E jmp P z r ls st L) : wS E jmp P z ((pc, .ifCond .eq o, b :: ns, y) :: r) ls (.int v :: st) L := ⟨trivial, fun q => (h1 q).2, fun q => (h2 q).2⟩
theorem st_cmp {E : sE} {jmp : Nat → sK} {P : sP} {z : Bool} {pc b : Nat} {o : Int} {ns : List Nat} {y : Value × Option sCtr} {r : List sOp} {ls : sL} {v w : Int32} {st : sS} {L : sH} (he : v = w) (h : wJ jmp b ls st L) : wS E jmp P z ((pc, .if_icmp .eq o, b :: ns, y) :: r) ls (.int w :: .int v :: st) L := ⟨trivial, fun _ => h.2, fun q => absurd he q⟩
theorem lg_eq {a b : Int64} (h : a = b) : lg_cmp a b = 0 := by
  rw [h, lg_cmp, if_neg (fun q => by rw [gt_iff_lt, Int64.lt_iff_toInt_lt] at q; omega), if_pos rfl]
theorem st_lcmp {E : sE} {jmp : Nat → sK} {P : sP} {z : Bool} {pc pc2 b : Nat} {o : Int} {ns : List Nat} {x : sX} {y : Value × Option sCtr} {r : List sOp} {ls : sL} {v w : Int64} {st : sS} {L : sH} (he : v = w) (h : wJ jmp b ls st L) : wS E jmp P z ((pc, .lcmp, x) :: (pc2, .ifCond .eq o, b :: ns, y) :: r) ls (.long w :: .long v :: st) L := ⟨trivial, fun _ => h.2, fun q => absurd (lg_eq he) q⟩
theorem st_72 {E : sE} {G : Nat → sK} {P : sP} {z : Bool} {m : Nat} {x : Int32} {L : sH} (h : G 1 (lL (x + 5)) [] L) : wJ (s_go E k_L_law G P z (m + 2)) 72 (lL x) [] L := ⟨trivial, h⟩
theorem st_ro {E : sE} {jmp : Nat → sK} {P : sP} {z : Bool} {pc ix : Nat} {r : List sOp} {ct : sCtr} {ns : List Nat} {w : Value} {ls : sL} {args rest st vs : sS} {L sub : sH} {fp' : List Nat}
    (hro : ct.2.2.1 = true) (hpop : ∀ f : sS → sS → Prop, f args rest → s_pop (s_npar ct.2.1.1 ct.2.1.2.1) [] st f) (hcat : Nat.ble (s_cat rest) 8 = true) (hrcv : ∀ Q : Prop, Q → s_rcv ct.2.1.1 args L Q) (hfp : ct.2.2.2.1 args L = fp') (hk : s_fpk fp' L.length = true) (h5 : Nat.ble fp'.length 500 = true) (hsub : s_sub fp' L fp' = sub) (hvs : args.map (s_rv (s_rho fp')) = vs)
    (hpre : ct.2.2.2.2.1 vs sub) (hpost : ∀ r', ct.2.2.2.2.2 vs sub r' sub → ∃ v, r' = some v ∧ s_rv (s_un fp') v = v ∧ wS E jmp P z r ls (v :: rest) L) : wS E jmp P z ((pc, .invokevirtual ix, ns, w, some ct) :: r) ls st L := ⟨trivial, inv_ro (ns := ns) (w := w) hro hpop hcat hrcv hfp hk h5 hsub hvs hpre (fun r' hr => by
    obtain ⟨v, a1, a2, a3⟩ := hpost r' hr
    exact ⟨v, a1, a2, a3.2⟩)⟩
theorem st_rw {E : sE} {jmp : Nat → sK} {P : sP} {z : Bool} {pc ix : Nat} {r : List sOp} {ct : sCtr} {ns : List Nat} {w : Value} {ls : sL} {args rest st vs : sS} {L sub : sH} {fp' : List Nat}
    (hro : ct.2.2.1 = false) (hpop : ∀ f : sS → sS → Prop, f args rest → s_pop (s_npar ct.2.1.1 ct.2.1.2.1) [] st f) (hcat : Nat.ble (s_cat rest) 8 = true) (hrcv : ∀ Q : Prop, Q → s_rcv ct.2.1.1 args L Q) (hfp : ct.2.2.2.1 args L = fp') (hk : s_fpk fp' L.length = true) (h5 : Nat.ble fp'.length 500 = true) (hsub : s_sub fp' L fp' = sub) (hvs : args.map (s_rv (s_rho fp')) = vs)
    (hpre : ct.2.2.2.2.1 vs sub) (hpost : ∀ r' L', ct.2.2.2.2.2 vs sub r' L' → ∃ v, r' = some v ∧ s_rv (s_un fp') v = v ∧ wS E jmp P z r ls (v :: rest) (s_put fp' fp' L' L)) : wS E jmp P z ((pc, .invokevirtual ix, ns, w, some ct) :: r) ls st L := ⟨trivial, inv_rw (ns := ns) (w := w) hro hpop hcat hrcv hfp hk h5 hsub hvs hpre (fun r' L' hr => by
    obtain ⟨v, a1, a2, a3⟩ := hpost r' L' hr
    exact ⟨v, a1, a2, a3.2⟩)⟩
/-! writing back, in one pass -/
def s_pf (fp0 : List Nat) : List Nat → sH → Nat → sC → sC
  | a :: r, c :: cs, i, d => match Nat.beq a i with
    | true => s_mc (s_un fp0) c
    | false => s_pf fp0 r cs i d
  | _, _, _, d => d
def s_p2 (fp0 fp : List Nat) (cs : sH) : Nat → sH → sH
  | _, [] => []
  | i, d :: L => s_pf fp0 fp cs i d :: s_p2 fp0 fp cs (i + 1) L
theorem s_pf_out (fp0 : List Nat) : ∀ (fp : List Nat) (cs : sH) (i : Nat) (d : sC), i ∉ fp → s_pf fp0 fp cs i d = d
  | [], _, _, _, _ => by unfold s_pf; rfl
  | a :: r, [], _, _, _ => by unfold s_pf; rfl
  | a :: r, c :: cs, i, d, h => by
    unfold s_pf
    have h1 : a ≠ i := fun q => h (by rw [q]; exact List.mem_cons_self)
    cases hb : Nat.beq a i with
    | true => exact absurd (Nat.eq_of_beq_eq_true hb) h1
    | false => exact s_pf_out fp0 r cs i d (fun q => h (List.mem_cons_of_mem _ q))
theorem s_p2_set (fp0 : List Nat) (a : Nat) (r : List Nat) (c : sC) (cs : sH) (hr : a ∉ r) : ∀ (L : sH) (i k : Nat), a = i + k → s_p2 fp0 r cs i (s_set L k (s_mc (s_un fp0) c)) = s_p2 fp0 (a :: r) (c :: cs) i L
  | [], i, k, _ => by cases k <;> rfl
  | d :: L, i, 0, h => by
    have h : a = i := h
    subst h
    show s_pf fp0 r cs a (s_mc (s_un fp0) c) :: s_p2 fp0 r cs (a + 1) L = s_pf fp0 (a :: r) (c :: cs) a d :: s_p2 fp0 (a :: r) (c :: cs) (a + 1) L
    have e1 : s_pf fp0 (a :: r) (c :: cs) a d = s_mc (s_un fp0) c := by
      rw [s_pf, Nat.beq_refl]
    have e2 : ∀ (L : sH) (j : Nat), a < j → s_p2 fp0 r cs j L = s_p2 fp0 (a :: r) (c :: cs) j L := by
      intro L
      induction L with
      | nil => intro j _; rfl
      | cons d L ih =>
        intro j hj
        rw [s_p2, s_p2, ih (j + 1) (by omega)]
        congr 1
        rw [s_pf]
        cases hb : Nat.beq a j with
        | true => exact absurd (Nat.eq_of_beq_eq_true hb) (by omega)
        | false => rfl
    rw [e1, s_pf_out fp0 r cs a _ hr, e2 L (a + 1) (by omega)]
  | d :: L, i, k + 1, h => by
    show s_pf fp0 r cs i d :: s_p2 fp0 r cs (i + 1) (s_set L k (s_mc (s_un fp0) c)) = s_pf fp0 (a :: r) (c :: cs) i d :: s_p2 fp0 (a :: r) (c :: cs) (i + 1) L
    rw [s_p2_set fp0 a r c cs hr L (i + 1) k (by omega)]
    congr 1
    rw [s_pf]
    cases hb : Nat.beq a i with
    | true => exact absurd (Nat.eq_of_beq_eq_true hb) (by omega)
    | false => rfl
theorem s_p2_nil (fp0 : List Nat) : ∀ (fp : List Nat) (cs L : sH) (i : Nat), (fp = [] ∨ cs = []) → s_p2 fp0 fp cs i L = L
  | fp, cs, [], i, h => rfl
  | fp, cs, d :: L, i, h => by
    rw [s_p2, s_p2_nil fp0 fp cs L (i + 1) h]
    congr 1
    rcases h with h | h
    · subst h; unfold s_pf; rfl
    · subst h; cases fp <;> (unfold s_pf; rfl)
theorem s_put_p2 (fp0 : List Nat) : ∀ (fp : List Nat) (cs L : sH), fp.Nodup → s_put fp0 fp cs L = s_p2 fp0 fp cs 0 L
  | [], cs, L, _ => by rw [s_p2_nil fp0 [] cs L 0 (Or.inl rfl)]; cases cs <;> rfl
  | a :: r, [], L, _ => by rw [s_p2_nil fp0 (a :: r) [] L 0 (Or.inr rfl)]; rfl
  | a :: r, c :: cs, L, h => by
    rw [s_put, s_put_p2 fp0 r cs _ (List.nodup_cons.mp h).2, s_p2_set fp0 a r c cs (List.nodup_cons.mp h).1 L 0 a (by omega)]
theorem nW {y7 y8 y9 ln : Int32} {ta : Nat → Int32} {e : eT} {s1 : Nat → Int32} {F1 : Nat → Nat → Int32} {a b : Int32} {M : Nat → Nat → Int32} {s2 : Nat → Int32} {F2 : Nat → Nat → Int32} {s3 : Nat → Int32} {F3 : Nat → Nat → Int32} {sl sz : Nat → Int32} {cf : Nat → Nat → Int32} {dt s : Nat → Int32} {F : Nat → Nat → Int32} {ms : Nat → Int32} {A : Nat → Nat → Int32} : s_nth (lW y7 y8 y9 ln ta e s1 F1 a b M s2 F2 s3 F3 sl sz cf dt s F ms A) 599 = none := rfl
theorem rcvC (As : sS) {y7 y8 y9 ln : Int32} {ta : Nat → Int32} {e : eT} {s1 : Nat → Int32} {F1 : Nat → Nat → Int32} {a b : Int32} {M : Nat → Nat → Int32} {s2 : Nat → Int32} {F2 : Nat → Nat → Int32} {s3 : Nat → Int32} {F3 : Nat → Nat → Int32} {sl sz : Nat → Int32} {cf : Nat → Nat → Int32} {dt s : Nat → Int32} {F : Nat → Nat → Int32} {ms : Nat → Int32} {A : Nat → Nat → Int32} (Q : Prop) (h : Q) : s_rcv 6 (.ref 0 :: As) (lW y7 y8 y9 ln ta e s1 F1 a b M s2 F2 s3 F3 sl sz cf dt s F ms A) Q := h
theorem rcvM (As : sS) {y7 y8 y9 ln : Int32} {ta : Nat → Int32} {e : eT} {s1 : Nat → Int32} {F1 : Nat → Nat → Int32} {a b : Int32} {M : Nat → Nat → Int32} {s2 : Nat → Int32} {F2 : Nat → Nat → Int32} {s3 : Nat → Int32} {F3 : Nat → Nat → Int32} {sl sz : Nat → Int32} {cf : Nat → Nat → Int32} {dt s : Nat → Int32} {F : Nat → Nat → Int32} {ms : Nat → Int32} {A : Nat → Nat → Int32} (Q : Prop) (h : Q) : s_rcv 7 (.ref 60 :: As) (lW y7 y8 y9 ln ta e s1 F1 a b M s2 F2 s3 F3 sl sz cf dt s F ms A) Q := h
def fL1 : List Nat := [0, 50, 51, 52, 53, 54, 55, 56, 57, 58, 59]
theorem fp1 (As : sS) {y7 y8 y9 ln : Int32} {ta : Nat → Int32} {e : eT} {s1 : Nat → Int32} {F1 : Nat → Nat → Int32} {a b : Int32} {M : Nat → Nat → Int32} {s2 : Nat → Int32} {F2 : Nat → Nat → Int32} {s3 : Nat → Int32} {F3 : Nat → Nat → Int32} {sl sz : Nat → Int32} {cf : Nat → Nat → Int32} {dt s : Nat → Int32} {F : Nat → Nat → Int32} {ms : Nat → Int32} {A : Nat → Nat → Int32} : w1fp (.ref 0 :: As) (lW y7 y8 y9 ln ta e s1 F1 a b M s2 F2 s3 F3 sl sz cf dt s F ms A) = fL1 := rfl
theorem sub1 {y7 y8 y9 ln : Int32} {ta : Nat → Int32} {e : eT} {s1 : Nat → Int32} {F1 : Nat → Nat → Int32} {a b : Int32} {M : Nat → Nat → Int32} {s2 : Nat → Int32} {F2 : Nat → Nat → Int32} {s3 : Nat → Int32} {F3 : Nat → Nat → Int32} {sl sz : Nat → Int32} {cf : Nat → Nat → Int32} {dt s : Nat → Int32} {F : Nat → Nat → Int32} {ms : Nat → Int32} {A : Nat → Nat → Int32} : s_sub fL1 (lW y7 y8 y9 ln ta e s1 F1 a b M s2 F2 s3 F3 sl sz cf dt s F ms A) fL1 = w1 1001 1003 1014 1019 1040 1049 y7 y8 y9 s F := rfl
set_option maxRecDepth 100000 in
set_option maxHeartbeats 1000000 in
theorem put1 {y7 y8 y9 ln : Int32} {ta : Nat → Int32} {e : eT} {s1 : Nat → Int32} {F1 : Nat → Nat → Int32} {a b : Int32} {M : Nat → Nat → Int32} {s2 : Nat → Int32} {F2 : Nat → Nat → Int32} {s3 : Nat → Int32} {F3 : Nat → Nat → Int32} {sl sz : Nat → Int32} {cf : Nat → Nat → Int32} {dt s : Nat → Int32} {F : Nat → Nat → Int32} {ms : Nat → Int32} {A : Nat → Nat → Int32} (s' : Nat → Int32) (F' : Nat → Nat → Int32) : s_put fL1 fL1 (w1 1001 1003 1014 1019 1040 1049 y7 y8 y9 s' F') (lW y7 y8 y9 ln ta e s1 F1 a b M s2 F2 s3 F3 sl sz cf dt s F ms A) = lW y7 y8 y9 ln ta e s1 F1 a b M s2 F2 s3 F3 sl sz cf dt s' F' ms A := by
  rw [s_put_p2 fL1 fL1 _ _ (by decide)]
  rfl
def fL2 : List Nat := [0, 50, 51, 52, 53, 54, 55, 56, 57, 58, 59, 49]
theorem fp2 (As : sS) {y7 y8 y9 ln : Int32} {ta : Nat → Int32} {e : eT} {s1 : Nat → Int32} {F1 : Nat → Nat → Int32} {a b : Int32} {M : Nat → Nat → Int32} {s2 : Nat → Int32} {F2 : Nat → Nat → Int32} {s3 : Nat → Int32} {F3 : Nat → Nat → Int32} {sl sz : Nat → Int32} {cf : Nat → Nat → Int32} {dt s : Nat → Int32} {F : Nat → Nat → Int32} {ms : Nat → Int32} {A : Nat → Nat → Int32} : w2fp (.ref 0 :: As) (lW y7 y8 y9 ln ta e s1 F1 a b M s2 F2 s3 F3 sl sz cf dt s F ms A) = fL2 := rfl
theorem sub2 {y7 y8 y9 ln : Int32} {ta : Nat → Int32} {e : eT} {s1 : Nat → Int32} {F1 : Nat → Nat → Int32} {a b : Int32} {M : Nat → Nat → Int32} {s2 : Nat → Int32} {F2 : Nat → Nat → Int32} {s3 : Nat → Int32} {F3 : Nat → Nat → Int32} {sl sz : Nat → Int32} {cf : Nat → Nat → Int32} {dt s : Nat → Int32} {F : Nat → Nat → Int32} {ms : Nat → Int32} {A : Nat → Nat → Int32} : s_sub fL2 (lW y7 y8 y9 ln ta e s1 F1 a b M s2 F2 s3 F3 sl sz cf dt s F ms A) fL2 = w2 1001 1003 1014 1019 1040 y7 y8 y9 s F dt := rfl
set_option maxRecDepth 100000 in
set_option maxHeartbeats 1000000 in
theorem put2 {y7 y8 y9 ln : Int32} {ta : Nat → Int32} {e : eT} {s1 : Nat → Int32} {F1 : Nat → Nat → Int32} {a b : Int32} {M : Nat → Nat → Int32} {s2 : Nat → Int32} {F2 : Nat → Nat → Int32} {s3 : Nat → Int32} {F3 : Nat → Nat → Int32} {sl sz : Nat → Int32} {cf : Nat → Nat → Int32} {dt s : Nat → Int32} {F : Nat → Nat → Int32} {ms : Nat → Int32} {A : Nat → Nat → Int32} (dt' : Nat → Int32) : s_put fL2 fL2 (w2 1001 1003 1014 1019 1040 y7 y8 y9 s F dt') (lW y7 y8 y9 ln ta e s1 F1 a b M s2 F2 s3 F3 sl sz cf dt s F ms A) = lW y7 y8 y9 ln ta e s1 F1 a b M s2 F2 s3 F3 sl sz cf dt' s F ms A := by
  rw [s_put_p2 fL2 fL2 _ _ (by decide)]
  rfl
def fL3 : List Nat := [0, 1, 2]
theorem fp3 (As : sS) {y7 y8 y9 ln : Int32} {ta : Nat → Int32} {e : eT} {s1 : Nat → Int32} {F1 : Nat → Nat → Int32} {a b : Int32} {M : Nat → Nat → Int32} {s2 : Nat → Int32} {F2 : Nat → Nat → Int32} {s3 : Nat → Int32} {F3 : Nat → Nat → Int32} {sl sz : Nat → Int32} {cf : Nat → Nat → Int32} {dt s : Nat → Int32} {F : Nat → Nat → Int32} {ms : Nat → Int32} {A : Nat → Nat → Int32} : w3fp (.ref 0 :: As) (lW y7 y8 y9 ln ta e s1 F1 a b M s2 F2 s3 F3 sl sz cf dt s F ms A) = fL3 := rfl
theorem sub3 {y7 y8 y9 ln : Int32} {ta : Nat → Int32} {e : eT} {s1 : Nat → Int32} {F1 : Nat → Nat → Int32} {a b : Int32} {M : Nat → Nat → Int32} {s2 : Nat → Int32} {F2 : Nat → Nat → Int32} {s3 : Nat → Int32} {F3 : Nat → Nat → Int32} {sl sz : Nat → Int32} {cf : Nat → Nat → Int32} {dt s : Nat → Int32} {F : Nat → Nat → Int32} {ms : Nat → Int32} {A : Nat → Nat → Int32} : s_sub fL3 (lW y7 y8 y9 ln ta e s1 F1 a b M s2 F2 s3 F3 sl sz cf dt s F ms A) fL3 = w3 1003 1014 1019 1040 1049 1050 y7 y8 y9 ln ta := rfl
set_option maxRecDepth 100000 in
set_option maxHeartbeats 1000000 in
theorem put3 {y7 y8 y9 ln : Int32} {ta : Nat → Int32} {e : eT} {s1 : Nat → Int32} {F1 : Nat → Nat → Int32} {a b : Int32} {M : Nat → Nat → Int32} {s2 : Nat → Int32} {F2 : Nat → Nat → Int32} {s3 : Nat → Int32} {F3 : Nat → Nat → Int32} {sl sz : Nat → Int32} {cf : Nat → Nat → Int32} {dt s : Nat → Int32} {F : Nat → Nat → Int32} {ms : Nat → Int32} {A : Nat → Nat → Int32} (ln' : Int32) (ta' : Nat → Int32) : s_put fL3 fL3 (w3 1003 1014 1019 1040 1049 1050 y7 y8 y9 ln' ta') (lW y7 y8 y9 ln ta e s1 F1 a b M s2 F2 s3 F3 sl sz cf dt s F ms A) = lW y7 y8 y9 ln' ta' e s1 F1 a b M s2 F2 s3 F3 sl sz cf dt s F ms A := by
  rw [s_put_p2 fL3 fL3 _ _ (by decide)]
  rfl
def fL0 : List Nat := [0]
theorem fp0 (As : sS) {L : sH} : w0fp (.ref 0 :: As) L = fL0 := rfl
theorem sub0 {y7 y8 y9 ln : Int32} {ta : Nat → Int32} {e : eT} {s1 : Nat → Int32} {F1 : Nat → Nat → Int32} {a b : Int32} {M : Nat → Nat → Int32} {s2 : Nat → Int32} {F2 : Nat → Nat → Int32} {s3 : Nat → Int32} {F3 : Nat → Nat → Int32} {sl sz : Nat → Int32} {cf : Nat → Nat → Int32} {dt s : Nat → Int32} {F : Nat → Nat → Int32} {ms : Nat → Int32} {A : Nat → Nat → Int32} : s_sub fL0 (lW y7 y8 y9 ln ta e s1 F1 a b M s2 F2 s3 F3 sl sz cf dt s F ms A) fL0 = [.inr (.inr (5, [.ref 1001, .ref 1003, .ref 1014, .ref 1019, .ref 1040, .ref 1049, .ref 1050, .int y7, .int y8, .int y9]))] := rfl
def fL4 : List Nat := [0, 40, 41, 42, 43, 44, 45, 46, 47, 48]
theorem fp4 (As : sS) {y7 y8 y9 ln : Int32} {ta : Nat → Int32} {e : eT} {s1 : Nat → Int32} {F1 : Nat → Nat → Int32} {a b : Int32} {M : Nat → Nat → Int32} {s2 : Nat → Int32} {F2 : Nat → Nat → Int32} {s3 : Nat → Int32} {F3 : Nat → Nat → Int32} {sl sz : Nat → Int32} {cf : Nat → Nat → Int32} {dt s : Nat → Int32} {F : Nat → Nat → Int32} {ms : Nat → Int32} {A : Nat → Nat → Int32} : w4fp (.ref 0 :: As) (lW y7 y8 y9 ln ta e s1 F1 a b M s2 F2 s3 F3 sl sz cf dt s F ms A) = fL4 := rfl
theorem sub4 {y7 y8 y9 ln : Int32} {ta : Nat → Int32} {e : eT} {s1 : Nat → Int32} {F1 : Nat → Nat → Int32} {a b : Int32} {M : Nat → Nat → Int32} {s2 : Nat → Int32} {F2 : Nat → Nat → Int32} {s3 : Nat → Int32} {F3 : Nat → Nat → Int32} {sl sz : Nat → Int32} {cf : Nat → Nat → Int32} {dt s : Nat → Int32} {F : Nat → Nat → Int32} {ms : Nat → Int32} {A : Nat → Nat → Int32} : s_sub fL4 (lW y7 y8 y9 ln ta e s1 F1 a b M s2 F2 s3 F3 sl sz cf dt s F ms A) fL4 = w4 1001 1003 1014 1019 1049 1050 y7 y8 y9 sl sz cf := rfl
set_option maxRecDepth 100000 in
set_option maxHeartbeats 1000000 in
theorem put4 {y7 y8 y9 ln : Int32} {ta : Nat → Int32} {e : eT} {s1 : Nat → Int32} {F1 : Nat → Nat → Int32} {a b : Int32} {M : Nat → Nat → Int32} {s2 : Nat → Int32} {F2 : Nat → Nat → Int32} {s3 : Nat → Int32} {F3 : Nat → Nat → Int32} {sl sz : Nat → Int32} {cf : Nat → Nat → Int32} {dt s : Nat → Int32} {F : Nat → Nat → Int32} {ms : Nat → Int32} {A : Nat → Nat → Int32} (sl' : Nat → Int32) (sz' : Nat → Int32) (cf' : Nat → Nat → Int32) : s_put fL4 fL4 (w4 1001 1003 1014 1019 1049 1050 y7 y8 y9 sl' sz' cf') (lW y7 y8 y9 ln ta e s1 F1 a b M s2 F2 s3 F3 sl sz cf dt s F ms A) = lW y7 y8 y9 ln ta e s1 F1 a b M s2 F2 s3 F3 sl' sz' cf' dt s F ms A := by
  rw [s_put_p2 fL4 fL4 _ _ (by decide)]
  rfl
def fL5 : List Nat := [0, 50, 51, 52, 53, 54, 55, 56, 57, 58, 59, 40, 41, 42, 43, 44, 45, 46, 47, 48]
theorem fp5 (As : sS) {y7 y8 y9 ln : Int32} {ta : Nat → Int32} {e : eT} {s1 : Nat → Int32} {F1 : Nat → Nat → Int32} {a b : Int32} {M : Nat → Nat → Int32} {s2 : Nat → Int32} {F2 : Nat → Nat → Int32} {s3 : Nat → Int32} {F3 : Nat → Nat → Int32} {sl sz : Nat → Int32} {cf : Nat → Nat → Int32} {dt s : Nat → Int32} {F : Nat → Nat → Int32} {ms : Nat → Int32} {A : Nat → Nat → Int32} : w5fp (.ref 0 :: As) (lW y7 y8 y9 ln ta e s1 F1 a b M s2 F2 s3 F3 sl sz cf dt s F ms A) = fL5 := rfl
theorem sub5 {y7 y8 y9 ln : Int32} {ta : Nat → Int32} {e : eT} {s1 : Nat → Int32} {F1 : Nat → Nat → Int32} {a b : Int32} {M : Nat → Nat → Int32} {s2 : Nat → Int32} {F2 : Nat → Nat → Int32} {s3 : Nat → Int32} {F3 : Nat → Nat → Int32} {sl sz : Nat → Int32} {cf : Nat → Nat → Int32} {dt s : Nat → Int32} {F : Nat → Nat → Int32} {ms : Nat → Int32} {A : Nat → Nat → Int32} : s_sub fL5 (lW y7 y8 y9 ln ta e s1 F1 a b M s2 F2 s3 F3 sl sz cf dt s F ms A) fL5 = w5 1001 1003 1014 1019 1049 y7 y8 y9 s F sl sz cf := rfl
set_option maxRecDepth 100000 in
set_option maxHeartbeats 1000000 in
theorem put5 {y7 y8 y9 ln : Int32} {ta : Nat → Int32} {e : eT} {s1 : Nat → Int32} {F1 : Nat → Nat → Int32} {a b : Int32} {M : Nat → Nat → Int32} {s2 : Nat → Int32} {F2 : Nat → Nat → Int32} {s3 : Nat → Int32} {F3 : Nat → Nat → Int32} {sl sz : Nat → Int32} {cf : Nat → Nat → Int32} {dt s : Nat → Int32} {F : Nat → Nat → Int32} {ms : Nat → Int32} {A : Nat → Nat → Int32} (y9' : Int32) (s' : Nat → Int32) (sl' : Nat → Int32) (sz' : Nat → Int32) (cf' : Nat → Nat → Int32) : s_put fL5 fL5 (w5 1001 1003 1014 1019 1049 y7 y8 y9' s' F sl' sz' cf') (lW y7 y8 y9 ln ta e s1 F1 a b M s2 F2 s3 F3 sl sz cf dt s F ms A) = lW y7 y8 y9' ln ta e s1 F1 a b M s2 F2 s3 F3 sl' sz' cf' dt s' F ms A := by
  rw [s_put_p2 fL5 fL5 _ _ (by decide)]
  rfl
def fL6 : List Nat := [0, 50, 51, 52, 53, 54, 55, 56, 57, 58, 59, 1, 40, 41]
theorem fp6 (As : sS) {y7 y8 y9 ln : Int32} {ta : Nat → Int32} {e : eT} {s1 : Nat → Int32} {F1 : Nat → Nat → Int32} {a b : Int32} {M : Nat → Nat → Int32} {s2 : Nat → Int32} {F2 : Nat → Nat → Int32} {s3 : Nat → Int32} {F3 : Nat → Nat → Int32} {sl sz : Nat → Int32} {cf : Nat → Nat → Int32} {dt s : Nat → Int32} {F : Nat → Nat → Int32} {ms : Nat → Int32} {A : Nat → Nat → Int32} : w6fp (.ref 0 :: As) (lW y7 y8 y9 ln ta e s1 F1 a b M s2 F2 s3 F3 sl sz cf dt s F ms A) = fL6 := rfl
theorem sub6 {y7 y8 y9 ln : Int32} {ta : Nat → Int32} {e : eT} {s1 : Nat → Int32} {F1 : Nat → Nat → Int32} {a b : Int32} {M : Nat → Nat → Int32} {s2 : Nat → Int32} {F2 : Nat → Nat → Int32} {s3 : Nat → Int32} {F3 : Nat → Nat → Int32} {sl sz : Nat → Int32} {cf : Nat → Nat → Int32} {dt s : Nat → Int32} {F : Nat → Nat → Int32} {ms : Nat → Int32} {A : Nat → Nat → Int32} : s_sub fL6 (lW y7 y8 y9 ln ta e s1 F1 a b M s2 F2 s3 F3 sl sz cf dt s F ms A) fL6 = w6 1003 1014 1019 1049 1002 1042 1043 1045 1047 y7 y8 y9 ln (sl 0) (sz 0) s F := rfl
def fL7 : List Nat := [0, 50, 51, 52, 53, 54, 55, 56, 57, 58, 59, 19, 20, 21, 22, 23, 24, 25, 26, 27, 28, 29, 30, 31, 32, 33, 34, 35, 36, 37, 38, 39]
theorem fp7 (As : sS) {y7 y8 y9 ln : Int32} {ta : Nat → Int32} {e : eT} {s1 : Nat → Int32} {F1 : Nat → Nat → Int32} {a b : Int32} {M : Nat → Nat → Int32} {s2 : Nat → Int32} {F2 : Nat → Nat → Int32} {s3 : Nat → Int32} {F3 : Nat → Nat → Int32} {sl sz : Nat → Int32} {cf : Nat → Nat → Int32} {dt s : Nat → Int32} {F : Nat → Nat → Int32} {ms : Nat → Int32} {A : Nat → Nat → Int32} : w7fp (.ref 0 :: As) (lW y7 y8 y9 ln ta e s1 F1 a b M s2 F2 s3 F3 sl sz cf dt s F ms A) = fL7 := rfl
theorem sub7 {y7 y8 y9 ln : Int32} {ta : Nat → Int32} {e : eT} {s1 : Nat → Int32} {F1 : Nat → Nat → Int32} {a b : Int32} {M : Nat → Nat → Int32} {s2 : Nat → Int32} {F2 : Nat → Nat → Int32} {s3 : Nat → Int32} {F3 : Nat → Nat → Int32} {sl sz : Nat → Int32} {cf : Nat → Nat → Int32} {dt s : Nat → Int32} {F : Nat → Nat → Int32} {ms : Nat → Int32} {A : Nat → Nat → Int32} : s_sub fL7 (lW y7 y8 y9 ln ta e s1 F1 a b M s2 F2 s3 F3 sl sz cf dt s F ms A) fL7 = w7 1001 1003 1014 1040 1049 y7 y8 y9 s s2 s3 F F2 F3 := rfl
set_option maxRecDepth 100000 in
set_option maxHeartbeats 1000000 in
theorem put7 {y7 y8 y9 ln : Int32} {ta : Nat → Int32} {e : eT} {s1 : Nat → Int32} {F1 : Nat → Nat → Int32} {a b : Int32} {M : Nat → Nat → Int32} {s2 : Nat → Int32} {F2 : Nat → Nat → Int32} {s3 : Nat → Int32} {F3 : Nat → Nat → Int32} {sl sz : Nat → Int32} {cf : Nat → Nat → Int32} {dt s : Nat → Int32} {F : Nat → Nat → Int32} {ms : Nat → Int32} {A : Nat → Nat → Int32} (y7' : Int32) (s' : Nat → Int32) (s2' : Nat → Int32) (s3' : Nat → Int32) (F' : Nat → Nat → Int32) (F2' : Nat → Nat → Int32) (F3' : Nat → Nat → Int32) : s_put fL7 fL7 (w7 1001 1003 1014 1040 1049 y7' y8 y9 s' s2' s3' F' F2' F3') (lW y7 y8 y9 ln ta e s1 F1 a b M s2 F2 s3 F3 sl sz cf dt s F ms A) = lW y7' y8 y9 ln ta e s1 F1 a b M s2' F2' s3' F3' sl sz cf dt s' F' ms A := by
  rw [s_put_p2 fL7 fL7 _ _ (by decide)]
  rfl
def fLr : List Nat := [0, 14, 15, 16, 17, 18, 50, 51, 52, 53, 54, 55, 56, 57, 58, 59]
theorem fpr (As : sS) {y7 y8 y9 ln : Int32} {ta : Nat → Int32} {e : eT} {s1 : Nat → Int32} {F1 : Nat → Nat → Int32} {a b : Int32} {M : Nat → Nat → Int32} {s2 : Nat → Int32} {F2 : Nat → Nat → Int32} {s3 : Nat → Int32} {F3 : Nat → Nat → Int32} {sl sz : Nat → Int32} {cf : Nat → Nat → Int32} {dt s : Nat → Int32} {F : Nat → Nat → Int32} {ms : Nat → Int32} {A : Nat → Nat → Int32} : wrfp (.ref 0 :: As) (lW y7 y8 y9 ln ta e s1 F1 a b M s2 F2 s3 F3 sl sz cf dt s F ms A) = fLr := rfl
theorem subr {y7 y8 y9 ln : Int32} {ta : Nat → Int32} {e : eT} {s1 : Nat → Int32} {F1 : Nat → Nat → Int32} {a b : Int32} {M : Nat → Nat → Int32} {s2 : Nat → Int32} {F2 : Nat → Nat → Int32} {s3 : Nat → Int32} {F3 : Nat → Nat → Int32} {sl sz : Nat → Int32} {cf : Nat → Nat → Int32} {dt s : Nat → Int32} {F : Nat → Nat → Int32} {ms : Nat → Int32} {A : Nat → Nat → Int32} : s_sub fLr (lW y7 y8 y9 ln ta e s1 F1 a b M s2 F2 s3 F3 sl sz cf dt s F ms A) fLr = wr5 1001 1003 1019 1040 1049 y7 y8 y9 a b M s F := rfl
set_option maxRecDepth 100000 in
set_option maxHeartbeats 1000000 in
theorem putr {y7 y8 y9 ln : Int32} {ta : Nat → Int32} {e : eT} {s1 : Nat → Int32} {F1 : Nat → Nat → Int32} {a b : Int32} {M : Nat → Nat → Int32} {s2 : Nat → Int32} {F2 : Nat → Nat → Int32} {s3 : Nat → Int32} {F3 : Nat → Nat → Int32} {sl sz : Nat → Int32} {cf : Nat → Nat → Int32} {dt s : Nat → Int32} {F : Nat → Nat → Int32} {ms : Nat → Int32} {A : Nat → Nat → Int32} (a' : Int32) (b' : Int32) (M' : Nat → Nat → Int32) : s_put fLr fLr (wr5 1001 1003 1019 1040 1049 y7 y8 y9 a' b' M' s F) (lW y7 y8 y9 ln ta e s1 F1 a b M s2 F2 s3 F3 sl sz cf dt s F ms A) = lW y7 y8 y9 ln ta e s1 F1 a' b' M' s2 F2 s3 F3 sl sz cf dt s F ms A := by
  rw [s_put_p2 fLr fLr _ _ (by decide)]
  rfl
def fLm : List Nat := [60, 61, 62, 63, 64, 65, 66, 67, 68, 69, 70, 71, 72, 73, 74, 75, 76]
theorem fpm (As : sS) {y7 y8 y9 ln : Int32} {ta : Nat → Int32} {e : eT} {s1 : Nat → Int32} {F1 : Nat → Nat → Int32} {a b : Int32} {M : Nat → Nat → Int32} {s2 : Nat → Int32} {F2 : Nat → Nat → Int32} {s3 : Nat → Int32} {F3 : Nat → Nat → Int32} {sl sz : Nat → Int32} {cf : Nat → Nat → Int32} {dt s : Nat → Int32} {F : Nat → Nat → Int32} {ms : Nat → Int32} {A : Nat → Nat → Int32} : mdfp (.ref 60 :: As) (lW y7 y8 y9 ln ta e s1 F1 a b M s2 F2 s3 F3 sl sz cf dt s F ms A) = fLm := rfl
theorem subm {y7 y8 y9 ln : Int32} {ta : Nat → Int32} {e : eT} {s1 : Nat → Int32} {F1 : Nat → Nat → Int32} {a b : Int32} {M : Nat → Nat → Int32} {s2 : Nat → Int32} {F2 : Nat → Nat → Int32} {s3 : Nat → Int32} {F3 : Nat → Nat → Int32} {sl sz : Nat → Int32} {cf : Nat → Nat → Int32} {dt s : Nat → Int32} {F : Nat → Nat → Int32} {ms : Nat → Int32} {A : Nat → Nat → Int32} : s_sub fLm (lW y7 y8 y9 ln ta e s1 F1 a b M s2 F2 s3 F3 sl sz cf dt s F ms A) fLm = mdW ms A := rfl
set_option maxRecDepth 100000 in
set_option maxHeartbeats 1000000 in
theorem putm {y7 y8 y9 ln : Int32} {ta : Nat → Int32} {e : eT} {s1 : Nat → Int32} {F1 : Nat → Nat → Int32} {a b : Int32} {M : Nat → Nat → Int32} {s2 : Nat → Int32} {F2 : Nat → Nat → Int32} {s3 : Nat → Int32} {F3 : Nat → Nat → Int32} {sl sz : Nat → Int32} {cf : Nat → Nat → Int32} {dt s : Nat → Int32} {F : Nat → Nat → Int32} {ms : Nat → Int32} {A : Nat → Nat → Int32} (ms' : Nat → Int32) (A' : Nat → Nat → Int32) : s_put fLm fLm (mdW ms' A') (lW y7 y8 y9 ln ta e s1 F1 a b M s2 F2 s3 F3 sl sz cf dt s F ms A) = lW y7 y8 y9 ln ta e s1 F1 a b M s2 F2 s3 F3 sl sz cf dt s F ms' A' := by
  rw [s_put_p2 fLm fLm _ _ (by decide)]
  rfl

