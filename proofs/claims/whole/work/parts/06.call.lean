/-! ===== the rule of the call ===== -/
theorem s_mc_comp (f g : Nat → Nat) (c : sC) : s_mc f (s_mc g c) = s_mc (fun k => f (g k)) c := by
  rcases c with a | ⟨k, l⟩ | ⟨c, fs⟩
  · rfl
  · simp only [s_mc, List.map_map]
    congr 4
    funext v
    cases v <;> rfl
  · simp only [s_mc, List.map_map]
    congr 4
    funext v
    exact s_rv_comp f g v
theorem s_mc_id {f : Nat → Nat} (hf : ∀ k, f k = k) (c : sC) : s_mc f c = c := by
  have e : f = id := funext hf
  subst e
  rcases c with a | ⟨k, l⟩ | ⟨c, fs⟩
  · rfl
  · have : (Option.map id : Option Nat → Option Nat) = id := by funext v; cases v <;> rfl
    simp [s_mc]
  · have : s_rv id = id := by funext v; exact s_rv_id (fun _ => rfl) v
    simp [s_mc, this]
theorem s_put_sub {L : sH} {fp : List Nat} (hf : (∀ (i j a : Nat), fp[i]? = some a → fp[j]? = some a → i = j) ∧ ∀ a ∈ fp, a < L.length) (h5 : fp.length ≤ 500) : s_put fp fp (s_sub fp L fp) L = L := by
  obtain ⟨hs1, hs2⟩ := s_sub_at fp L fp hf.2
  apply List.ext_getElem?
  intro i
  by_cases hin : i ∈ fp
  · obtain ⟨j, hj⟩ := List.getElem?_of_mem hin
    obtain ⟨c, h1, h2⟩ := hs2 j i hj
    rw [s_put_in fp fp _ L j i _ hf.1 hf.2 hj h2, h1, s_mc_comp, s_mc_id (fun k => s_un_rho fp h5 k)]
  · exact s_put_out fp fp _ L i hin
theorem s_rcv_spec {kd : Nat} {as : sS} {L : sH} {Q : Prop} (h : s_rcv kd as L Q) : Q ∧ (kd = 0 ∨ ∃ (ci b : Nat) (As : sS), kd = ci + 1 ∧ as = .ref b :: As ∧ ((∃ fs, s_nth L b = some (.inr (.inr (ci, fs)))) ∨ (ci = 99 ∧ 500 ≤ b ∧ b ≤ 509))) := by
  cases kd with
  | zero => exact ⟨h, Or.inl rfl⟩
  | succ ci =>
    unfold s_rcv at h
    cases as with
    | nil => exact h.elim
    | cons v As =>
      cases v with
      | ref b =>
        dsimp only at h
        cases hn : s_nth L b with
        | none =>
          rw [hn] at h
          dsimp only at h
          cases h1 : Nat.beq ci 99 <;> cases h2 : Nat.ble 500 b <;> cases h3 : Nat.ble b 509 <;> rw [h1, h2, h3] at h <;> first | exact h.elim | skip
          exact ⟨h, Or.inr ⟨ci, b, As, rfl, rfl, Or.inr ⟨Nat.eq_of_beq_eq_true h1, Nat.ble_eq.mp h2, Nat.ble_eq.mp h3⟩⟩⟩
        | some x =>
          rw [hn] at h
          rcases x with a | a | ⟨cj, fs⟩
          · exact h.elim
          · exact h.elim
          · dsimp only at h
            cases h1 : Nat.beq ci cj with
            | false => rw [h1] at h; exact h.elim
            | true =>
              rw [h1] at h
              have e := Nat.eq_of_beq_eq_true h1
              subst e
              exact ⟨h, Or.inr ⟨ci, b, As, rfl, rfl, Or.inl ⟨fs, hn⟩⟩⟩
      | _ => exact h.elim
theorem s_callP_spec {ro : Bool} {fp : List Nat} {pre : sS → sH → Prop} {post : sS → sH → sP} {as : sS} {L : sH} {k : Option Value → sH → Prop} (h : s_callP ro fp pre post as L k) :
    s_fpk fp L.length = true ∧ fp.length ≤ 500 ∧ pre (as.map (s_rv (s_rho fp))) (s_sub fp L fp) ∧ ∀ r L', post (as.map (s_rv (s_rho fp))) (s_sub fp L fp) r L' → (ro = true → L' = s_sub fp L fp) → k (r.map (s_rv (s_un fp))) (s_put fp fp L' L) := by
  unfold s_callP at h
  cases h1 : s_fpk fp L.length <;> cases h2 : Nat.ble fp.length 500 <;> cases ro <;> rw [h1, h2] at h <;> first | exact h.elim | skip
  · dsimp only at h
    rw [s_frV_eq, s_frc_eq] at h
    exact ⟨rfl, Nat.ble_eq.mp h2, h.1, fun r L' hp _ => by have h3 := h.2 r L' hp; rwa [s_pk_eq, s_frH_eq] at h3⟩
  · dsimp only at h
    rw [s_frV_eq, s_frc_eq] at h
    refine ⟨rfl, Nat.ble_eq.mp h2, h.1, fun r L' hp hr => ?_⟩
    have e := hr rfl
    subst e
    rw [s_put_sub (s_fpk_spec h1) (Nat.ble_eq.mp h2)]
    exact h.2 r hp
theorem s_rl_D {A : Nat → Prop} {cy : Nat → ClassId} {ad : Nat → Nat} {L L2 : sH} (hD : va_D A (s_rl cy ad L)) (h : L2.length = L.length) : va_D A (s_rl cy ad L2) := by
  have key : ∀ (k : Nat) (q : Nat × va_E), (s_rl cy ad L2)[k]? = some q → ∃ q2, (s_rl cy ad L)[k]? = some q2 ∧ q2.1 = q.1 := by
    intro k q hq
    have hk : k < L2.length := by
      have := (List.getElem?_eq_some_iff.mp hq).1
      rwa [s_rl_len] at this
    have hk1 : k < L.length := by omega
    refine ⟨(ad k, s_rc cy ad L[k]), by simp [s_rl, hk1], ?_⟩
    have : (s_rl cy ad L2)[k]? = some (ad k, s_rc cy ad L2[k]) := by simp [s_rl, hk]
    rw [this] at hq
    have h2 := congrArg Prod.fst (Option.some.inj hq)
    exact h2
  refine ⟨fun i j x y hi hj hxy => ?_, fun k q hk => ?_⟩
  · obtain ⟨a, h1, h2⟩ := key i x hi
    obtain ⟨b, h3, h4⟩ := key j y hj
    exact hD.1 i j a b h1 h3 (by rw [h2, h4, hxy])
  · obtain ⟨a, h1, h2⟩ := key k q hk
    rw [← h2]
    exact hD.2 k a h1
theorem s_blind (D : va_G) (cy : Nat → ClassId) (ad : Nat → Nat) (sz : Nat) (vs : sS) (L : sH) : FrameBlind (s_Pc D cy ad sz vs L) := by
  intro a U g mk h
  obtain ⟨q0, q1, qP, qK, qD, qN, adV, qS, qR, qZ⟩ := h
  exact ⟨q0, q1, qP, va_K.moved (u := U) (U := U.calling g mk a) (Vm.Alike.refl U.vm) qK, qD, fun w hw => va_Nw.same rfl rfl (qN w hw), adV, vk_S.moved (u := U) (U := U.calling g mk a) (Vm.Alike.refl U.vm) qS, fun i q hq => vk_R.same rfl (qR i q hq), va_Z.moved (u := U) (U := U.calling g mk a) (Vm.Alike.refl U.vm) qZ.1, va_Zq.moved (u := U) (U := U.calling g mk a) (Vm.Alike.refl U.vm) qZ.2⟩
section SCall
variable {p : Program} {l : Launch} {e : Env} {R : Room} {s : State} {m : MethodId} {args : Array Value} {below : List Frame} {meth : Method} {c : Code} {D : va_G} {cy : Nat → ClassId} {ad : Nat → Nat} {A : Nat → Prop} {Q : State → Prop} {E : sE} {own : String} {cc : ByteArray} {nL n0 cl sl : Nat}
set_option maxHeartbeats 1000000 in
theorem s_inv_ok (hE : s_Env p R s m args c D cy ad A E own cc nL cl sl) {y : MethodName} {b : ByteArray} {mx : Nat} {rt : Option FieldType} {kd np fr lo : Nat} {ro : Bool} {fpf : sS → sH → List Nat} {pre : sS → sH → Prop} {post : sS → sH → sP} (hOk : s_Ok ((y, b, mx, rt), (kd, np, fr, lo), ro, fpf, pre, post))
    (hR : fr + 1 ≤ R.frames ∧ 8 + (mx + 11) + lo ≤ R.locals) {pc ix : Nat} {ns : List Nat} {x0 : Value} {k : sK}
    (hi : (kd = 0 ∧ decode cc pc = .ok (.invokestatic ix, 3) ∧ (Cond.methodLink own ix y ∈ lw_tbl ∨ (own, ix, y) ∈ s_nests)) ∨ (∃ ci, kd = ci + 1 ∧ decode cc pc = .ok (.invokevirtual ix, 3) ∧ Cond.methodLink own ix y ∈ lw_tbl))
    (hk : ∀ ls st L, k ls st L → s_Gp p l e R s m args below meth c D cy ad A Q nL n0 cl sl (pc + 3) ls st L) {ls : sL} {st : sS} {L : sH} (h : s_inv (ns, x0, some ((y, b, mx, rt), (kd, np, fr, lo), ro, fpf, pre, post)) k ls st L) : s_Gp p l e R s m args below meth c D cy ad A Q nL n0 cl sl pc ls st L := by
  intro hlen H locs lr hP hD hS hl
  obtain ⟨hx, hb, hml, hown, hts, hK, hnst, hstr, hA, hscr, hcl, hsl⟩ := hE
  obtain ⟨⟨hsn, hcode, hini, hkind⟩, hmet⟩ := hOk
  have h' : s_pop (s_npar kd np) [] st (fun as rest => match Nat.ble (s_cat rest) 8 with
    | true => s_rcv kd as L (s_frL (fpf as L) fun fp' => s_callP ro fp' pre post as L fun r L' => match r with
      | some v => k ls (v :: rest) L'
      | none => k ls rest L')
    | false => False) := h
  obtain ⟨xs, rest, hst, hxn, h⟩ := s_pop_spec _ _ _ _ h'
  rw [List.append_nil] at h
  obtain ⟨as, has⟩ : ∃ as, as = xs.reverse := ⟨_, rfl⟩
  have hxs : xs = as.reverse := by rw [has, List.reverse_reverse]
  rw [← has] at h
  cases hc8 : Nat.ble (s_cat rest) 8 with
  | false => rw [hc8] at h; exact h.elim
  | true =>
    rw [hc8] at h
    have hcat : s_cat rest ≤ 8 := Nat.ble_eq.mp hc8
    obtain ⟨h, hrc⟩ := s_rcv_spec h
    rw [s_frL_eq] at h
    obtain ⟨hfk, h5, hpre, hpost⟩ := s_callP_spec h
    obtain ⟨fp, hfp⟩ : ∃ fp, fp = fpf as L := ⟨_, rfl⟩
    rw [← hfp] at hfk h5 hpre hpost
    have hf := s_fpk_spec hfk
    have hPc := s_sub_P (D := D) (cy := cy) (ad := ad) hP hf.2 h5
    have hDc := s_sub_D (A := A) (cy := cy) (ad := ad) hD hf
    have hs1 := (s_sub_at fp L fp hf.2).1
    have hargs : (as.map (s_rv (s_rho fp))).map (s_rv (fun k => ad (s_un fp k))) = as.map (s_rv ad) := by
      rw [List.map_map]
      congr 1
      funext v
      show s_rv _ (s_rv _ v) = _
      rw [s_rv_comp]
      congr 1
      funext k
      show ad (s_un fp (s_rho fp k)) = ad k
      rw [s_un_rho fp h5]
    have hFA : ∀ q, va_A (s_rl cy (fun k => ad (s_un fp k)) (s_sub fp L fp)) H.size q → A q := by
      intro q hq
      rcases hq with ⟨k, e, hq⟩ | hq
      · exact hDc.2 k _ hq
      · exact hA q (Nat.le_trans hS.1 hq)
    have hM := hmet l D cy (fun k => ad (s_un fp k)) H.size (as.map (s_rv (s_rho fp))) (s_sub fp L fp) hpre
    have hPre : FrameBlind (s_Pc D cy (fun k => ad (s_un fp k)) H.size (as.map (s_rv (s_rho fp))) (s_sub fp L fp)) ∧ ∀ U : State, U.heap = H → s.WarmedH U.vm → s_Pc D cy (fun k => ad (s_un fp k)) H.size (as.map (s_rv (s_rho fp))) (s_sub fp L fp) (as.map (s_rv ad)).toArray U := by
      refine ⟨s_blind _ _ _ _ _ _, fun U hU hW => ⟨by rw [hargs], by rw [hU], by rw [hU]; exact hPc, va_K.moved hW.alike hK, hDc.weaken (fun _ _ _ _ => trivial), s_nst_warm hW hnst, ?_⟩⟩
      refine s_str_ren (ad := ad) (fun i hi => ?_) (s_str_warm hW hU hS hFA hstr)
      show ad (s_un fp (500 + i)) = ad (500 + i)
      rw [s_un_sp h5 (by omega)]
    have hroom : 2 * (F0 m pc lr (st.map (s_rv ad))).monitorRoom + ((rest.map (s_rv ad)).map fun v => v.category).sum ≤ 8 := lv_room (by rw [s_cat_sum]; exact hcat)
    have hr : va_Run p l e R s m args below meth c H locs cl sl 0 0 (F0 m pc lr (st.map (s_rv ad))) (rest.map (s_rv ad)) (s_Qc D cy (fun k => ad (s_un fp k)) H.size (as.map (s_rv (s_rho fp))) (s_sub fp L fp) ro post (as.map (s_rv ad)).toArray) (va_A (s_rl cy (fun k => ad (s_un fp k)) (s_sub fp L fp)) H.size) := by
      have hini' := hts _ (gT_of hini rfl)
      rcases hi with ⟨rfl, hdg, hlink⟩ | ⟨ci, rfl, hdg, hlink⟩
      · have hstat := hts _ (gT_of (show Cond.static y ∈ lw_tbl from hkind) rfl)
        have hn : (as.map (s_rv ad)).length = np := by rw [List.length_map, has, List.length_reverse]; exact hxn
        have hstk : st.map (s_rv ad) = (as.map (s_rv ad)).reverse ++ rest.map (s_rv ad) := by rw [hst, hxs, List.map_append, List.map_reverse]
        rcases hlink with hlink | hlink
        · exact va_runS (Ts := gT) ⟨hx, hb, hml, hown, hts⟩ hM ⟨callB_of np hts (s_words_good hts hcode) rfl rfl rfl hini' (hts _ (gT_of hlink rfl)) hsn hR, hstat⟩ hPre rfl hn hl.1 hstk hroom hdg ⟨hcl, hsl⟩
        · exact va_runSN (Ts := gT) (host := "WishClerk") ⟨hx, hb, hml, hown, hts⟩ hM ⟨va_cnB np hts (s_words_good hts hcode) rfl rfl rfl (hnst _ hlink) hini' hsn hR, hstat, trivial⟩ hPre rfl hn hl.1 hstk hroom hdg ⟨hcl, hsl⟩
      · obtain ⟨hin, hsel, hcls⟩ := hkind
        rcases hrc with h0 | ⟨ci', bq, As, e1, rfl, hrec⟩
        · cases h0
        have e1 : ci = ci' := by omega
        subst e1
        have hn : (As.map (s_rv ad)).length = np := by
          have h1 : (Value.ref bq :: As).length = np + 1 := by rw [has, List.length_reverse]; exact hxn
          simpa using h1
        have hstk : st.map (s_rv ad) = (As.map (s_rv ad)).reverse ++ .ref (ad bq) :: rest.map (s_rv ad) := by
          rw [hst, hxs, List.map_append, List.map_reverse]
          simp [s_rv]
        have hcell : ∃ cellB : Cell, H[ad bq]? = some cellB ∧ cellB.vm.isStatics = false ∧ s.vm.findClass y.cls = some cellB.cls := by
          rcases hrec with ⟨fs, hfs⟩ | ⟨h99, hb1, hb2⟩
          · rcases hcls with ⟨q, hq, hqn⟩ | ⟨h99, -⟩
            · have := va_recv hK hP hq (s_rl_at (cy := cy) (ad := ad) hfs)
              rw [hqn] at this
              exact this
            · obtain ⟨r, hr1, -⟩ := hP bq _ (s_rl_at (cy := cy) (ad := ad) hfs)
              rw [h99] at hr1
              cases hr1
          · rcases hcls with ⟨q, hq, hqn⟩ | ⟨-, hys⟩
            · rw [h99] at hq
              cases hq
            · obtain ⟨adV, hvs, -⟩ := hstr
              have := vk_recv hvs (show bq - 500 < 10 by omega) hS
              have e5 : 500 + (bq - 500) = bq := by omega
              rw [e5] at this
              rw [hys]
              exact this
        exact va_runV (Ts := gT) (C := y.cls) (b := ad bq) ⟨hx, hb, hml, hown, hts⟩ hM ⟨callB_of np hts (s_words_good hts hcode) rfl rfl rfl hini' (hts _ (gT_of hlink rfl)) hsn hR, hts _ (gT_of hin rfl), hts _ (gT_of hsel rfl)⟩ ⟨hPre.1, hcell, hPre.2⟩ rfl hn hl.1 hstk hroom hdg ⟨hcl, hsl⟩
    intro T hT X
    obtain ⟨v, st₀, t, T', Lc, h0, X', hL, e1, e2, ⟨⟨r, L', hv, ⟨hp, hro⟩, hlen', hP1⟩, hz, hkk⟩, stp⟩ := hr T hT X
    rw [h0] at hz hkk
    have hv1 : v = r.map (s_rv (fun k => ad (s_un fp k))) := by injection hv
    have hcont := hpost r L' hp hro
    have hPn : va_P D vwCl (s_rl cy ad (s_put fp fp L' L)) T'.heap := by
      rw [e1]
      exact s_join hP hD hf h5 hkk hlen' hP1
    have hlen2 : (s_put fp fp L' L).length = L.length := s_put_len fp fp L' L
    have hDn : va_D A (s_rl cy ad (s_put fp fp L' L)) := s_rl_D hD hlen2
    have hSn : va_S A s.heap T'.heap (locs ++ Lc) := ⟨Nat.le_trans hS.1 (by rw [e1]; exact hz), fun q h1 h2 => by rw [e1, hkk q (Nat.lt_of_lt_of_le h1 hS.1) (fun z => h2 (hFA q z))]; exact hS.2.1 q h1 h2, fun q hq => by
      rcases List.mem_append.mp hq with h | h
      · exact hS.2.2 q h
      · exact hFA _ (hL q h)⟩
    have hvm : ∀ w : Value, s_rv ad (s_rv (s_un fp) w) = s_rv (fun k => ad (s_un fp k)) w := fun w => s_rv_comp ad (s_un fp) w
    cases r with
    | none =>
      obtain ⟨t2, a1, b1⟩ := hk _ _ _ hcont (hlen2.trans hlen) T'.heap (locs ++ Lc) lr hPn hDn hSn hl T' rfl X'
      subst hv1
      exact ⟨t2, stp t2 a1, b1⟩
    | some w =>
      obtain ⟨t2, a1, b1⟩ := hk _ _ _ hcont (hlen2.trans hlen) T'.heap (locs ++ Lc) lr hPn hDn hSn hl T' rfl X'
      subst hv1
      refine ⟨t2, stp t2 ?_, b1⟩
      have e6 : (s_rv (s_un fp) w :: rest).map (s_rv ad) = s_rv (fun k => ad (s_un fp k)) w :: rest.map (s_rv ad) := by rw [List.map_cons, hvm]
      rw [e6] at a1
      exact a1
end SCall
