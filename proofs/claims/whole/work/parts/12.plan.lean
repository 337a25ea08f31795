/-! the Planner object -/
theorem iX1_isHeld_X1 : ∀ w ∈ u_ws RX1 TX1 13, w ∈ wsX1_isHeld := by decide +kernel
abbrev rmX1_isHeld : Room := { frames := 0, cells := 0, slots := 0, locals := 0 }
theorem n_X1_isHeld : yX1_isHeld.cls = RX1 ∧ yX1_isHeld.cls ≠ "java/lang/invoke/MethodHandle" ∧ yX1_isHeld.cls ≠ "java/lang/invoke/VarHandle" ∧ (parseMethodDescriptor yX1_isHeld.desc).map (fun d => d.parameters.length) = some 1 := by decide +kernel
set_option maxHeartbeats 4000000 in
set_option maxRecDepth 100000 in
theorem k_X1_isHeld (l : Launch) (D : va_G) (cT : Nat → ClassId) (q pn : Nat) (pa : Int32) (qf qt qb qr ph qhf qht pl pm : Nat) (pb : Int32) (qs ca : Nat) (hh : ph < 65536) (hc : ca < 16) : MR l D cT yX1_isHeld wsX1_isHeld rmX1_isHeld [.ref q, .int (nI ca)] [(q, cPl pn pa qf qt qb qr ph qhf qht pl pm pb qs)] (fun r => (r = nI 1 ∧ ph.testBit ca = true) ∨ (r = nI 0 ∧ ph.testBit ca = false)) := by
  refine m_R [(0, .ref q), (1, .int (nI ca))] (by decide +kernel) rfl (Nat.le_of_ble_eq_true rfl) rfl ?_
  intro p e s m args below meth c C hr hk
  generalize hQ : MQ below (vp_Si _) args s 0 0 (fun _ => False) = Q
  refine r_aln (pc := 0) C 0 rfl dX1_isHeld_0 ?_
  refine r_get (pc := 1) C iX1_isHeld_X1 0 rfl rfl 6 (by decide) (mw 1 rfl) rfl rfl dX1_isHeld_1 ?_
  refine r_iln (pc := 4) C 1 rfl dX1_isHeld_4 ?_
  refine r_ishrN (pc := 5) C (by omega) (by omega) dX1_isHeld_5 ?_
  refine r_ic (pc := 6) (v := nI 1) C rfl dX1_isHeld_6 ?_
  refine r_iandN (pc := 7) C dX1_isHeld_7 ?_
  refine r_v (y := nI (ph.testBit ca).toNat) (congrArg nI (rw_bit _ _)) ?_
  refine r_zeqN (pc := 8) (tgt := 15) C bool_lt dX1_isHeld_8 (by decide) (fun c8 => ?_) (fun c8 => ?_)
  · have c8 := bool_0.mp c8
    refine r_ic (pc := 15) (v := nI 0) C rfl dX1_isHeld_15 ?_
    subst hQ
    exact e_zR C hr hk rfl (Or.inr ⟨rfl, c8⟩) dX1_isHeld_16
  · have c8 := bool_1.mp c8
    refine r_ic (pc := 11) (v := nI 1) C rfl dX1_isHeld_11 ?_
    refine r_goto (pc := 12) (tgt := 16) C dX1_isHeld_12 (by decide) ?_
    subst hQ
    exact e_zR C hr hk rfl (Or.inl ⟨rfl, c8⟩) dX1_isHeld_16

theorem iX1_fits_X1 : ∀ w ∈ u_ws RX1 TX1 13, w ∈ wsX1_fits := by decide +kernel
abbrev rmX1_fits : Room := { frames := 0, cells := 0, slots := 0, locals := 0 }
theorem n_X1_fits : yX1_fits.cls = RX1 ∧ yX1_fits.cls ≠ "java/lang/invoke/MethodHandle" ∧ yX1_fits.cls ≠ "java/lang/invoke/VarHandle" ∧ (parseMethodDescriptor yX1_fits.desc).map (fun d => d.parameters.length) = some 2 := by decide +kernel
set_option maxHeartbeats 4000000 in
set_option maxRecDepth 100000 in
theorem k_X1_fits (l : Launch) (D : va_G) (cT : Nat → ClassId) (q pn : Nat) (pa : Int32) (qf qt qb qr ph qhf qht pl pm : Nat) (pb : Int32) (qs : Nat) (pfr pto phf pht : Nat → Nat) (ca : Nat) (mb : Int32) (hP : PQ pn ph pl pm pfr pto phf pht) (hc : ca < 16) : MR l D cT yX1_fits wsX1_fits rmX1_fits [.ref q, .int (nI ca), .int mb] [(q, cPl pn pa qf qt qb qr ph qhf qht pl pm pb qs), (qf, aN (cT 0) 16 pfr), (qt, aN (cT 0) 16 pto), (qhf, aN (cT 0) 4 phf), (qht, aN (cT 0) 4 pht)] (fun r => (r = nI 1 ∧ Fits (fun j => pl.testBit j) pfr pto phf pht ca mb) ∨ (r = nI 0 ∧ ¬ Fits (fun j => pl.testBit j) pfr pto phf pht ca mb)) := by
  refine m_R [(0, .ref q), (1, .int (nI ca)), (2, .int mb)] (by decide +kernel) rfl (Nat.le_of_ble_eq_true rfl) rfl ?_
  intro p e s m args below meth c C hr hk
  generalize hQ : MQ below (vp_Si _) args s 0 0 (fun _ => False) = Q
  obtain ⟨hn16, hph, hpl, hpm, hfr, hhf⟩ := id hP
  refine r_iln (pc := 0) C 2 rfl dX1_fits_0 ?_
  refine r_zlt (pc := 1) (tgt := 56) C dX1_fits_1 (by decide) (fun c1 => ?_) (fun c1 => ?_)
  · refine r_ic (pc := 56) (v := nI 0) C rfl dX1_fits_56 ?_
    subst hQ
    exact e_zR C hr hk rfl (Or.inr ⟨rfl, fun ⟨k, k1, k2, _⟩ => nI_pos (by omega) (k2 ▸ c1)⟩) dX1_fits_57
  · obtain ⟨j, hj, rfl⟩ := nI_of c1
    refine r_iln (pc := 4) C 2 rfl dX1_fits_4 ?_
    refine r_ic (pc := 5) (v := nI 4) C rfl dX1_fits_5 ?_
    refine r_cgeN (pc := 6) (tgt := 56) C (by omega) (by omega) dX1_fits_6 (by decide) (fun c6 => ?_) (fun c6 => ?_)
    · refine r_ic (pc := 56) (v := nI 0) C rfl dX1_fits_56 ?_
      subst hQ
      exact e_zR C hr hk rfl (by refine Or.inr ⟨rfl, fun ⟨k, k1, k2, k3, k4, k5⟩ => ?_⟩; have e := nI_inj4 (by omega) (by omega) k2; subst e; first | omega | exact absurd k3 (by show ¬ pl.testBit j = true; rw [c17]; decide)) dX1_fits_57
    · refine r_aln (pc := 9) C 0 rfl dX1_fits_9 ?_
      refine r_get (pc := 10) C iX1_fits_X1 0 rfl rfl 9 (by decide) (mw 1 rfl) rfl rfl dX1_fits_10 ?_
      refine r_iln (pc := 13) C 2 rfl dX1_fits_13 ?_
      refine r_ishrN (pc := 14) C (by omega) (by omega) dX1_fits_14 ?_
      refine r_ic (pc := 15) (v := nI 1) C rfl dX1_fits_15 ?_
      refine r_iandN (pc := 16) C dX1_fits_16 ?_
      refine r_v (y := nI (pl.testBit j).toNat) (congrArg nI (rw_bit _ _)) ?_
      refine r_zeqN (pc := 17) (tgt := 56) C bool_lt dX1_fits_17 (by decide) (fun c17 => ?_) (fun c17 => ?_)
      · have c17 := bool_0.mp c17
        refine r_ic (pc := 56) (v := nI 0) C rfl dX1_fits_56 ?_
        subst hQ
        exact e_zR C hr hk rfl (by refine Or.inr ⟨rfl, fun ⟨k, k1, k2, k3, k4, k5⟩ => ?_⟩; have e := nI_inj4 (by omega) (by omega) k2; subst e; first | omega | exact absurd k3 (by show ¬ pl.testBit j = true; rw [c17]; decide)) dX1_fits_57
      · have c17 := bool_1.mp c17
        refine r_aln (pc := 20) C 0 rfl dX1_fits_20 ?_
        refine r_get (pc := 21) C iX1_fits_X1 0 rfl rfl 7 (by decide) (mw 2 rfl) rfl rfl dX1_fits_21 ?_
        refine r_iln (pc := 24) C 2 rfl dX1_fits_24 ?_
        refine r_ialN (pc := 25) C 3 rfl (by omega) (by decide) dX1_fits_25 ?_
        refine r_aln (pc := 26) C 0 rfl dX1_fits_26 ?_
        refine r_get (pc := 27) C iX1_fits_X1 0 rfl rfl 2 (by decide) (mw 3 rfl) rfl rfl dX1_fits_27 ?_
        refine r_iln (pc := 30) C 1 rfl dX1_fits_30 ?_
        refine r_ialN (pc := 31) C 1 rfl (by omega) (by decide) dX1_fits_31 ?_
        refine r_iandN (pc := 32) C dX1_fits_32 ?_
        refine r_zneN (pc := 33) (tgt := 56) C (and_lt31 (hhf j (by omega)).1) dX1_fits_33 (by decide) (fun c33 => ?_) (fun c33 => ?_)
        · refine r_ic (pc := 56) (v := nI 0) C rfl dX1_fits_56 ?_
          subst hQ
          exact e_zR C hr hk rfl (by refine Or.inr ⟨rfl, fun ⟨k, k1, k2, k3, k4, k5⟩ => ?_⟩; have e := nI_inj4 (by omega) (by omega) k2; subst e; first | omega | exact absurd k3 (by show ¬ pl.testBit j = true; rw [c17]; decide)) dX1_fits_57
        · refine r_aln (pc := 36) C 0 rfl dX1_fits_36 ?_
          refine r_get (pc := 37) C iX1_fits_X1 0 rfl rfl 8 (by decide) (mw 4 rfl) rfl rfl dX1_fits_37 ?_
          refine r_iln (pc := 40) C 2 rfl dX1_fits_40 ?_
          refine r_ialN (pc := 41) C 4 rfl (by omega) (by decide) dX1_fits_41 ?_
          refine r_aln (pc := 42) C 0 rfl dX1_fits_42 ?_
          refine r_get (pc := 43) C iX1_fits_X1 0 rfl rfl 3 (by decide) (mw 5 rfl) rfl rfl dX1_fits_43 ?_
          refine r_iln (pc := 46) C 1 rfl dX1_fits_46 ?_
          refine r_ialN (pc := 47) C 2 rfl (by omega) (by decide) dX1_fits_47 ?_
          refine r_iandN (pc := 48) C dX1_fits_48 ?_
          refine r_zneN (pc := 49) (tgt := 56) C (and_lt31 (hhf j (by omega)).2) dX1_fits_49 (by decide) (fun c49 => ?_) (fun c49 => ?_)
          · refine r_ic (pc := 56) (v := nI 0) C rfl dX1_fits_56 ?_
            subst hQ
            exact e_zR C hr hk rfl (by refine Or.inr ⟨rfl, fun ⟨k, k1, k2, k3, k4, k5⟩ => ?_⟩; have e := nI_inj4 (by omega) (by omega) k2; subst e; first | omega | exact absurd k3 (by show ¬ pl.testBit j = true; rw [c17]; decide)) dX1_fits_57
          · refine r_ic (pc := 52) (v := nI 1) C rfl dX1_fits_52 ?_
            refine r_goto (pc := 53) (tgt := 57) C dX1_fits_53 (by decide) ?_
            subst hQ
            exact e_zR C hr hk rfl (Or.inl ⟨rfl, j, c6, rfl, c17, c33, c49⟩) dX1_fits_57

theorem iX1_hold_X1 : ∀ w ∈ u_ws RX1 TX1 13, w ∈ wsX1_hold := by decide +kernel
abbrev rmX1_hold : Room := { frames := 0, cells := 0, slots := 0, locals := 0 }
theorem n_X1_hold : yX1_hold.cls = RX1 ∧ yX1_hold.cls ≠ "java/lang/invoke/MethodHandle" ∧ yX1_hold.cls ≠ "java/lang/invoke/VarHandle" ∧ (parseMethodDescriptor yX1_hold.desc).map (fun d => d.parameters.length) = some 2 := by decide +kernel
set_option maxHeartbeats 4000000 in
set_option maxRecDepth 100000 in
theorem k_X1_hold (l : Launch) (D : va_G) (cT : Nat → ClassId) (q pn : Nat) (pa : Int32) (qf qt qb qr ph qhf qht pl pm : Nat) (pb : Int32) (qs : Nat) (pfr pto : Nat → Nat) (ptr : Nat → Int32) (phf pht : Nat → Nat) (ca mb : Nat) (hP : PQ pn ph pl pm pfr pto phf pht) (hc : ca < 16) (hm : mb < 4) : MWv (S := Nat × (Nat → Int32) × (Nat → Nat) × (Nat → Nat)) l D cT yX1_hold wsX1_hold rmX1_hold [.ref q, .int (nI ca), .int (nI mb)] [(q, cPl pn pa qf qt qb qr ph qhf qht pl pm pb qs), (qf, aN (cT 0) 16 pfr), (qt, aN (cT 0) 16 pto), (qr, aI (cT 0) 16 ptr), (qhf, aN (cT 0) 4 phf), (qht, aN (cT 0) 4 pht)] (fun u => u.1 = ph ||| 2 ^ ca ∧ u.2.1 = upd ptr ca (nI mb) ∧ u.2.2.1 = va_up phf mb (phf mb ||| pfr ca) ∧ u.2.2.2 = va_up pht mb (pht mb ||| pto ca)) (fun u => [(q, cPl pn pa qf qt qb qr u.1 qhf qht pl pm pb qs), (qf, aN (cT 0) 16 pfr), (qt, aN (cT 0) 16 pto), (qr, aI (cT 0) 16 u.2.1), (qhf, aN (cT 0) 4 u.2.2.1), (qht, aN (cT 0) 4 u.2.2.2)]) 0 0 := by
  refine m_Wv [(0, .ref q), (1, .int (nI ca)), (2, .int (nI mb))] (by decide +kernel) rfl (Nat.le_of_ble_eq_true rfl) rfl ?_
  intro p e s m args below meth c A hAe C hA hr hk hnm_
  generalize hQ : MQ below (va_Qv _ _ A) args s 0 0 A = Q
  obtain ⟨hn16, hph, hpl, hpm, hfr, hhf⟩ := id hP
  refine r_aln (pc := 0) C 0 rfl dX1_hold_0 ?_
  refine r_get (pc := 1) C iX1_hold_X1 0 rfl rfl 5 (by decide) (mw 1 rfl) rfl rfl dX1_hold_1 ?_
  refine r_iln (pc := 4) C 1 rfl dX1_hold_4 ?_
  refine r_iln (pc := 5) C 2 rfl dX1_hold_5 ?_
  refine r_iasI (pc := 6) (ws2 := [(q, cPl pn pa qf qt qb qr ph qhf qht pl pm pb qs), (qf, aN (cT 0) 16 pfr), (qt, aN (cT 0) 16 pto), (qr, aI (cT 0) 16 (upd ptr ca (nI mb))), (qhf, aN (cT 0) 4 phf), (qht, aN (cT 0) 4 pht)]) C 3 rfl (by omega) (by decide) rfl dX1_hold_6 ?_
  refine r_aln (pc := 7) C 0 rfl dX1_hold_7 ?_
  refine r_dup (pc := 8) C rfl dX1_hold_8 ?_
  refine r_get (pc := 9) C iX1_hold_X1 0 rfl rfl 6 (by decide) (mw 2 rfl) rfl rfl dX1_hold_9 ?_
  refine r_ic (pc := 12) (v := nI 1) C rfl dX1_hold_12 ?_
  refine r_iln (pc := 13) C 1 rfl dX1_hold_13 ?_
  refine r_ishlN (pc := 14) C (by omega) (by rw [Nat.one_mul]; exact p2_lt31 (by omega)) dX1_hold_14 ?_
  refine r_v (y := nI (2 ^ ca)) (congrArg nI (Nat.one_mul _)) ?_
  refine r_iorN (pc := 15) C dX1_hold_15 ?_
  refine r_put (pc := 16) (ws2 := [(q, cPl pn pa qf qt qb qr (ph ||| (2 ^ ca)) qhf qht pl pm pb qs), (qf, aN (cT 0) 16 pfr), (qt, aN (cT 0) 16 pto), (qr, aI (cT 0) 16 (upd ptr ca (nI mb))), (qhf, aN (cT 0) 4 phf), (qht, aN (cT 0) 4 pht)]) C iX1_hold_X1 tyX1_ok nmX1 0 rfl rfl 6 (by decide) (mw 2 rfl) rfl rfl rfl rfl (Nat.le_of_ble_eq_true rfl) rfl dX1_hold_16 ?_
  refine r_aln (pc := 19) C 0 rfl dX1_hold_19 ?_
  refine r_get (pc := 20) C iX1_hold_X1 0 rfl rfl 7 (by decide) (mw 3 rfl) rfl rfl dX1_hold_20 ?_
  refine r_iln (pc := 23) C 2 rfl dX1_hold_23 ?_
  refine r_dup2 (pc := 24) C rfl rfl dX1_hold_24 ?_
  refine r_ialN (pc := 25) C 4 rfl (by omega) (by decide) dX1_hold_25 ?_
  refine r_aln (pc := 26) C 0 rfl dX1_hold_26 ?_
  refine r_get (pc := 27) C iX1_hold_X1 0 rfl rfl 2 (by decide) (mw 4 rfl) rfl rfl dX1_hold_27 ?_
  refine r_iln (pc := 30) C 1 rfl dX1_hold_30 ?_
  refine r_ialN (pc := 31) C 1 rfl (by omega) (by decide) dX1_hold_31 ?_
  refine r_iorN (pc := 32) C dX1_hold_32 ?_
  refine r_iasN (pc := 33) (ws2 := [(q, cPl pn pa qf qt qb qr (ph ||| (2 ^ ca)) qhf qht pl pm pb qs), (qf, aN (cT 0) 16 pfr), (qt, aN (cT 0) 16 pto), (qr, aI (cT 0) 16 (upd ptr ca (nI mb))), (qhf, aN (cT 0) 4 (va_up phf mb ((phf mb) ||| (pfr ca)))), (qht, aN (cT 0) 4 pht)]) C 4 rfl (by omega) (by decide) rfl dX1_hold_33 ?_
  refine r_aln (pc := 34) C 0 rfl dX1_hold_34 ?_
  refine r_get (pc := 35) C iX1_hold_X1 0 rfl rfl 8 (by decide) (mw 5 rfl) rfl rfl dX1_hold_35 ?_
  refine r_iln (pc := 38) C 2 rfl dX1_hold_38 ?_
  refine r_dup2 (pc := 39) C rfl rfl dX1_hold_39 ?_
  refine r_ialN (pc := 40) C 5 rfl (by omega) (by decide) dX1_hold_40 ?_
  refine r_aln (pc := 41) C 0 rfl dX1_hold_41 ?_
  refine r_get (pc := 42) C iX1_hold_X1 0 rfl rfl 3 (by decide) (mw 6 rfl) rfl rfl dX1_hold_42 ?_
  refine r_iln (pc := 45) C 1 rfl dX1_hold_45 ?_
  refine r_ialN (pc := 46) C 2 rfl (by omega) (by decide) dX1_hold_46 ?_
  refine r_iorN (pc := 47) C dX1_hold_47 ?_
  refine r_iasN (pc := 48) (ws2 := [(q, cPl pn pa qf qt qb qr (ph ||| (2 ^ ca)) qhf qht pl pm pb qs), (qf, aN (cT 0) 16 pfr), (qt, aN (cT 0) 16 pto), (qr, aI (cT 0) 16 (upd ptr ca (nI mb))), (qhf, aN (cT 0) 4 (va_up phf mb ((phf mb) ||| (pfr ca)))), (qht, aN (cT 0) 4 (va_up pht mb ((pht mb) ||| (pto ca))))]) C 5 rfl (by omega) (by decide) rfl dX1_hold_48 ?_
  subst hQ
  exact e_vW C hr hk (Nat.le_refl _) (Nat.le_refl _) ⟨ph ||| (2 ^ ca), upd ptr ca (nI mb), va_up phf mb ((phf mb) ||| (pfr ca)), va_up pht mb ((pht mb) ||| (pto ca))⟩ rfl (⟨rfl, rfl, rfl, rfl⟩) dX1_hold_49

theorem iX1_release_X1 : ∀ w ∈ u_ws RX1 TX1 13, w ∈ wsX1_release := by decide +kernel
abbrev rmX1_release : Room := { frames := 0, cells := 0, slots := 0, locals := 0 }
theorem n_X1_release : yX1_release.cls = RX1 ∧ yX1_release.cls ≠ "java/lang/invoke/MethodHandle" ∧ yX1_release.cls ≠ "java/lang/invoke/VarHandle" ∧ (parseMethodDescriptor yX1_release.desc).map (fun d => d.parameters.length) = some 2 := by decide +kernel
set_option maxHeartbeats 4000000 in
set_option maxRecDepth 100000 in
theorem k_X1_release (l : Launch) (D : va_G) (cT : Nat → ClassId) (q pn : Nat) (pa : Int32) (qf qt qb qr ph qhf qht pl pm : Nat) (pb : Int32) (qs : Nat) (pfr pto : Nat → Nat) (pbf ptr : Nat → Int32) (phf pht : Nat → Nat) (ca mb : Nat) (hP : PQ pn ph pl pm pfr pto phf pht) (hc : ca < 16) (hm : mb < 4) : MWv (S := Nat × (Nat → Int32) × (Nat → Nat) × (Nat → Nat)) l D cT yX1_release wsX1_release rmX1_release [.ref q, .int (nI ca), .int (nI mb)] [(q, cPl pn pa qf qt qb qr ph qhf qht pl pm pb qs), (qf, aN (cT 0) 16 pfr), (qt, aN (cT 0) 16 pto), (qb, aI (cT 0) 16 pbf), (qr, aI (cT 0) 16 ptr), (qhf, aN (cT 0) 4 phf), (qht, aN (cT 0) 4 pht)] (fun u => u.1 = wo ph (2 ^ ca) ∧ u.2.1 = upd ptr ca (pbf ca) ∧ u.2.2.1 = va_up phf mb (wo (phf mb) (pfr ca)) ∧ u.2.2.2 = va_up pht mb (wo (pht mb) (pto ca))) (fun u => [(q, cPl pn pa qf qt qb qr u.1 qhf qht pl pm pb qs), (qf, aN (cT 0) 16 pfr), (qt, aN (cT 0) 16 pto), (qb, aI (cT 0) 16 pbf), (qr, aI (cT 0) 16 u.2.1), (qhf, aN (cT 0) 4 u.2.2.1), (qht, aN (cT 0) 4 u.2.2.2)]) 0 0 := by
  refine m_Wv [(0, .ref q), (1, .int (nI ca)), (2, .int (nI mb))] (by decide +kernel) rfl (Nat.le_of_ble_eq_true rfl) rfl ?_
  intro p e s m args below meth c A hAe C hA hr hk hnm_
  generalize hQ : MQ below (va_Qv _ _ A) args s 0 0 A = Q
  obtain ⟨hn16, hph, hpl, hpm, hfr, hhf⟩ := id hP
  refine r_aln (pc := 0) C 0 rfl dX1_release_0 ?_
  refine r_get (pc := 1) C iX1_release_X1 0 rfl rfl 5 (by decide) (mw 1 rfl) rfl rfl dX1_release_1 ?_
  refine r_iln (pc := 4) C 1 rfl dX1_release_4 ?_
  refine r_aln (pc := 5) C 0 rfl dX1_release_5 ?_
  refine r_get (pc := 6) C iX1_release_X1 0 rfl rfl 4 (by decide) (mw 2 rfl) rfl rfl dX1_release_6 ?_
  refine r_iln (pc := 9) C 1 rfl dX1_release_9 ?_
  refine r_ialI (pc := 10) C 3 rfl (by omega) (by decide) dX1_release_10 ?_
  refine r_iasI (pc := 11) (ws2 := [(q, cPl pn pa qf qt qb qr ph qhf qht pl pm pb qs), (qf, aN (cT 0) 16 pfr), (qt, aN (cT 0) 16 pto), (qb, aI (cT 0) 16 pbf), (qr, aI (cT 0) 16 (upd ptr ca (pbf ca))), (qhf, aN (cT 0) 4 phf), (qht, aN (cT 0) 4 pht)]) C 4 rfl (by omega) (by decide) rfl dX1_release_11 ?_
  refine r_aln (pc := 12) C 0 rfl dX1_release_12 ?_
  refine r_dup (pc := 13) C rfl dX1_release_13 ?_
  refine r_get (pc := 14) C iX1_release_X1 0 rfl rfl 6 (by decide) (mw 3 rfl) rfl rfl dX1_release_14 ?_
  refine r_ic (pc := 17) (v := nI 1) C rfl dX1_release_17 ?_
  refine r_iln (pc := 18) C 1 rfl dX1_release_18 ?_
  refine r_ishlN (pc := 19) C (by omega) (by rw [Nat.one_mul]; exact p2_lt31 (by omega)) dX1_release_19 ?_
  refine r_v (y := nI (2 ^ ca)) (congrArg nI (Nat.one_mul _)) ?_
  refine r_ic (pc := 20) (v := (-1)) C rfl dX1_release_20 ?_
  refine r_ixor (pc := 21) C dX1_release_21 ?_
  refine r_iandWo (pc := 22) C dX1_release_22 ?_
  refine r_put (pc := 23) (ws2 := [(q, cPl pn pa qf qt qb qr (wo ph (2 ^ ca)) qhf qht pl pm pb qs), (qf, aN (cT 0) 16 pfr), (qt, aN (cT 0) 16 pto), (qb, aI (cT 0) 16 pbf), (qr, aI (cT 0) 16 (upd ptr ca (pbf ca))), (qhf, aN (cT 0) 4 phf), (qht, aN (cT 0) 4 pht)]) C iX1_release_X1 tyX1_ok nmX1 0 rfl rfl 6 (by decide) (mw 3 rfl) rfl rfl rfl rfl (Nat.le_of_ble_eq_true rfl) rfl dX1_release_23 ?_
  refine r_aln (pc := 26) C 0 rfl dX1_release_26 ?_
  refine r_get (pc := 27) C iX1_release_X1 0 rfl rfl 7 (by decide) (mw 4 rfl) rfl rfl dX1_release_27 ?_
  refine r_iln (pc := 30) C 2 rfl dX1_release_30 ?_
  refine r_dup2 (pc := 31) C rfl rfl dX1_release_31 ?_
  refine r_ialN (pc := 32) C 5 rfl (by omega) (by decide) dX1_release_32 ?_
  refine r_aln (pc := 33) C 0 rfl dX1_release_33 ?_
  refine r_get (pc := 34) C iX1_release_X1 0 rfl rfl 2 (by decide) (mw 5 rfl) rfl rfl dX1_release_34 ?_
  refine r_iln (pc := 37) C 1 rfl dX1_release_37 ?_
  refine r_ialN (pc := 38) C 1 rfl (by omega) (by decide) dX1_release_38 ?_
  refine r_ic (pc := 39) (v := (-1)) C rfl dX1_release_39 ?_
  refine r_ixor (pc := 40) C dX1_release_40 ?_
  refine r_iandWo (pc := 41) C dX1_release_41 ?_
  refine r_iasN (pc := 42) (ws2 := [(q, cPl pn pa qf qt qb qr (wo ph (2 ^ ca)) qhf qht pl pm pb qs), (qf, aN (cT 0) 16 pfr), (qt, aN (cT 0) 16 pto), (qb, aI (cT 0) 16 pbf), (qr, aI (cT 0) 16 (upd ptr ca (pbf ca))), (qhf, aN (cT 0) 4 (va_up phf mb (wo (phf mb) (pfr ca)))), (qht, aN (cT 0) 4 pht)]) C 5 rfl (by omega) (by decide) rfl dX1_release_42 ?_
  refine r_aln (pc := 43) C 0 rfl dX1_release_43 ?_
  refine r_get (pc := 44) C iX1_release_X1 0 rfl rfl 8 (by decide) (mw 6 rfl) rfl rfl dX1_release_44 ?_
  refine r_iln (pc := 47) C 2 rfl dX1_release_47 ?_
  refine r_dup2 (pc := 48) C rfl rfl dX1_release_48 ?_
  refine r_ialN (pc := 49) C 6 rfl (by omega) (by decide) dX1_release_49 ?_
  refine r_aln (pc := 50) C 0 rfl dX1_release_50 ?_
  refine r_get (pc := 51) C iX1_release_X1 0 rfl rfl 3 (by decide) (mw 7 rfl) rfl rfl dX1_release_51 ?_
  refine r_iln (pc := 54) C 1 rfl dX1_release_54 ?_
  refine r_ialN (pc := 55) C 2 rfl (by omega) (by decide) dX1_release_55 ?_
  refine r_ic (pc := 56) (v := (-1)) C rfl dX1_release_56 ?_
  refine r_ixor (pc := 57) C dX1_release_57 ?_
  refine r_iandWo (pc := 58) C dX1_release_58 ?_
  refine r_iasN (pc := 59) (ws2 := [(q, cPl pn pa qf qt qb qr (wo ph (2 ^ ca)) qhf qht pl pm pb qs), (qf, aN (cT 0) 16 pfr), (qt, aN (cT 0) 16 pto), (qb, aI (cT 0) 16 pbf), (qr, aI (cT 0) 16 (upd ptr ca (pbf ca))), (qhf, aN (cT 0) 4 (va_up phf mb (wo (phf mb) (pfr ca)))), (qht, aN (cT 0) 4 (va_up pht mb (wo (pht mb) (pto ca))))]) C 6 rfl (by omega) (by decide) rfl dX1_release_59 ?_
  subst hQ
  exact e_vW C hr hk (Nat.le_refl _) (Nat.le_refl _) ⟨wo ph (2 ^ ca), upd ptr ca (pbf ca), va_up phf mb (wo (phf mb) (pfr ca)), va_up pht mb (wo (pht mb) (pto ca))⟩ rfl (⟨rfl, rfl, rfl, rfl⟩) dX1_release_60

theorem iX1_nextToHold_X1 : ∀ w ∈ u_ws RX1 TX1 13, w ∈ wsX1_nextToHold := by decide +kernel
abbrev rmX1_nextToHold : Room := { frames := 1, cells := 0, slots := 0, locals := 22 }
theorem n_X1_nextToHold : yX1_nextToHold.cls = RX1 ∧ yX1_nextToHold.cls ≠ "java/lang/invoke/MethodHandle" ∧ yX1_nextToHold.cls ≠ "java/lang/invoke/VarHandle" ∧ (parseMethodDescriptor yX1_nextToHold.desc).map (fun d => d.parameters.length) = some 0 := by decide +kernel
set_option maxHeartbeats 4000000 in
set_option maxRecDepth 100000 in
theorem k_X1_nextToHold (l : Launch) (D : va_G) (cT : Nat → ClassId) (q pn : Nat) (pa : Int32) (qf qt qb qr ph qhf qht pl pm : Nat) (pb : Int32) (qs : Nat) (pfr pto : Nat → Nat) (ptr : Nat → Int32) (phf pht : Nat → Nat) (hP : PQ pn ph pl pm pfr pto phf pht) (ha : pa = -1 ∨ ∃ a0, pa = nI a0 ∧ a0 < pn) : MR l D cT yX1_nextToHold wsX1_nextToHold rmX1_nextToHold [.ref q] [(q, cPl pn pa qf qt qb qr ph qhf qht pl pm pb qs), (qf, aN (cT 0) 16 pfr), (qt, aN (cT 0) 16 pto), (qr, aI (cT 0) 16 ptr), (qhf, aN (cT 0) 4 phf), (qht, aN (cT 0) 4 pht)] (fun r => (r = -1 ∧ (∀ k, k < pn → nI k = pa → ph.testBit k = true) ∧ ∀ k, k < pn → ph.testBit k = true ∨ Fits (fun j => pl.testBit j) pfr pto phf pht k (ptr k)) ∨ (∃ k, r = nI k ∧ k < pn ∧ ph.testBit k = false)) := by
  refine m_R [(0, .ref q)] (by decide +kernel) rfl (Nat.le_of_ble_eq_true rfl) rfl ?_
  intro p e s m args below meth c C hr hk
  generalize hQ : MQ below (vp_Si _) args s 0 0 (fun _ => False) = Q
  obtain ⟨hn16, hph, hpl, hpm, hfr, hhf⟩ := id hP
  refine r_aln (pc := 0) C 0 rfl dX1_nextToHold_0 ?_
  refine r_get (pc := 1) C iX1_nextToHold_X1 0 rfl rfl 1 (by decide) (mw 1 rfl) rfl rfl dX1_nextToHold_1 ?_
  refine r_ic (pc := 4) (v := (-1)) C rfl dX1_nextToHold_4 ?_
  refine r_ceq (pc := 5) (tgt := 24) C dX1_nextToHold_5 (by decide) (fun c5 => ?_) (fun c5 => ?_)
  · have hAD : ∀ k, k < pn → nI k = pa → ph.testBit k = true := fun k h1 h2 => absurd (h2.trans c5) (nI_m1 (by omega))
    refine r_ic (pc := 24) (v := nI 0) C rfl dX1_nextToHold_24 ?_
    refine r_isn (pc := 25) C [1, 0] [(0, .ref q), (1, .int (nI 0))] rfl (by decide) rfl dX1_nextToHold_25 ?_
    have L26 : ∀ (n26 : Nat) (i : Nat) (hi2 : i ≤ pn) (hq : ∀ k, k < i → ph.testBit k = true ∨ Fits (fun j => pl.testBit j) pfr pto phf pht k (ptr k)), pn - i < n26 → RW p l e (headSpec wsX1_nextToHold rmX1_nextToHold).room s m args below meth c (IR s D) 2 0 0 Q [(q, cPl pn pa qf qt qb qr ph qhf qht pl pm pb qs), (qf, aN (cT 0) 16 pfr), (qt, aN (cT 0) 16 pto), (qr, aI (cT 0) 16 ptr), (qhf, aN (cT 0) 4 phf), (qht, aN (cT 0) 4 pht)] 26 [(0, .ref q), (1, .int (nI i))] [] := by
      intro n26
      induction n26 with
      | zero => intro i hi2 hq hn26; exact absurd hn26 (Nat.not_lt_zero _)
      | succ n26 ih26 =>
        intro i hi2 hq hn26
        refine r_iln (pc := 26) C 1 rfl dX1_nextToHold_26 ?_
        refine r_aln (pc := 27) C 0 rfl dX1_nextToHold_27 ?_
        refine r_get (pc := 28) C iX1_nextToHold_X1 0 rfl rfl 0 (by decide) (mw 2 rfl) rfl rfl dX1_nextToHold_28 ?_
        refine r_cgeN (pc := 31) (tgt := 64) C (by omega) (by omega) dX1_nextToHold_31 (by decide) (fun c31 => ?_) (fun c31 => ?_)
        · refine r_ic (pc := 64) (v := (-1)) C rfl dX1_nextToHold_64 ?_
          subst hQ
          exact e_iR C hr hk (Or.inl ⟨rfl, hAD, fun k hk => hq k (by omega)⟩) dX1_nextToHold_65
        · refine r_aln (pc := 34) C 0 rfl dX1_nextToHold_34 ?_
          refine r_iln (pc := 35) C 1 rfl dX1_nextToHold_35 ?_
          refine c_RV (pc := 36) (As := [.int (nI i)]) (wc := [(q, cPl pn pa qf qt qb qr ph qhf qht pl pm pb qs)]) (qr := 0) C (k_X1_isHeld l D cT q pn pa qf qt qb qr ph qhf qht pl pm pb qs i (by first | assumption | omega) (by first | assumption | omega)) (cwV 1 C.1.2.2.2.2 gX1_nextToHold_X1_isHeld rfl rfl rfl n_X1_isHeld ⟨Nat.le_of_ble_eq_true rfl, Nat.le_of_ble_eq_true rfl⟩) [0] rfl rfl rfl rfl rfl (Nat.le_of_ble_eq_true rfl) ⟨Nat.zero_le _, Nat.zero_le _⟩ dX1_nextToHold_36 (fun r36 h1 => ?_)
          rcases h1 with ⟨rfl, h1⟩ | ⟨rfl, h1⟩
          · refine r_zneN (pc := 39) (tgt := 58) C (by omega) dX1_nextToHold_39 (by decide) (fun _ => ?_) (fun h => absurd h (by decide))
            refine r_incN (pc := 58) C 1 [1, 0] [(0, .ref q), (1, .int (nI (i + 1)))] rfl (by decide) rfl dX1_nextToHold_58 ?_
            refine r_goto (pc := 61) (tgt := 26) C dX1_nextToHold_61 (by decide) ?_
            exact ih26 (i + 1) (by omega) (fun k hk => by rcases Nat.lt_succ_iff_lt_or_eq.mp hk with g | g; exact hq k g; subst g; exact Or.inl h1) (by omega)
          · refine r_zneN (pc := 39) (tgt := 58) C (by omega) dX1_nextToHold_39 (by decide) (fun h => absurd h (by decide)) (fun _ => ?_)
            refine r_aln (pc := 42) C 0 rfl dX1_nextToHold_42 ?_
            refine r_iln (pc := 43) C 1 rfl dX1_nextToHold_43 ?_
            refine r_aln (pc := 44) C 0 rfl dX1_nextToHold_44 ?_
            refine r_get (pc := 45) C iX1_nextToHold_X1 0 rfl rfl 5 (by decide) (mw 3 rfl) rfl rfl dX1_nextToHold_45 ?_
            refine r_iln (pc := 48) C 1 rfl dX1_nextToHold_48 ?_
            refine r_ialI (pc := 49) C 3 rfl (by omega) (by decide) dX1_nextToHold_49 ?_
            refine c_RV (pc := 50) (As := [.int (nI i), .int (ptr i)]) (wc := [(q, cPl pn pa qf qt qb qr ph qhf qht pl pm pb qs), (qf, aN (cT 0) 16 pfr), (qt, aN (cT 0) 16 pto), (qhf, aN (cT 0) 4 phf), (qht, aN (cT 0) 4 pht)]) (qr := 0) C (k_X1_fits l D cT q pn pa qf qt qb qr ph qhf qht pl pm pb qs pfr pto phf pht i (ptr i) (by first | assumption | omega) (by first | assumption | omega)) (cwV 2 C.1.2.2.2.2 gX1_nextToHold_X1_fits rfl rfl rfl n_X1_fits ⟨Nat.le_of_ble_eq_true rfl, Nat.le_of_ble_eq_true rfl⟩) [0, 1, 2, 4, 5] rfl rfl rfl rfl rfl (Nat.le_of_ble_eq_true rfl) ⟨Nat.zero_le _, Nat.zero_le _⟩ dX1_nextToHold_50 (fun r50 h2 => ?_)
            rcases h2 with ⟨rfl, h2⟩ | ⟨rfl, h2⟩
            · refine r_zneN (pc := 53) (tgt := 58) C (by omega) dX1_nextToHold_53 (by decide) (fun _ => ?_) (fun h => absurd h (by decide))
              refine r_incN (pc := 58) C 1 [1, 0] [(0, .ref q), (1, .int (nI (i + 1)))] rfl (by decide) rfl dX1_nextToHold_58 ?_
              refine r_goto (pc := 61) (tgt := 26) C dX1_nextToHold_61 (by decide) ?_
              exact ih26 (i + 1) (by omega) (fun k hk => by rcases Nat.lt_succ_iff_lt_or_eq.mp hk with g | g; exact hq k g; subst g; exact Or.inr h2) (by omega)
            · refine r_zneN (pc := 53) (tgt := 58) C (by omega) dX1_nextToHold_53 (by decide) (fun h => absurd h (by decide)) (fun _ => ?_)
              refine r_iln (pc := 56) C 1 rfl dX1_nextToHold_56 ?_
              subst hQ
              exact e_iR C hr hk (Or.inr ⟨i, rfl, by omega, h1⟩) dX1_nextToHold_57
    exact L26 _ 0 (Nat.zero_le _) (fun k hk => absurd hk (Nat.not_lt_zero _)) (Nat.lt_succ_self _)
  · obtain ⟨a0, e0, ha0⟩ := ha.resolve_left c5
    subst e0
    refine r_aln (pc := 8) C 0 rfl dX1_nextToHold_8 ?_
    refine r_aln (pc := 9) C 0 rfl dX1_nextToHold_9 ?_
    refine r_get (pc := 10) C iX1_nextToHold_X1 0 rfl rfl 1 (by decide) (mw 1 rfl) rfl rfl dX1_nextToHold_10 ?_
    refine c_RV (pc := 13) (As := [.int (nI a0)]) (wc := [(q, cPl pn (nI a0) qf qt qb qr ph qhf qht pl pm pb qs)]) (qr := 0) C (k_X1_isHeld l D cT q pn (nI a0) qf qt qb qr ph qhf qht pl pm pb qs a0 (by first | assumption | omega) (by first | assumption | omega)) (cwV 1 C.1.2.2.2.2 gX1_nextToHold_X1_isHeld rfl rfl rfl n_X1_isHeld ⟨Nat.le_of_ble_eq_true rfl, Nat.le_of_ble_eq_true rfl⟩) [0] rfl rfl rfl rfl rfl (Nat.le_of_ble_eq_true rfl) ⟨Nat.zero_le _, Nat.zero_le _⟩ dX1_nextToHold_13 (fun r13 h3 => ?_)
    rcases h3 with ⟨rfl, h3⟩ | ⟨rfl, h3⟩
    · have hAD : ∀ k, k < pn → nI k = nI a0 → ph.testBit k = true := fun k h1 h2 => by rw [nI_inj4 (by omega) (by omega) h2]; exact h3
      refine r_zneN (pc := 16) (tgt := 24) C (by omega) dX1_nextToHold_16 (by decide) (fun _ => ?_) (fun h => absurd h (by decide))
      refine r_ic (pc := 24) (v := nI 0) C rfl dX1_nextToHold_24 ?_
      refine r_isn (pc := 25) C [1, 0] [(0, .ref q), (1, .int (nI 0))] rfl (by decide) rfl dX1_nextToHold_25 ?_
      have L26 : ∀ (n26 : Nat) (i : Nat) (hi2 : i ≤ pn) (hq : ∀ k, k < i → ph.testBit k = true ∨ Fits (fun j => pl.testBit j) pfr pto phf pht k (ptr k)), pn - i < n26 → RW p l e (headSpec wsX1_nextToHold rmX1_nextToHold).room s m args below meth c (IR s D) 2 0 0 Q [(q, cPl pn (nI a0) qf qt qb qr ph qhf qht pl pm pb qs), (qf, aN (cT 0) 16 pfr), (qt, aN (cT 0) 16 pto), (qr, aI (cT 0) 16 ptr), (qhf, aN (cT 0) 4 phf), (qht, aN (cT 0) 4 pht)] 26 [(0, .ref q), (1, .int (nI i))] [] := by
        intro n26
        induction n26 with
        | zero => intro i hi2 hq hn26; exact absurd hn26 (Nat.not_lt_zero _)
        | succ n26 ih26 =>
          intro i hi2 hq hn26
          refine r_iln (pc := 26) C 1 rfl dX1_nextToHold_26 ?_
          refine r_aln (pc := 27) C 0 rfl dX1_nextToHold_27 ?_
          refine r_get (pc := 28) C iX1_nextToHold_X1 0 rfl rfl 0 (by decide) (mw 2 rfl) rfl rfl dX1_nextToHold_28 ?_
          refine r_cgeN (pc := 31) (tgt := 64) C (by omega) (by omega) dX1_nextToHold_31 (by decide) (fun c31 => ?_) (fun c31 => ?_)
          · refine r_ic (pc := 64) (v := (-1)) C rfl dX1_nextToHold_64 ?_
            subst hQ
            exact e_iR C hr hk (Or.inl ⟨rfl, hAD, fun k hk => hq k (by omega)⟩) dX1_nextToHold_65
          · refine r_aln (pc := 34) C 0 rfl dX1_nextToHold_34 ?_
            refine r_iln (pc := 35) C 1 rfl dX1_nextToHold_35 ?_
            refine c_RV (pc := 36) (As := [.int (nI i)]) (wc := [(q, cPl pn (nI a0) qf qt qb qr ph qhf qht pl pm pb qs)]) (qr := 0) C (k_X1_isHeld l D cT q pn (nI a0) qf qt qb qr ph qhf qht pl pm pb qs i (by first | assumption | omega) (by first | assumption | omega)) (cwV 1 C.1.2.2.2.2 gX1_nextToHold_X1_isHeld rfl rfl rfl n_X1_isHeld ⟨Nat.le_of_ble_eq_true rfl, Nat.le_of_ble_eq_true rfl⟩) [0] rfl rfl rfl rfl rfl (Nat.le_of_ble_eq_true rfl) ⟨Nat.zero_le _, Nat.zero_le _⟩ dX1_nextToHold_36 (fun r36 h4 => ?_)
            rcases h4 with ⟨rfl, h4⟩ | ⟨rfl, h4⟩
            · refine r_zneN (pc := 39) (tgt := 58) C (by omega) dX1_nextToHold_39 (by decide) (fun _ => ?_) (fun h => absurd h (by decide))
              refine r_incN (pc := 58) C 1 [1, 0] [(0, .ref q), (1, .int (nI (i + 1)))] rfl (by decide) rfl dX1_nextToHold_58 ?_
              refine r_goto (pc := 61) (tgt := 26) C dX1_nextToHold_61 (by decide) ?_
              exact ih26 (i + 1) (by omega) (fun k hk => by rcases Nat.lt_succ_iff_lt_or_eq.mp hk with g | g; exact hq k g; subst g; exact Or.inl h4) (by omega)
            · refine r_zneN (pc := 39) (tgt := 58) C (by omega) dX1_nextToHold_39 (by decide) (fun h => absurd h (by decide)) (fun _ => ?_)
              refine r_aln (pc := 42) C 0 rfl dX1_nextToHold_42 ?_
              refine r_iln (pc := 43) C 1 rfl dX1_nextToHold_43 ?_
              refine r_aln (pc := 44) C 0 rfl dX1_nextToHold_44 ?_
              refine r_get (pc := 45) C iX1_nextToHold_X1 0 rfl rfl 5 (by decide) (mw 3 rfl) rfl rfl dX1_nextToHold_45 ?_
              refine r_iln (pc := 48) C 1 rfl dX1_nextToHold_48 ?_
              refine r_ialI (pc := 49) C 3 rfl (by omega) (by decide) dX1_nextToHold_49 ?_
              refine c_RV (pc := 50) (As := [.int (nI i), .int (ptr i)]) (wc := [(q, cPl pn (nI a0) qf qt qb qr ph qhf qht pl pm pb qs), (qf, aN (cT 0) 16 pfr), (qt, aN (cT 0) 16 pto), (qhf, aN (cT 0) 4 phf), (qht, aN (cT 0) 4 pht)]) (qr := 0) C (k_X1_fits l D cT q pn (nI a0) qf qt qb qr ph qhf qht pl pm pb qs pfr pto phf pht i (ptr i) (by first | assumption | omega) (by first | assumption | omega)) (cwV 2 C.1.2.2.2.2 gX1_nextToHold_X1_fits rfl rfl rfl n_X1_fits ⟨Nat.le_of_ble_eq_true rfl, Nat.le_of_ble_eq_true rfl⟩) [0, 1, 2, 4, 5] rfl rfl rfl rfl rfl (Nat.le_of_ble_eq_true rfl) ⟨Nat.zero_le _, Nat.zero_le _⟩ dX1_nextToHold_50 (fun r50 h5 => ?_)
              rcases h5 with ⟨rfl, h5⟩ | ⟨rfl, h5⟩
              · refine r_zneN (pc := 53) (tgt := 58) C (by omega) dX1_nextToHold_53 (by decide) (fun _ => ?_) (fun h => absurd h (by decide))
                refine r_incN (pc := 58) C 1 [1, 0] [(0, .ref q), (1, .int (nI (i + 1)))] rfl (by decide) rfl dX1_nextToHold_58 ?_
                refine r_goto (pc := 61) (tgt := 26) C dX1_nextToHold_61 (by decide) ?_
                exact ih26 (i + 1) (by omega) (fun k hk => by rcases Nat.lt_succ_iff_lt_or_eq.mp hk with g | g; exact hq k g; subst g; exact Or.inr h5) (by omega)
              · refine r_zneN (pc := 53) (tgt := 58) C (by omega) dX1_nextToHold_53 (by decide) (fun h => absurd h (by decide)) (fun _ => ?_)
                refine r_iln (pc := 56) C 1 rfl dX1_nextToHold_56 ?_
                subst hQ
                exact e_iR C hr hk (Or.inr ⟨i, rfl, by omega, h4⟩) dX1_nextToHold_57
      exact L26 _ 0 (Nat.zero_le _) (fun k hk => absurd hk (Nat.not_lt_zero _)) (Nat.lt_succ_self _)
    · refine r_zneN (pc := 16) (tgt := 24) C (by omega) dX1_nextToHold_16 (by decide) (fun h => absurd h (by decide)) (fun _ => ?_)
      refine r_aln (pc := 19) C 0 rfl dX1_nextToHold_19 ?_
      refine r_get (pc := 20) C iX1_nextToHold_X1 0 rfl rfl 1 (by decide) (mw 1 rfl) rfl rfl dX1_nextToHold_20 ?_
      subst hQ
      exact e_iR C hr hk (Or.inr ⟨a0, rfl, ha0, h3⟩) dX1_nextToHold_23

theorem iX1_isTrialLower_X1 : ∀ w ∈ u_ws RX1 TX1 13, w ∈ wsX1_isTrialLower := by decide +kernel
abbrev rmX1_isTrialLower : Room := { frames := 0, cells := 0, slots := 0, locals := 0 }
theorem n_X1_isTrialLower : yX1_isTrialLower.cls = RX1 ∧ yX1_isTrialLower.cls ≠ "java/lang/invoke/MethodHandle" ∧ yX1_isTrialLower.cls ≠ "java/lang/invoke/VarHandle" ∧ (parseMethodDescriptor yX1_isTrialLower.desc).map (fun d => d.parameters.length) = some 0 := by decide +kernel
set_option maxHeartbeats 4000000 in
set_option maxRecDepth 100000 in
theorem k_X1_isTrialLower (l : Launch) (D : va_G) (cT : Nat → ClassId) (q pn : Nat) (pa : Int32) (qf qt qb qr ph qhf qht pl pm : Nat) (pb : Int32) (qs : Nat) (ptr pbs : Nat → Int32) (hn16 : pn ≤ 16) : MR l D cT yX1_isTrialLower wsX1_isTrialLower rmX1_isTrialLower [.ref q] [(q, cPl pn pa qf qt qb qr ph qhf qht pl pm pb qs), (qr, aI (cT 0) 16 ptr), (qs, aI (cT 0) 16 pbs)] (fun r => (r = nI 1 ∧ Low pn ptr pbs) ∨ (r = nI 0 ∧ ¬ Low pn ptr pbs)) := by
  refine m_R [(0, .ref q)] (by decide +kernel) rfl (Nat.le_of_ble_eq_true rfl) rfl ?_
  intro p e s m args below meth c C hr hk
  generalize hQ : MQ below (vp_Si _) args s 0 0 (fun _ => False) = Q
  refine r_ic (pc := 0) (v := nI 0) C rfl dX1_isTrialLower_0 ?_
  refine r_isn (pc := 1) C [1, 0] [(0, .ref q), (1, .int (nI 0))] rfl (by decide) rfl dX1_isTrialLower_1 ?_
  have L2 : ∀ (n2 : Nat) (i : Nat) (hi2 : i ≤ pn) (hq : ∀ d, d < i → ptr d = pbs d), pn - i < n2 → RW p l e (headSpec wsX1_isTrialLower rmX1_isTrialLower).room s m args below meth c (IR s D) 2 0 0 Q [(q, cPl pn pa qf qt qb qr ph qhf qht pl pm pb qs), (qr, aI (cT 0) 16 ptr), (qs, aI (cT 0) 16 pbs)] 2 [(0, .ref q), (1, .int (nI i))] [] := by
    intro n2
    induction n2 with
    | zero => intro i hi2 hq hn2; exact absurd hn2 (Nat.not_lt_zero _)
    | succ n2 ih2 =>
      intro i hi2 hq hn2
      refine r_iln (pc := 2) C 1 rfl dX1_isTrialLower_2 ?_
      refine r_aln (pc := 3) C 0 rfl dX1_isTrialLower_3 ?_
      refine r_get (pc := 4) C iX1_isTrialLower_X1 0 rfl rfl 0 (by decide) (mw 1 rfl) rfl rfl dX1_isTrialLower_4 ?_
      refine r_cgeN (pc := 7) (tgt := 52) C (by omega) (by omega) dX1_isTrialLower_7 (by decide) (fun c7 => ?_) (fun c7 => ?_)
      · refine r_ic (pc := 52) (v := nI 0) C rfl dX1_isTrialLower_52 ?_
        subst hQ
        exact e_zR C hr hk rfl (Or.inr ⟨rfl, low_no2 (fun d hd => hq d (by omega))⟩) dX1_isTrialLower_53
      · refine r_aln (pc := 10) C 0 rfl dX1_isTrialLower_10 ?_
        refine r_get (pc := 11) C iX1_isTrialLower_X1 0 rfl rfl 5 (by decide) (mw 2 rfl) rfl rfl dX1_isTrialLower_11 ?_
        refine r_iln (pc := 14) C 1 rfl dX1_isTrialLower_14 ?_
        refine r_ialI (pc := 15) C 1 rfl (by omega) (by decide) dX1_isTrialLower_15 ?_
        refine r_aln (pc := 16) C 0 rfl dX1_isTrialLower_16 ?_
        refine r_get (pc := 17) C iX1_isTrialLower_X1 0 rfl rfl 12 (by decide) (mw 3 rfl) rfl rfl dX1_isTrialLower_17 ?_
        refine r_iln (pc := 20) C 1 rfl dX1_isTrialLower_20 ?_
        refine r_ialI (pc := 21) C 2 rfl (by omega) (by decide) dX1_isTrialLower_21 ?_
        refine r_ceq (pc := 22) (tgt := 46) C dX1_isTrialLower_22 (by decide) (fun c22 => ?_) (fun c22 => ?_)
        · refine r_incN (pc := 46) C 1 [1, 0] [(0, .ref q), (1, .int (nI (i + 1)))] rfl (by decide) rfl dX1_isTrialLower_46 ?_
          refine r_goto (pc := 49) (tgt := 2) C dX1_isTrialLower_49 (by decide) ?_
          exact ih2 (i + 1) (by omega) (fun k hk => by rcases Nat.lt_succ_iff_lt_or_eq.mp hk with g | g; exact hq k g; subst g; exact c22) (by omega)
        · refine r_aln (pc := 25) C 0 rfl dX1_isTrialLower_25 ?_
          refine r_get (pc := 26) C iX1_isTrialLower_X1 0 rfl rfl 5 (by decide) (mw 2 rfl) rfl rfl dX1_isTrialLower_26 ?_
          refine r_iln (pc := 29) C 1 rfl dX1_isTrialLower_29 ?_
          refine r_ialI (pc := 30) C 1 rfl (by omega) (by decide) dX1_isTrialLower_30 ?_
          refine r_aln (pc := 31) C 0 rfl dX1_isTrialLower_31 ?_
          refine r_get (pc := 32) C iX1_isTrialLower_X1 0 rfl rfl 12 (by decide) (mw 3 rfl) rfl rfl dX1_isTrialLower_32 ?_
          refine r_iln (pc := 35) C 1 rfl dX1_isTrialLower_35 ?_
          refine r_ialI (pc := 36) C 2 rfl (by omega) (by decide) dX1_isTrialLower_36 ?_
          refine r_cge (pc := 37) (tgt := 44) C dX1_isTrialLower_37 (by decide) (fun c37 => ?_) (fun c37 => ?_)
          · refine r_ic (pc := 44) (v := nI 0) C rfl dX1_isTrialLower_44 ?_
            subst hQ
            exact e_zR C hr hk rfl (Or.inr ⟨rfl, low_no hq c22 c37⟩) dX1_isTrialLower_45
          · refine r_ic (pc := 40) (v := nI 1) C rfl dX1_isTrialLower_40 ?_
            refine r_goto (pc := 41) (tgt := 45) C dX1_isTrialLower_41 (by decide) ?_
            subst hQ
            exact e_zR C hr hk rfl (Or.inl ⟨rfl, i, by omega, i_lt_of c37, hq⟩) dX1_isTrialLower_45
  exact L2 _ 0 (Nat.zero_le _) (fun k hk => absurd hk (Nat.not_lt_zero _)) (Nat.lt_succ_self _)

theorem iX1_keepIfBetter_X1 : ∀ w ∈ u_ws RX1 TX1 13, w ∈ wsX1_keepIfBetter := by decide +kernel
abbrev rmX1_keepIfBetter : Room := { frames := 1, cells := 0, slots := 0, locals := 64 }
theorem n_X1_keepIfBetter : yX1_keepIfBetter.cls = RX1 ∧ yX1_keepIfBetter.cls ≠ "java/lang/invoke/MethodHandle" ∧ yX1_keepIfBetter.cls ≠ "java/lang/invoke/VarHandle" ∧ (parseMethodDescriptor yX1_keepIfBetter.desc).map (fun d => d.parameters.length) = some 1 := by decide +kernel
set_option maxHeartbeats 4000000 in
set_option maxRecDepth 100000 in
theorem k_X1_keepIfBetter (l : Launch) (D : va_G) (cT : Nat → ClassId) (q pn : Nat) (pa : Int32) (qf qt qb qr ph qhf qht pl pm : Nat) (pb : Int32) (qs : Nat) (ptr pbs : Nat → Int32) (mo : Nat) (hn16 : pn ≤ 16) (hmo : mo ≤ 16) : MWv (S := Nat × Int32 × (Nat → Int32)) l D cT yX1_keepIfBetter wsX1_keepIfBetter rmX1_keepIfBetter [.ref q, .int (nI mo)] [(q, cPl pn pa qf qt qb qr ph qhf qht pl pm pb qs), (qr, aI (cT 0) 16 ptr), (qs, aI (cT 0) 16 pbs)] (fun u => ((pb = -1 ∨ nI mo < pb ∨ Low pn ptr pbs) ∧ u.2.1 = nI mo ∧ u.1 = mo ∧ ∀ k, k < 16 → u.2.2 k = ptr k) ∨ (¬ (pb = -1 ∨ nI mo < pb ∨ Low pn ptr pbs) ∧ u.2.1 = pb ∧ u.1 = pm ∧ u.2.2 = pbs)) (fun u => [(q, cPl pn pa qf qt qb qr ph qhf qht pl u.1 u.2.1 qs), (qr, aI (cT 0) 16 ptr), (qs, aI (cT 0) 16 u.2.2)]) 0 0 := by
  refine m_Wv [(0, .ref q), (1, .int (nI mo))] (by decide +kernel) rfl (Nat.le_of_ble_eq_true rfl) rfl ?_
  intro p e s m args below meth c A hAe C hA hr hk hnm_
  generalize hQ : MQ below (va_Qv _ _ A) args s 0 0 A = Q
  refine r_aln (pc := 0) C 0 rfl dX1_keepIfBetter_0 ?_
  refine r_get (pc := 1) C iX1_keepIfBetter_X1 0 rfl rfl 11 (by decide) (mw 1 rfl) rfl rfl dX1_keepIfBetter_1 ?_
  refine r_ic (pc := 4) (v := (-1)) C rfl dX1_keepIfBetter_4 ?_
  refine r_ceq (pc := 5) (tgt := 23) C dX1_keepIfBetter_5 (by decide) (fun c5 => ?_) (fun c5 => ?_)
  · refine r_aln (pc := 23) C 0 rfl dX1_keepIfBetter_23 ?_
    refine r_iln (pc := 24) C 1 rfl dX1_keepIfBetter_24 ?_
    refine r_put (pc := 25) (ws2 := [(q, cPl pn pa qf qt qb qr ph qhf qht pl pm (nI mo) qs), (qr, aI (cT 0) 16 ptr), (qs, aI (cT 0) 16 pbs)]) C iX1_keepIfBetter_X1 tyX1_ok nmX1 0 rfl rfl 11 (by decide) (mw 1 rfl) rfl rfl rfl rfl (Nat.le_of_ble_eq_true rfl) rfl dX1_keepIfBetter_25 ?_
    refine r_aln (pc := 28) C 0 rfl dX1_keepIfBetter_28 ?_
    refine r_iln (pc := 29) C 1 rfl dX1_keepIfBetter_29 ?_
    refine r_put (pc := 30) (ws2 := [(q, cPl pn pa qf qt qb qr ph qhf qht pl mo (nI mo) qs), (qr, aI (cT 0) 16 ptr), (qs, aI (cT 0) 16 pbs)]) C iX1_keepIfBetter_X1 tyX1_ok nmX1 0 rfl rfl 10 (by decide) (mw 2 rfl) rfl rfl rfl rfl (Nat.le_of_ble_eq_true rfl) rfl dX1_keepIfBetter_30 ?_
    refine r_aln (pc := 33) C 0 rfl dX1_keepIfBetter_33 ?_
    refine r_get (pc := 34) C iX1_keepIfBetter_X1 0 rfl rfl 5 (by decide) (mw 3 rfl) rfl rfl dX1_keepIfBetter_34 ?_
    refine r_ic (pc := 37) (v := nI 0) C rfl dX1_keepIfBetter_37 ?_
    refine r_aln (pc := 38) C 0 rfl dX1_keepIfBetter_38 ?_
    refine r_get (pc := 39) C iX1_keepIfBetter_X1 0 rfl rfl 12 (by decide) (mw 4 rfl) rfl rfl dX1_keepIfBetter_39 ?_
    refine r_ic (pc := 42) (v := nI 0) C rfl dX1_keepIfBetter_42 ?_
    refine r_bi (pc := 43) (v := nI 16) C rfl dX1_keepIfBetter_43 ?_
    refine r_acpI (pc := 45) (ws2 := [(q, cPl pn pa qf qt qb qr ph qhf qht pl mo (nI mo) qs), (qr, aI (cT 0) 16 ptr), (qs, aI (cT 0) 16 (va_cpy ptr pbs 0 0 16))]) C 1 2 rfl rfl (by decide) (by decide) (mw 5 rfl) (mw 6 rfl) (mw 7 rfl) (mw 8 rfl) (Nat.le_of_ble_eq_true rfl) (Nat.le_of_ble_eq_true rfl) rfl dX1_keepIfBetter_45 ?_
    subst hQ
    exact e_vW C hr hk (Nat.le_refl _) (Nat.le_refl _) ⟨mo, nI mo, va_cpy ptr pbs 0 0 16⟩ rfl (Or.inl ⟨Or.inl c5, rfl, rfl, fun k hk => by show va_cpy ptr pbs 0 0 16 k = ptr k; rw [pk_cpy_in (Nat.zero_le _) (by omega)]; congr 1; omega⟩) dX1_keepIfBetter_48
  · refine r_iln (pc := 8) C 1 rfl dX1_keepIfBetter_8 ?_
    refine r_aln (pc := 9) C 0 rfl dX1_keepIfBetter_9 ?_
    refine r_get (pc := 10) C iX1_keepIfBetter_X1 0 rfl rfl 11 (by decide) (mw 1 rfl) rfl rfl dX1_keepIfBetter_10 ?_
    refine r_clt (pc := 13) (tgt := 23) C dX1_keepIfBetter_13 (by decide) (fun c13 => ?_) (fun c13 => ?_)
    · refine r_aln (pc := 23) C 0 rfl dX1_keepIfBetter_23 ?_
      refine r_iln (pc := 24) C 1 rfl dX1_keepIfBetter_24 ?_
      refine r_put (pc := 25) (ws2 := [(q, cPl pn pa qf qt qb qr ph qhf qht pl pm (nI mo) qs), (qr, aI (cT 0) 16 ptr), (qs, aI (cT 0) 16 pbs)]) C iX1_keepIfBetter_X1 tyX1_ok nmX1 0 rfl rfl 11 (by decide) (mw 1 rfl) rfl rfl rfl rfl (Nat.le_of_ble_eq_true rfl) rfl dX1_keepIfBetter_25 ?_
      refine r_aln (pc := 28) C 0 rfl dX1_keepIfBetter_28 ?_
      refine r_iln (pc := 29) C 1 rfl dX1_keepIfBetter_29 ?_
      refine r_put (pc := 30) (ws2 := [(q, cPl pn pa qf qt qb qr ph qhf qht pl mo (nI mo) qs), (qr, aI (cT 0) 16 ptr), (qs, aI (cT 0) 16 pbs)]) C iX1_keepIfBetter_X1 tyX1_ok nmX1 0 rfl rfl 10 (by decide) (mw 2 rfl) rfl rfl rfl rfl (Nat.le_of_ble_eq_true rfl) rfl dX1_keepIfBetter_30 ?_
      refine r_aln (pc := 33) C 0 rfl dX1_keepIfBetter_33 ?_
      refine r_get (pc := 34) C iX1_keepIfBetter_X1 0 rfl rfl 5 (by decide) (mw 3 rfl) rfl rfl dX1_keepIfBetter_34 ?_
      refine r_ic (pc := 37) (v := nI 0) C rfl dX1_keepIfBetter_37 ?_
      refine r_aln (pc := 38) C 0 rfl dX1_keepIfBetter_38 ?_
      refine r_get (pc := 39) C iX1_keepIfBetter_X1 0 rfl rfl 12 (by decide) (mw 4 rfl) rfl rfl dX1_keepIfBetter_39 ?_
      refine r_ic (pc := 42) (v := nI 0) C rfl dX1_keepIfBetter_42 ?_
      refine r_bi (pc := 43) (v := nI 16) C rfl dX1_keepIfBetter_43 ?_
      refine r_acpI (pc := 45) (ws2 := [(q, cPl pn pa qf qt qb qr ph qhf qht pl mo (nI mo) qs), (qr, aI (cT 0) 16 ptr), (qs, aI (cT 0) 16 (va_cpy ptr pbs 0 0 16))]) C 1 2 rfl rfl (by decide) (by decide) (mw 5 rfl) (mw 6 rfl) (mw 7 rfl) (mw 8 rfl) (Nat.le_of_ble_eq_true rfl) (Nat.le_of_ble_eq_true rfl) rfl dX1_keepIfBetter_45 ?_
      subst hQ
      exact e_vW C hr hk (Nat.le_refl _) (Nat.le_refl _) ⟨mo, nI mo, va_cpy ptr pbs 0 0 16⟩ rfl (Or.inl ⟨Or.inr (Or.inl c13), rfl, rfl, fun k hk => by show va_cpy ptr pbs 0 0 16 k = ptr k; rw [pk_cpy_in (Nat.zero_le _) (by omega)]; congr 1; omega⟩) dX1_keepIfBetter_48
    · refine r_aln (pc := 16) C 0 rfl dX1_keepIfBetter_16 ?_
      refine c_RV (pc := 17) (As := []) (wc := [(q, cPl pn pa qf qt qb qr ph qhf qht pl pm pb qs), (qr, aI (cT 0) 16 ptr), (qs, aI (cT 0) 16 pbs)]) (qr := 0) C (k_X1_isTrialLower l D cT q pn pa qf qt qb qr ph qhf qht pl pm pb qs ptr pbs (by first | assumption | omega)) (cwV 0 C.1.2.2.2.2 gX1_keepIfBetter_X1_isTrialLower rfl rfl rfl n_X1_isTrialLower ⟨Nat.le_of_ble_eq_true rfl, Nat.le_of_ble_eq_true rfl⟩) [0, 1, 2] rfl rfl rfl rfl rfl (Nat.le_of_ble_eq_true rfl) ⟨Nat.zero_le _, Nat.zero_le _⟩ dX1_keepIfBetter_17 (fun r17 h1 => ?_)
      rcases h1 with ⟨rfl, h1⟩ | ⟨rfl, h1⟩
      · refine r_zeqN (pc := 20) (tgt := 48) C (by omega) dX1_keepIfBetter_20 (by decide) (fun h => absurd h (by decide)) (fun _ => ?_)
        refine r_aln (pc := 23) C 0 rfl dX1_keepIfBetter_23 ?_
        refine r_iln (pc := 24) C 1 rfl dX1_keepIfBetter_24 ?_
        refine r_put (pc := 25) (ws2 := [(q, cPl pn pa qf qt qb qr ph qhf qht pl pm (nI mo) qs), (qr, aI (cT 0) 16 ptr), (qs, aI (cT 0) 16 pbs)]) C iX1_keepIfBetter_X1 tyX1_ok nmX1 0 rfl rfl 11 (by decide) (mw 1 rfl) rfl rfl rfl rfl (Nat.le_of_ble_eq_true rfl) rfl dX1_keepIfBetter_25 ?_
        refine r_aln (pc := 28) C 0 rfl dX1_keepIfBetter_28 ?_
        refine r_iln (pc := 29) C 1 rfl dX1_keepIfBetter_29 ?_
        refine r_put (pc := 30) (ws2 := [(q, cPl pn pa qf qt qb qr ph qhf qht pl mo (nI mo) qs), (qr, aI (cT 0) 16 ptr), (qs, aI (cT 0) 16 pbs)]) C iX1_keepIfBetter_X1 tyX1_ok nmX1 0 rfl rfl 10 (by decide) (mw 2 rfl) rfl rfl rfl rfl (Nat.le_of_ble_eq_true rfl) rfl dX1_keepIfBetter_30 ?_
        refine r_aln (pc := 33) C 0 rfl dX1_keepIfBetter_33 ?_
        refine r_get (pc := 34) C iX1_keepIfBetter_X1 0 rfl rfl 5 (by decide) (mw 3 rfl) rfl rfl dX1_keepIfBetter_34 ?_
        refine r_ic (pc := 37) (v := nI 0) C rfl dX1_keepIfBetter_37 ?_
        refine r_aln (pc := 38) C 0 rfl dX1_keepIfBetter_38 ?_
        refine r_get (pc := 39) C iX1_keepIfBetter_X1 0 rfl rfl 12 (by decide) (mw 4 rfl) rfl rfl dX1_keepIfBetter_39 ?_
        refine r_ic (pc := 42) (v := nI 0) C rfl dX1_keepIfBetter_42 ?_
        refine r_bi (pc := 43) (v := nI 16) C rfl dX1_keepIfBetter_43 ?_
        refine r_acpI (pc := 45) (ws2 := [(q, cPl pn pa qf qt qb qr ph qhf qht pl mo (nI mo) qs), (qr, aI (cT 0) 16 ptr), (qs, aI (cT 0) 16 (va_cpy ptr pbs 0 0 16))]) C 1 2 rfl rfl (by decide) (by decide) (mw 5 rfl) (mw 6 rfl) (mw 7 rfl) (mw 8 rfl) (Nat.le_of_ble_eq_true rfl) (Nat.le_of_ble_eq_true rfl) rfl dX1_keepIfBetter_45 ?_
        subst hQ
        exact e_vW C hr hk (Nat.le_refl _) (Nat.le_refl _) ⟨mo, nI mo, va_cpy ptr pbs 0 0 16⟩ rfl (Or.inl ⟨Or.inr (Or.inr h1), rfl, rfl, fun k hk => by show va_cpy ptr pbs 0 0 16 k = ptr k; rw [pk_cpy_in (Nat.zero_le _) (by omega)]; congr 1; omega⟩) dX1_keepIfBetter_48
      · refine r_zeqN (pc := 20) (tgt := 48) C (by omega) dX1_keepIfBetter_20 (by decide) (fun _ => ?_) (fun h => absurd h (by decide))
        subst hQ
        exact e_vW C hr hk (Nat.le_refl _) (Nat.le_refl _) ⟨pm, pb, pbs⟩ rfl (Or.inr ⟨fun g => g.elim c5 (fun g => g.elim c13 h1), rfl, rfl, rfl⟩) dX1_keepIfBetter_48

theorem iX1_settle_X1 : ∀ w ∈ u_ws RX1 TX1 13, w ∈ wsX1_settle := by decide +kernel
abbrev rmX1_settle (r : Nat) : Room := { frames := r + 8, cells := 0, slots := 0, locals := 25 * r + 200 }
theorem n_X1_settle : yX1_settle.cls ≠ "java/lang/invoke/MethodHandle" ∧ yX1_settle.cls ≠ "java/lang/invoke/VarHandle" ∧ (parseMethodDescriptor yX1_settle.desc).map (fun d => d.parameters.length) = some 3 := by decide +kernel
set_option maxHeartbeats 4000000 in
set_option maxRecDepth 100000 in
theorem k_X1_settle (l : Launch) (D : va_G) (cT : Nat → ClassId) : ∀ (r : Nat) (q pn : Nat) (pa : Int32) (qf qt qb qr ph qhf qht pl pm : Nat) (pb : Int32) (qs : Nat) (pfr pto : Nat → Nat) (pbf ptr : Nat → Int32) (phf pht : Nat → Nat) (pbs : Nat → Int32) (dp mo : Nat) (lim0 : Nat) (hr0 : 16 < dp + r) (hP : PQ pn ph pl pm pfr pto phf pht) (hI : PI pn pa (fun j => pl.testBit j) pfr pto pbf (HD ph) ptr phf pht) (hB : PB pn pa pfr pto pbf) (ha : pa = -1 ∨ ∃ a0, pa = nI a0 ∧ a0 < pn) (hd : dp = hct pn (HD ph)) (hmo : mo = hmv pn pbf (HD ph) ptr) (hJ : JB pn (fun j => pl.testBit j) pfr pto pbf lim0 pm pb pbs) (hl0 : lim0 ≤ 16), MWv (S := (Nat → Int32) × Nat × Int32 × (Nat → Int32)) l D cT yX1_settle wsX1_settle (rmX1_settle r) [.ref q, .int (nI dp), .int (nI mo)] [(q, cPl pn pa qf qt qb qr ph qhf qht pl pm pb qs), (qf, aN (cT 0) 16 pfr), (qt, aN (cT 0) 16 pto), (qb, aI (cT 0) 16 pbf), (qr, aI (cT 0) 16 ptr), (qhf, aN (cT 0) 4 phf), (qht, aN (cT 0) 4 pht), (qs, aI (cT 0) 16 pbs)] (fun u => SP pn pa (fun j => pl.testBit j) pfr pto pbf ph ptr lim0 pb pbs u.1 u.2.1 u.2.2.1 u.2.2.2) (fun u => [(q, cPl pn pa qf qt qb qr ph qhf qht pl u.2.1 u.2.2.1 qs), (qf, aN (cT 0) 16 pfr), (qt, aN (cT 0) 16 pto), (qb, aI (cT 0) 16 pbf), (qr, aI (cT 0) 16 u.1), (qhf, aN (cT 0) 4 phf), (qht, aN (cT 0) 4 pht), (qs, aI (cT 0) 16 u.2.2.2)]) 0 0 := by
  intro r
  induction r with
  | zero => intro q pn pa qf qt qb qr ph qhf qht pl pm pb qs pfr pto pbf ptr phf pht pbs dp mo lim0 hr0 hP hI hB ha hd hmo hJ hl0; exact absurd (Nat.le_trans (hct_le pn (HD ph)) hP.1) (by omega)
  | succ r ih =>
    intro q pn pa qf qt qb qr ph qhf qht pl pm pb qs pfr pto pbf ptr phf pht pbs dp mo lim0 hr0 hP hI hB ha hd hmo hJ hl0
    refine m_Wv [(0, .ref q), (1, .int (nI dp)), (2, .int (nI mo))] (by decide +kernel) rfl (Nat.le_of_ble_eq_true rfl) rfl ?_
    intro p e s m args below meth c A hAe C hA hr hk hnm_
    generalize hQ : MQ below (va_Qv _ _ A) args s 0 0 A = Q
    obtain ⟨hn16, hph, hpl, hpm, hfr, hhf⟩ := id hP
    have hdl := hct_le pn (HD ph)
    have hmol : mo ≤ 16 := by rw [hmo]; exact Nat.le_trans (hmv_le _ _ _ _) hn16
    refine r_iln (pc := 0) C 1 rfl dX1_settle_0 ?_
    refine r_bi (pc := 1) (v := nI 16) C rfl dX1_settle_1 ?_
    refine r_cgtN (pc := 3) (tgt := 14) C (by omega) (by omega) dX1_settle_3 (by decide) (fun c3 => absurd c3 (by omega)) (fun c3 => ?_)
    refine r_iln (pc := 6) C 2 rfl dX1_settle_6 ?_
    refine r_aln (pc := 7) C 0 rfl dX1_settle_7 ?_
    refine r_get (pc := 8) C iX1_settle_X1 0 rfl rfl 10 (by decide) (mw 1 rfl) rfl rfl dX1_settle_8 ?_
    refine r_cleN (pc := 11) (tgt := 15) C (by omega) (by omega) dX1_settle_11 (by decide) (fun c11 => ?_) (fun c11 => ?_)
    · refine r_aln (pc := 15) C 0 rfl dX1_settle_15 ?_
      refine c_RV (pc := 16) (As := []) (wc := [(q, cPl pn pa qf qt qb qr ph qhf qht pl pm pb qs), (qf, aN (cT 0) 16 pfr), (qt, aN (cT 0) 16 pto), (qr, aI (cT 0) 16 ptr), (qhf, aN (cT 0) 4 phf), (qht, aN (cT 0) 4 pht)]) (qr := 0) C (k_X1_nextToHold l D cT q pn pa qf qt qb qr ph qhf qht pl pm pb qs pfr pto ptr phf pht (by first | assumption | omega) (by first | assumption | omega)) (cwV 0 C.1.2.2.2.2 gX1_settle_X1_nextToHold rfl rfl rfl n_X1_nextToHold ⟨(by show 1 + 1 ≤ r + 1 + 8; omega), (by show 8 + (2 + 11) + 22 ≤ 25 * (r + 1) + 200; omega)⟩) [0, 1, 2, 4, 5, 6] rfl rfl rfl rfl rfl (Nat.le_of_ble_eq_true rfl) ⟨Nat.zero_le _, Nat.zero_le _⟩ dX1_settle_16 (fun r16 h1 => ?_)
      rcases h1 with ⟨rfl, h1a, h1b⟩ | ⟨h1k, rfl, h1l, h1⟩
      · refine r_isn (pc := 19) C [1, 2, 3, 0] [(0, .ref q), (1, .int (nI dp)), (2, .int (nI mo)), (3, .int (-1))] rfl (by decide) rfl dX1_settle_19 ?_
        refine r_iln (pc := 20) C 3 rfl dX1_settle_20 ?_
        refine r_ic (pc := 21) (v := (-1)) C rfl dX1_settle_21 ?_
        refine r_cne (pc := 22) (tgt := 31) C dX1_settle_22 (by decide) (fun c22 => absurd c22 (by exact fun h => h rfl)) (fun c22 => ?_)
        refine r_aln (pc := 25) C 0 rfl dX1_settle_25 ?_
        refine r_iln (pc := 26) C 2 rfl dX1_settle_26 ?_
        refine c_WVv (pc := 27) (As := [.int (nI mo)]) (wc := [(q, cPl pn pa qf qt qb qr ph qhf qht pl pm pb qs), (qr, aI (cT 0) 16 ptr), (qs, aI (cT 0) 16 pbs)]) (wr := [(qf, aN (cT 0) 16 pfr), (qt, aN (cT 0) 16 pto), (qb, aI (cT 0) 16 pbf), (qhf, aN (cT 0) 4 phf), (qht, aN (cT 0) 4 pht)]) (qr := 0) C hA (k_X1_keepIfBetter l D cT q pn pa qf qt qb qr ph qhf qht pl pm pb qs ptr pbs mo hn16 hmol) (cwV 1 C.1.2.2.2.2 gX1_settle_X1_keepIfBetter rfl rfl rfl n_X1_keepIfBetter ⟨(by show 1 + 1 ≤ r + 1 + 8; omega), (by show 8 + (2 + 11) + 64 ≤ 25 * (r + 1) + 200; omega)⟩) rfl rfl [0, 4, 7] [1, 2, 3, 5, 6] rfl rfl ⟨by decide, by decide⟩ (by decide) [5, 0, 1, 2, 6, 3, 4, 7] (fun u3 => [(q, cPl pn pa qf qt qb qr ph qhf qht pl u3.1 u3.2.1 qs), (qf, aN (cT 0) 16 pfr), (qt, aN (cT 0) 16 pto), (qb, aI (cT 0) 16 pbf), (qr, aI (cT 0) 16 ptr), (qhf, aN (cT 0) 4 phf), (qht, aN (cT 0) 4 pht), (qs, aI (cT 0) 16 u3.2.2)]) (fun _ => rfl) (by decide) rfl rfl (Nat.le_of_ble_eq_true rfl) ⟨Nat.zero_le _, Nat.zero_le _⟩ dX1_settle_27 (fun u3 h2 => ?_)
        have hK := sp_keep hn16 hI hB h1a h1b hJ hmo c11 h2
        subst hQ
        exact e_vW C hr hk (Nat.le_refl _) (Nat.le_refl _) ⟨ptr, u3.1, u3.2.1, u3.2.2⟩ rfl hK dX1_settle_30
      · have hkk := h1l
        have hun := h1
        refine r_isn (pc := 19) C [1, 2, 3, 0] [(0, .ref q), (1, .int (nI dp)), (2, .int (nI mo)), (3, .int (nI h1k))] rfl (by decide) rfl dX1_settle_19 ?_
        refine r_iln (pc := 20) C 3 rfl dX1_settle_20 ?_
        refine r_ic (pc := 21) (v := (-1)) C rfl dX1_settle_21 ?_
        refine r_cne (pc := 22) (tgt := 31) C dX1_settle_22 (by decide) (fun c22 => ?_) (fun c22 => absurd c22 (by exact nI_m1 (by omega)))
        refine r_ic (pc := 31) (v := nI 0) C rfl dX1_settle_31 ?_
        refine r_is (pc := 32) C [1, 2, 3, 4, 0] [(0, .ref q), (1, .int (nI dp)), (2, .int (nI mo)), (3, .int (nI h1k)), (4, .int (nI 0))] (by decide) rfl dX1_settle_32 ?_
        have L34 : ∀ (n34 : Nat) (mb : Nat) (ptr1 : Nat → Int32) (pm1 : Nat) (pb1 : Int32) (pbs1 : Nat → Int32) (hmb : mb ≤ 4) (hS : SL pn pa (fun j => pl.testBit j) pfr pto pbf ph ptr lim0 pb pbs h1k mb ptr1 pm1 pb1 pbs1), 4 - mb < n34 → RW p l e (headSpec wsX1_settle (rmX1_settle (r + 1))).room s m args below meth c (IW s D A) 6 0 0 Q [(q, cPl pn pa qf qt qb qr ph qhf qht pl pm1 pb1 qs), (qf, aN (cT 0) 16 pfr), (qt, aN (cT 0) 16 pto), (qb, aI (cT 0) 16 pbf), (qr, aI (cT 0) 16 ptr1), (qhf, aN (cT 0) 4 phf), (qht, aN (cT 0) 4 pht), (qs, aI (cT 0) 16 pbs1)] 34 [(0, .ref q), (1, .int (nI dp)), (2, .int (nI mo)), (3, .int (nI h1k)), (4, .int (nI mb))] [] := by
          intro n34
          induction n34 with
          | zero => intro mb ptr1 pm1 pb1 pbs1 hmb hS hn34; exact absurd hn34 (Nat.not_lt_zero _)
          | succ n34 ih34 =>
            intro mb ptr1 pm1 pb1 pbs1 hmb hS hn34
            have hP1 : PQ pn ph pl pm1 pfr pto phf pht := pq_lim hP (Nat.le_trans (jb_le hS.1) hl0)
            refine r_il (pc := 34) C 4 rfl dX1_settle_34 ?_
            refine r_ic (pc := 36) (v := nI 4) C rfl dX1_settle_36 ?_
            refine r_cgeN (pc := 37) (tgt := 117) C (by omega) (by omega) dX1_settle_37 (by decide) (fun c37 => ?_) (fun c37 => ?_)
            · subst hQ
              exact e_vW C hr hk (Nat.le_refl _) (Nat.le_refl _) ⟨ptr1, pm1, pb1, pbs1⟩ rfl (sl_end hkk (by omega) hS) dX1_settle_117
            · refine r_aln (pc := 40) C 0 rfl dX1_settle_40 ?_
              refine r_iln (pc := 41) C 3 rfl dX1_settle_41 ?_
              refine r_il (pc := 42) C 4 rfl dX1_settle_42 ?_
              refine c_RV (pc := 44) (As := [.int (nI h1k), .int (nI mb)]) (wc := [(q, cPl pn pa qf qt qb qr ph qhf qht pl pm1 pb1 qs), (qf, aN (cT 0) 16 pfr), (qt, aN (cT 0) 16 pto), (qhf, aN (cT 0) 4 phf), (qht, aN (cT 0) 4 pht)]) (qr := 0) C (k_X1_fits l D cT q pn pa qf qt qb qr ph qhf qht pl pm1 pb1 qs pfr pto phf pht h1k (nI mb) hP1 (by omega)) (cwV 2 C.1.2.2.2.2 gX1_settle_X1_fits rfl rfl rfl n_X1_fits ⟨(by show 0 + 1 ≤ r + 1 + 8; omega), (by show 8 + (3 + 11) + 0 ≤ 25 * (r + 1) + 200; omega)⟩) [0, 1, 2, 5, 6] rfl rfl rfl rfl rfl (Nat.le_of_ble_eq_true rfl) ⟨Nat.zero_le _, Nat.zero_le _⟩ dX1_settle_44 (fun r44 h4 => ?_)
              rcases h4 with ⟨rfl, h4⟩ | ⟨rfl, h4⟩
              · refine r_zeqN (pc := 47) (tgt := 111) C (by omega) dX1_settle_47 (by decide) (fun h => absurd h (by decide)) (fun _ => ?_)
                refine r_aln (pc := 50) C 0 rfl dX1_settle_50 ?_
                refine r_get (pc := 51) C iX1_settle_X1 0 rfl rfl 4 (by decide) (mw 2 rfl) rfl rfl dX1_settle_51 ?_
                refine r_iln (pc := 54) C 3 rfl dX1_settle_54 ?_
                refine r_ialI (pc := 55) C 3 rfl (by omega) (by decide) dX1_settle_55 ?_
                refine r_ic (pc := 56) (v := (-1)) C rfl dX1_settle_56 ?_
                refine r_ceq (pc := 57) (tgt := 75) C dX1_settle_57 (by decide) (fun c57 => ?_) (fun c57 => ?_)
                · refine r_ic (pc := 75) (v := nI 0) C rfl dX1_settle_75 ?_
                  refine r_is (pc := 76) C [1, 2, 3, 4, 5, 0] [(0, .ref q), (1, .int (nI dp)), (2, .int (nI mo)), (3, .int (nI h1k)), (4, .int (nI mb)), (5, .int (nI 0))] (by decide) rfl dX1_settle_76 ?_
                  refine r_aln (pc := 78) C 0 rfl dX1_settle_78 ?_
                  refine r_iln (pc := 79) C 3 rfl dX1_settle_79 ?_
                  refine r_il (pc := 80) C 4 rfl dX1_settle_80 ?_
                  refine c_WVv (pc := 82) (As := [.int (nI h1k), .int (nI mb)]) (wc := [(q, cPl pn pa qf qt qb qr ph qhf qht pl pm1 pb1 qs), (qf, aN (cT 0) 16 pfr), (qt, aN (cT 0) 16 pto), (qr, aI (cT 0) 16 ptr1), (qhf, aN (cT 0) 4 phf), (qht, aN (cT 0) 4 pht)]) (wr := [(qb, aI (cT 0) 16 pbf), (qs, aI (cT 0) 16 pbs1)]) (qr := 0) C hA (k_X1_hold l D cT q pn pa qf qt qb qr ph qhf qht pl pm1 pb1 qs pfr pto ptr1 phf pht h1k mb hP1 (by omega) (by omega)) (cwV 2 C.1.2.2.2.2 gX1_settle_X1_hold rfl rfl rfl n_X1_hold ⟨(by show 0 + 1 ≤ r + 1 + 8; omega), (by show 8 + (3 + 11) + 0 ≤ 25 * (r + 1) + 200; omega)⟩) rfl rfl [0, 1, 2, 4, 5, 6] [3, 7] rfl rfl ⟨by decide, by decide⟩ (by decide) [2, 3, 4, 0, 5, 6, 7, 1] (fun u6 => [(q, cPl pn pa qf qt qb qr u6.1 qhf qht pl pm1 pb1 qs), (qf, aN (cT 0) 16 pfr), (qt, aN (cT 0) 16 pto), (qb, aI (cT 0) 16 pbf), (qr, aI (cT 0) 16 u6.2.1), (qhf, aN (cT 0) 4 u6.2.2.1), (qht, aN (cT 0) 4 u6.2.2.2), (qs, aI (cT 0) 16 pbs1)]) (fun _ => rfl) (by decide) rfl rfl (Nat.le_of_ble_eq_true rfl) ⟨Nat.zero_le _, Nat.zero_le _⟩ dX1_settle_82 (fun u6 h5 => ?_)
                  obtain ⟨m7, m8, m9, m10⟩ := u6
                  dsimp only at h5
                  obtain ⟨rfl, rfl, rfl, rfl⟩ := h5
                  refine r_aln (pc := 85) C 0 rfl dX1_settle_85 ?_
                  refine r_iln (pc := 86) C 1 rfl dX1_settle_86 ?_
                  refine r_ic (pc := 87) (v := nI 1) C rfl dX1_settle_87 ?_
                  refine r_iaddN (pc := 88) C dX1_settle_88 ?_
                  refine r_il (pc := 89) C 5 rfl dX1_settle_89 ?_
                  refine r_zeqN (pc := 91) (tgt := 100) C (by omega) dX1_settle_91 (by decide) (fun _ => ?_) (fun h => absurd h (by decide))
                  refine r_iln (pc := 100) C 2 rfl dX1_settle_100 ?_
                  refine c_WSv (pc := 101) (As := [.ref q, .int (nI (dp + 1)), .int (nI mo)]) (wc := [(q, cPl pn pa qf qt qb qr (ph ||| 2 ^ h1k) qhf qht pl pm1 pb1 qs), (qf, aN (cT 0) 16 pfr), (qt, aN (cT 0) 16 pto), (qb, aI (cT 0) 16 pbf), (qr, aI (cT 0) 16 (upd ptr1 h1k (nI mb))), (qhf, aN (cT 0) 4 (va_up phf mb (phf mb ||| pfr h1k))), (qht, aN (cT 0) 4 (va_up pht mb (pht mb ||| pto h1k))), (qs, aI (cT 0) 16 pbs1)]) (wr := [])  C hA (ih q pn pa qf qt qb qr (ph ||| 2 ^ h1k) qhf qht pl pm1 pb1 qs pfr pto pbf (upd ptr1 h1k (nI mb)) (va_up phf mb (phf mb ||| pfr h1k)) (va_up pht mb (pht mb ||| pto h1k)) pbs1 (dp + 1) mo lim0 (by omega) (pq_hold hP1 (by omega) (by omega)) (pi_child (pi_same hI hS.2.2.1 hS.2.2.2) hkk hun (by omega) h4) hB ha (by rw [hct_child hkk hun, ← hd]) (by rw [hmv_child hkk hun, hmv_same hS.2.2.1, ← hmo]; unfold mv; rw [if_pos (Or.inl c57)]; rfl) hS.1 hl0) (va_cwS 3 C.1.2.2.2.2 gX1_settle_X1_settle rfl rfl rfl n_X1_settle ⟨(by show r + 8 + 1 ≤ r + 1 + 8; omega), (by show 8 + (6 + 11) + (25 * r + 200) ≤ 25 * (r + 1) + 200; omega)⟩) [0, 1, 2, 3, 4, 5, 6, 7] [] rfl rfl ⟨by decide, by decide⟩ (by decide) [0, 1, 2, 3, 4, 5, 6, 7] (fun u12 => [(q, cPl pn pa qf qt qb qr (ph ||| 2 ^ h1k) qhf qht pl u12.2.1 u12.2.2.1 qs), (qf, aN (cT 0) 16 pfr), (qt, aN (cT 0) 16 pto), (qb, aI (cT 0) 16 pbf), (qr, aI (cT 0) 16 u12.1), (qhf, aN (cT 0) 4 (va_up phf mb (phf mb ||| pfr h1k))), (qht, aN (cT 0) 4 (va_up pht mb (pht mb ||| pto h1k))), (qs, aI (cT 0) 16 u12.2.2.2)]) (fun _ => rfl) (by decide) rfl rfl (Nat.le_of_ble_eq_true rfl) ⟨Nat.zero_le _, Nat.zero_le _⟩ dX1_settle_101 (fun u12 h11 => ?_)
                  refine r_aln (pc := 104) C 0 rfl dX1_settle_104 ?_
                  refine r_iln (pc := 105) C 3 rfl dX1_settle_105 ?_
                  refine r_il (pc := 106) C 4 rfl dX1_settle_106 ?_
                  refine c_WVv (pc := 108) (As := [.int (nI h1k), .int (nI mb)]) (wc := [(q, cPl pn pa qf qt qb qr (ph ||| 2 ^ h1k) qhf qht pl u12.2.1 u12.2.2.1 qs), (qf, aN (cT 0) 16 pfr), (qt, aN (cT 0) 16 pto), (qb, aI (cT 0) 16 pbf), (qr, aI (cT 0) 16 u12.1), (qhf, aN (cT 0) 4 (va_up phf mb (phf mb ||| pfr h1k))), (qht, aN (cT 0) 4 (va_up pht mb (pht mb ||| pto h1k)))]) (wr := [(qs, aI (cT 0) 16 u12.2.2.2)]) (qr := 0) C hA (k_X1_release l D cT q pn pa qf qt qb qr (ph ||| 2 ^ h1k) qhf qht pl u12.2.1 u12.2.2.1 qs pfr pto pbf u12.1 (va_up phf mb (phf mb ||| pfr h1k)) (va_up pht mb (pht mb ||| pto h1k)) h1k mb (pq_lim (pq_hold hP1 (by omega) (by omega)) (Nat.le_trans (jb_le h11.1) hl0)) (by omega) (by omega)) (cwV 2 C.1.2.2.2.2 gX1_settle_X1_release rfl rfl rfl n_X1_release ⟨(by show 0 + 1 ≤ r + 1 + 8; omega), (by show 8 + (3 + 11) + 0 ≤ 25 * (r + 1) + 200; omega)⟩) rfl rfl [0, 1, 2, 3, 4, 5, 6] [7] rfl rfl ⟨by decide, by decide⟩ (by decide) [1, 2, 3, 4, 5, 6, 7, 0] (fun u14 => [(q, cPl pn pa qf qt qb qr u14.1 qhf qht pl u12.2.1 u12.2.2.1 qs), (qf, aN (cT 0) 16 pfr), (qt, aN (cT 0) 16 pto), (qb, aI (cT 0) 16 pbf), (qr, aI (cT 0) 16 u14.2.1), (qhf, aN (cT 0) 4 u14.2.2.1), (qht, aN (cT 0) 4 u14.2.2.2), (qs, aI (cT 0) 16 u12.2.2.2)]) (fun _ => rfl) (by decide) rfl rfl (Nat.le_of_ble_eq_true rfl) ⟨Nat.zero_le _, Nat.zero_le _⟩ dX1_settle_108 (fun u14 h13 => ?_)
                  obtain ⟨m15, m16, m17, m18⟩ := u14
                  dsimp only at h13
                  obtain ⟨rfl, rfl, rfl, rfl⟩ := h13
                  rw [wo_or (and_p2 hun), up_wo (fit_f h4 (by omega)), up_wo (fit_t h4 (by omega))]
                  refine r_incN (pc := 111) C 4 [1, 2, 3, 4, 0, 5] [(0, .ref q), (1, .int (nI dp)), (2, .int (nI mo)), (3, .int (nI h1k)), (4, .int (nI (mb + 1))), (5, .int (nI 0))] rfl (by decide) rfl dX1_settle_111 ?_
                  refine r_goto (pc := 114) (tgt := 34) C dX1_settle_114 (by decide) ?_
                  refine r_lv [0, 1, 2, 3, 4] (lv2 := [(0, .ref q), (1, .int (nI dp)), (2, .int (nI mo)), (3, .int (nI h1k)), (4, .int (nI (mb + 1)))]) rfl ?_
                  exact ih34 (mb + 1) (upd u12.1 h1k (pbf h1k)) u12.2.1 u12.2.2.1 u12.2.2.2 (by omega) (sl_step hkk hun hS h11) (by omega)
                · refine r_aln (pc := 60) C 0 rfl dX1_settle_60 ?_
                  refine r_get (pc := 61) C iX1_settle_X1 0 rfl rfl 4 (by decide) (mw 2 rfl) rfl rfl dX1_settle_61 ?_
                  refine r_iln (pc := 64) C 3 rfl dX1_settle_64 ?_
                  refine r_ialI (pc := 65) C 3 rfl (by omega) (by decide) dX1_settle_65 ?_
                  refine r_il (pc := 66) C 4 rfl dX1_settle_66 ?_
                  refine r_ceq (pc := 68) (tgt := 75) C dX1_settle_68 (by decide) (fun c68 => ?_) (fun c68 => ?_)
                  · refine r_ic (pc := 75) (v := nI 0) C rfl dX1_settle_75 ?_
                    refine r_is (pc := 76) C [1, 2, 3, 4, 5, 0] [(0, .ref q), (1, .int (nI dp)), (2, .int (nI mo)), (3, .int (nI h1k)), (4, .int (nI mb)), (5, .int (nI 0))] (by decide) rfl dX1_settle_76 ?_
                    refine r_aln (pc := 78) C 0 rfl dX1_settle_78 ?_
                    refine r_iln (pc := 79) C 3 rfl dX1_settle_79 ?_
                    refine r_il (pc := 80) C 4 rfl dX1_settle_80 ?_
                    refine c_WVv (pc := 82) (As := [.int (nI h1k), .int (nI mb)]) (wc := [(q, cPl pn pa qf qt qb qr ph qhf qht pl pm1 pb1 qs), (qf, aN (cT 0) 16 pfr), (qt, aN (cT 0) 16 pto), (qr, aI (cT 0) 16 ptr1), (qhf, aN (cT 0) 4 phf), (qht, aN (cT 0) 4 pht)]) (wr := [(qb, aI (cT 0) 16 pbf), (qs, aI (cT 0) 16 pbs1)]) (qr := 0) C hA (k_X1_hold l D cT q pn pa qf qt qb qr ph qhf qht pl pm1 pb1 qs pfr pto ptr1 phf pht h1k mb hP1 (by omega) (by omega)) (cwV 2 C.1.2.2.2.2 gX1_settle_X1_hold rfl rfl rfl n_X1_hold ⟨(by show 0 + 1 ≤ r + 1 + 8; omega), (by show 8 + (3 + 11) + 0 ≤ 25 * (r + 1) + 200; omega)⟩) rfl rfl [0, 1, 2, 4, 5, 6] [3, 7] rfl rfl ⟨by decide, by decide⟩ (by decide) [2, 3, 4, 0, 5, 6, 7, 1] (fun u20 => [(q, cPl pn pa qf qt qb qr u20.1 qhf qht pl pm1 pb1 qs), (qf, aN (cT 0) 16 pfr), (qt, aN (cT 0) 16 pto), (qb, aI (cT 0) 16 pbf), (qr, aI (cT 0) 16 u20.2.1), (qhf, aN (cT 0) 4 u20.2.2.1), (qht, aN (cT 0) 4 u20.2.2.2), (qs, aI (cT 0) 16 pbs1)]) (fun _ => rfl) (by decide) rfl rfl (Nat.le_of_ble_eq_true rfl) ⟨Nat.zero_le _, Nat.zero_le _⟩ dX1_settle_82 (fun u20 h19 => ?_)
                    obtain ⟨m21, m22, m23, m24⟩ := u20
                    dsimp only at h19
                    obtain ⟨rfl, rfl, rfl, rfl⟩ := h19
                    refine r_aln (pc := 85) C 0 rfl dX1_settle_85 ?_
                    refine r_iln (pc := 86) C 1 rfl dX1_settle_86 ?_
                    refine r_ic (pc := 87) (v := nI 1) C rfl dX1_settle_87 ?_
                    refine r_iaddN (pc := 88) C dX1_settle_88 ?_
                    refine r_il (pc := 89) C 5 rfl dX1_settle_89 ?_
                    refine r_zeqN (pc := 91) (tgt := 100) C (by omega) dX1_settle_91 (by decide) (fun _ => ?_) (fun h => absurd h (by decide))
                    refine r_iln (pc := 100) C 2 rfl dX1_settle_100 ?_
                    refine c_WSv (pc := 101) (As := [.ref q, .int (nI (dp + 1)), .int (nI mo)]) (wc := [(q, cPl pn pa qf qt qb qr (ph ||| 2 ^ h1k) qhf qht pl pm1 pb1 qs), (qf, aN (cT 0) 16 pfr), (qt, aN (cT 0) 16 pto), (qb, aI (cT 0) 16 pbf), (qr, aI (cT 0) 16 (upd ptr1 h1k (nI mb))), (qhf, aN (cT 0) 4 (va_up phf mb (phf mb ||| pfr h1k))), (qht, aN (cT 0) 4 (va_up pht mb (pht mb ||| pto h1k))), (qs, aI (cT 0) 16 pbs1)]) (wr := [])  C hA (ih q pn pa qf qt qb qr (ph ||| 2 ^ h1k) qhf qht pl pm1 pb1 qs pfr pto pbf (upd ptr1 h1k (nI mb)) (va_up phf mb (phf mb ||| pfr h1k)) (va_up pht mb (pht mb ||| pto h1k)) pbs1 (dp + 1) mo lim0 (by omega) (pq_hold hP1 (by omega) (by omega)) (pi_child (pi_same hI hS.2.2.1 hS.2.2.2) hkk hun (by omega) h4) hB ha (by rw [hct_child hkk hun, ← hd]) (by rw [hmv_child hkk hun, hmv_same hS.2.2.1, ← hmo]; unfold mv; rw [if_pos (Or.inr c68)]; rfl) hS.1 hl0) (va_cwS 3 C.1.2.2.2.2 gX1_settle_X1_settle rfl rfl rfl n_X1_settle ⟨(by show r + 8 + 1 ≤ r + 1 + 8; omega), (by show 8 + (6 + 11) + (25 * r + 200) ≤ 25 * (r + 1) + 200; omega)⟩) [0, 1, 2, 3, 4, 5, 6, 7] [] rfl rfl ⟨by decide, by decide⟩ (by decide) [0, 1, 2, 3, 4, 5, 6, 7] (fun u26 => [(q, cPl pn pa qf qt qb qr (ph ||| 2 ^ h1k) qhf qht pl u26.2.1 u26.2.2.1 qs), (qf, aN (cT 0) 16 pfr), (qt, aN (cT 0) 16 pto), (qb, aI (cT 0) 16 pbf), (qr, aI (cT 0) 16 u26.1), (qhf, aN (cT 0) 4 (va_up phf mb (phf mb ||| pfr h1k))), (qht, aN (cT 0) 4 (va_up pht mb (pht mb ||| pto h1k))), (qs, aI (cT 0) 16 u26.2.2.2)]) (fun _ => rfl) (by decide) rfl rfl (Nat.le_of_ble_eq_true rfl) ⟨Nat.zero_le _, Nat.zero_le _⟩ dX1_settle_101 (fun u26 h25 => ?_)
                    refine r_aln (pc := 104) C 0 rfl dX1_settle_104 ?_
                    refine r_iln (pc := 105) C 3 rfl dX1_settle_105 ?_
                    refine r_il (pc := 106) C 4 rfl dX1_settle_106 ?_
                    refine c_WVv (pc := 108) (As := [.int (nI h1k), .int (nI mb)]) (wc := [(q, cPl pn pa qf qt qb qr (ph ||| 2 ^ h1k) qhf qht pl u26.2.1 u26.2.2.1 qs), (qf, aN (cT 0) 16 pfr), (qt, aN (cT 0) 16 pto), (qb, aI (cT 0) 16 pbf), (qr, aI (cT 0) 16 u26.1), (qhf, aN (cT 0) 4 (va_up phf mb (phf mb ||| pfr h1k))), (qht, aN (cT 0) 4 (va_up pht mb (pht mb ||| pto h1k)))]) (wr := [(qs, aI (cT 0) 16 u26.2.2.2)]) (qr := 0) C hA (k_X1_release l D cT q pn pa qf qt qb qr (ph ||| 2 ^ h1k) qhf qht pl u26.2.1 u26.2.2.1 qs pfr pto pbf u26.1 (va_up phf mb (phf mb ||| pfr h1k)) (va_up pht mb (pht mb ||| pto h1k)) h1k mb (pq_lim (pq_hold hP1 (by omega) (by omega)) (Nat.le_trans (jb_le h25.1) hl0)) (by omega) (by omega)) (cwV 2 C.1.2.2.2.2 gX1_settle_X1_release rfl rfl rfl n_X1_release ⟨(by show 0 + 1 ≤ r + 1 + 8; omega), (by show 8 + (3 + 11) + 0 ≤ 25 * (r + 1) + 200; omega)⟩) rfl rfl [0, 1, 2, 3, 4, 5, 6] [7] rfl rfl ⟨by decide, by decide⟩ (by decide) [1, 2, 3, 4, 5, 6, 7, 0] (fun u28 => [(q, cPl pn pa qf qt qb qr u28.1 qhf qht pl u26.2.1 u26.2.2.1 qs), (qf, aN (cT 0) 16 pfr), (qt, aN (cT 0) 16 pto), (qb, aI (cT 0) 16 pbf), (qr, aI (cT 0) 16 u28.2.1), (qhf, aN (cT 0) 4 u28.2.2.1), (qht, aN (cT 0) 4 u28.2.2.2), (qs, aI (cT 0) 16 u26.2.2.2)]) (fun _ => rfl) (by decide) rfl rfl (Nat.le_of_ble_eq_true rfl) ⟨Nat.zero_le _, Nat.zero_le _⟩ dX1_settle_108 (fun u28 h27 => ?_)
                    obtain ⟨m29, m30, m31, m32⟩ := u28
                    dsimp only at h27
                    obtain ⟨rfl, rfl, rfl, rfl⟩ := h27
                    rw [wo_or (and_p2 hun), up_wo (fit_f h4 (by omega)), up_wo (fit_t h4 (by omega))]
                    refine r_incN (pc := 111) C 4 [1, 2, 3, 4, 0, 5] [(0, .ref q), (1, .int (nI dp)), (2, .int (nI mo)), (3, .int (nI h1k)), (4, .int (nI (mb + 1))), (5, .int (nI 0))] rfl (by decide) rfl dX1_settle_111 ?_
                    refine r_goto (pc := 114) (tgt := 34) C dX1_settle_114 (by decide) ?_
                    refine r_lv [0, 1, 2, 3, 4] (lv2 := [(0, .ref q), (1, .int (nI dp)), (2, .int (nI mo)), (3, .int (nI h1k)), (4, .int (nI (mb + 1)))]) rfl ?_
                    exact ih34 (mb + 1) (upd u26.1 h1k (pbf h1k)) u26.2.1 u26.2.2.1 u26.2.2.2 (by omega) (sl_step hkk hun hS h25) (by omega)
                  · refine r_ic (pc := 71) (v := nI 1) C rfl dX1_settle_71 ?_
                    refine r_goto (pc := 72) (tgt := 76) C dX1_settle_72 (by decide) ?_
                    refine r_is (pc := 76) C [1, 2, 3, 4, 5, 0] [(0, .ref q), (1, .int (nI dp)), (2, .int (nI mo)), (3, .int (nI h1k)), (4, .int (nI mb)), (5, .int (nI 1))] (by decide) rfl dX1_settle_76 ?_
                    refine r_aln (pc := 78) C 0 rfl dX1_settle_78 ?_
                    refine r_iln (pc := 79) C 3 rfl dX1_settle_79 ?_
                    refine r_il (pc := 80) C 4 rfl dX1_settle_80 ?_
                    refine c_WVv (pc := 82) (As := [.int (nI h1k), .int (nI mb)]) (wc := [(q, cPl pn pa qf qt qb qr ph qhf qht pl pm1 pb1 qs), (qf, aN (cT 0) 16 pfr), (qt, aN (cT 0) 16 pto), (qr, aI (cT 0) 16 ptr1), (qhf, aN (cT 0) 4 phf), (qht, aN (cT 0) 4 pht)]) (wr := [(qb, aI (cT 0) 16 pbf), (qs, aI (cT 0) 16 pbs1)]) (qr := 0) C hA (k_X1_hold l D cT q pn pa qf qt qb qr ph qhf qht pl pm1 pb1 qs pfr pto ptr1 phf pht h1k mb hP1 (by omega) (by omega)) (cwV 2 C.1.2.2.2.2 gX1_settle_X1_hold rfl rfl rfl n_X1_hold ⟨(by show 0 + 1 ≤ r + 1 + 8; omega), (by show 8 + (3 + 11) + 0 ≤ 25 * (r + 1) + 200; omega)⟩) rfl rfl [0, 1, 2, 4, 5, 6] [3, 7] rfl rfl ⟨by decide, by decide⟩ (by decide) [2, 3, 4, 0, 5, 6, 7, 1] (fun u34 => [(q, cPl pn pa qf qt qb qr u34.1 qhf qht pl pm1 pb1 qs), (qf, aN (cT 0) 16 pfr), (qt, aN (cT 0) 16 pto), (qb, aI (cT 0) 16 pbf), (qr, aI (cT 0) 16 u34.2.1), (qhf, aN (cT 0) 4 u34.2.2.1), (qht, aN (cT 0) 4 u34.2.2.2), (qs, aI (cT 0) 16 pbs1)]) (fun _ => rfl) (by decide) rfl rfl (Nat.le_of_ble_eq_true rfl) ⟨Nat.zero_le _, Nat.zero_le _⟩ dX1_settle_82 (fun u34 h33 => ?_)
                    obtain ⟨m35, m36, m37, m38⟩ := u34
                    dsimp only at h33
                    obtain ⟨rfl, rfl, rfl, rfl⟩ := h33
                    refine r_aln (pc := 85) C 0 rfl dX1_settle_85 ?_
                    refine r_iln (pc := 86) C 1 rfl dX1_settle_86 ?_
                    refine r_ic (pc := 87) (v := nI 1) C rfl dX1_settle_87 ?_
                    refine r_iaddN (pc := 88) C dX1_settle_88 ?_
                    refine r_il (pc := 89) C 5 rfl dX1_settle_89 ?_
                    refine r_zeqN (pc := 91) (tgt := 100) C (by omega) dX1_settle_91 (by decide) (fun h => absurd h (by decide)) (fun _ => ?_)
                    refine r_iln (pc := 94) C 2 rfl dX1_settle_94 ?_
                    refine r_ic (pc := 95) (v := nI 1) C rfl dX1_settle_95 ?_
                    refine r_iaddN (pc := 96) C dX1_settle_96 ?_
                    refine r_goto (pc := 97) (tgt := 101) C dX1_settle_97 (by decide) ?_
                    refine c_WSv (pc := 101) (As := [.ref q, .int (nI (dp + 1)), .int (nI (mo + 1))]) (wc := [(q, cPl pn pa qf qt qb qr (ph ||| 2 ^ h1k) qhf qht pl pm1 pb1 qs), (qf, aN (cT 0) 16 pfr), (qt, aN (cT 0) 16 pto), (qb, aI (cT 0) 16 pbf), (qr, aI (cT 0) 16 (upd ptr1 h1k (nI mb))), (qhf, aN (cT 0) 4 (va_up phf mb (phf mb ||| pfr h1k))), (qht, aN (cT 0) 4 (va_up pht mb (pht mb ||| pto h1k))), (qs, aI (cT 0) 16 pbs1)]) (wr := [])  C hA (ih q pn pa qf qt qb qr (ph ||| 2 ^ h1k) qhf qht pl pm1 pb1 qs pfr pto pbf (upd ptr1 h1k (nI mb)) (va_up phf mb (phf mb ||| pfr h1k)) (va_up pht mb (pht mb ||| pto h1k)) pbs1 (dp + 1) (mo + 1) lim0 (by omega) (pq_hold hP1 (by omega) (by omega)) (pi_child (pi_same hI hS.2.2.1 hS.2.2.2) hkk hun (by omega) h4) hB ha (by rw [hct_child hkk hun, ← hd]) (by rw [hmv_child hkk hun, hmv_same hS.2.2.1, ← hmo]; unfold mv; rw [if_neg (fun g => g.elim c57 c68)]) hS.1 hl0) (va_cwS 3 C.1.2.2.2.2 gX1_settle_X1_settle rfl rfl rfl n_X1_settle ⟨(by show r + 8 + 1 ≤ r + 1 + 8; omega), (by show 8 + (6 + 11) + (25 * r + 200) ≤ 25 * (r + 1) + 200; omega)⟩) [0, 1, 2, 3, 4, 5, 6, 7] [] rfl rfl ⟨by decide, by decide⟩ (by decide) [0, 1, 2, 3, 4, 5, 6, 7] (fun u40 => [(q, cPl pn pa qf qt qb qr (ph ||| 2 ^ h1k) qhf qht pl u40.2.1 u40.2.2.1 qs), (qf, aN (cT 0) 16 pfr), (qt, aN (cT 0) 16 pto), (qb, aI (cT 0) 16 pbf), (qr, aI (cT 0) 16 u40.1), (qhf, aN (cT 0) 4 (va_up phf mb (phf mb ||| pfr h1k))), (qht, aN (cT 0) 4 (va_up pht mb (pht mb ||| pto h1k))), (qs, aI (cT 0) 16 u40.2.2.2)]) (fun _ => rfl) (by decide) rfl rfl (Nat.le_of_ble_eq_true rfl) ⟨Nat.zero_le _, Nat.zero_le _⟩ dX1_settle_101 (fun u40 h39 => ?_)
                    refine r_aln (pc := 104) C 0 rfl dX1_settle_104 ?_
                    refine r_iln (pc := 105) C 3 rfl dX1_settle_105 ?_
                    refine r_il (pc := 106) C 4 rfl dX1_settle_106 ?_
                    refine c_WVv (pc := 108) (As := [.int (nI h1k), .int (nI mb)]) (wc := [(q, cPl pn pa qf qt qb qr (ph ||| 2 ^ h1k) qhf qht pl u40.2.1 u40.2.2.1 qs), (qf, aN (cT 0) 16 pfr), (qt, aN (cT 0) 16 pto), (qb, aI (cT 0) 16 pbf), (qr, aI (cT 0) 16 u40.1), (qhf, aN (cT 0) 4 (va_up phf mb (phf mb ||| pfr h1k))), (qht, aN (cT 0) 4 (va_up pht mb (pht mb ||| pto h1k)))]) (wr := [(qs, aI (cT 0) 16 u40.2.2.2)]) (qr := 0) C hA (k_X1_release l D cT q pn pa qf qt qb qr (ph ||| 2 ^ h1k) qhf qht pl u40.2.1 u40.2.2.1 qs pfr pto pbf u40.1 (va_up phf mb (phf mb ||| pfr h1k)) (va_up pht mb (pht mb ||| pto h1k)) h1k mb (pq_lim (pq_hold hP1 (by omega) (by omega)) (Nat.le_trans (jb_le h39.1) hl0)) (by omega) (by omega)) (cwV 2 C.1.2.2.2.2 gX1_settle_X1_release rfl rfl rfl n_X1_release ⟨(by show 0 + 1 ≤ r + 1 + 8; omega), (by show 8 + (3 + 11) + 0 ≤ 25 * (r + 1) + 200; omega)⟩) rfl rfl [0, 1, 2, 3, 4, 5, 6] [7] rfl rfl ⟨by decide, by decide⟩ (by decide) [1, 2, 3, 4, 5, 6, 7, 0] (fun u42 => [(q, cPl pn pa qf qt qb qr u42.1 qhf qht pl u40.2.1 u40.2.2.1 qs), (qf, aN (cT 0) 16 pfr), (qt, aN (cT 0) 16 pto), (qb, aI (cT 0) 16 pbf), (qr, aI (cT 0) 16 u42.2.1), (qhf, aN (cT 0) 4 u42.2.2.1), (qht, aN (cT 0) 4 u42.2.2.2), (qs, aI (cT 0) 16 u40.2.2.2)]) (fun _ => rfl) (by decide) rfl rfl (Nat.le_of_ble_eq_true rfl) ⟨Nat.zero_le _, Nat.zero_le _⟩ dX1_settle_108 (fun u42 h41 => ?_)
                    obtain ⟨m43, m44, m45, m46⟩ := u42
                    dsimp only at h41
                    obtain ⟨rfl, rfl, rfl, rfl⟩ := h41
                    rw [wo_or (and_p2 hun), up_wo (fit_f h4 (by omega)), up_wo (fit_t h4 (by omega))]
                    refine r_incN (pc := 111) C 4 [1, 2, 3, 4, 0, 5] [(0, .ref q), (1, .int (nI dp)), (2, .int (nI mo)), (3, .int (nI h1k)), (4, .int (nI (mb + 1))), (5, .int (nI 1))] rfl (by decide) rfl dX1_settle_111 ?_
                    refine r_goto (pc := 114) (tgt := 34) C dX1_settle_114 (by decide) ?_
                    refine r_lv [0, 1, 2, 3, 4] (lv2 := [(0, .ref q), (1, .int (nI dp)), (2, .int (nI mo)), (3, .int (nI h1k)), (4, .int (nI (mb + 1)))]) rfl ?_
                    exact ih34 (mb + 1) (upd u40.1 h1k (pbf h1k)) u40.2.1 u40.2.2.1 u40.2.2.2 (by omega) (sl_step hkk hun hS h39) (by omega)
              · refine r_zeqN (pc := 47) (tgt := 111) C (by omega) dX1_settle_47 (by decide) (fun _ => ?_) (fun h => absurd h (by decide))
                refine r_incN (pc := 111) C 4 [1, 2, 3, 4, 0] [(0, .ref q), (1, .int (nI dp)), (2, .int (nI mo)), (3, .int (nI h1k)), (4, .int (nI (mb + 1)))] rfl (by decide) rfl dX1_settle_111 ?_
                refine r_goto (pc := 114) (tgt := 34) C dX1_settle_114 (by decide) ?_
                exact ih34 (mb + 1) ptr1 pm1 pb1 pbs1 (by omega) (sl_skip (pi_same hI (fun _ _ _ => rfl) hI.2.2.2.2.2) hkk hun (by omega) h4 hS) (by omega)
        exact L34 _ 0 ptr pm pb pbs (Nat.zero_le _) (sl_0 hI hJ) (Nat.lt_succ_self _)
    · subst hQ
      exact e_vW C hr hk (Nat.le_refl _) (Nat.le_refl _) ⟨ptr, pm, pb, pbs⟩ rfl (sp_stop hI hJ hmo c11) dX1_settle_14

theorem iX1_start_X1 : ∀ w ∈ u_ws RX1 TX1 13, w ∈ wsX1_start := by decide +kernel
theorem iX1_start_X3 : ∀ w ∈ u_ws RX3 TX3 14, w ∈ wsX1_start := by decide +kernel
abbrev rmX1_start : Room := { frames := 2, cells := 0, slots := 0, locals := 44 }
theorem n_X1_start : yX1_start.cls = RX1 ∧ yX1_start.cls ≠ "java/lang/invoke/MethodHandle" ∧ yX1_start.cls ≠ "java/lang/invoke/VarHandle" ∧ (parseMethodDescriptor yX1_start.desc).map (fun d => d.parameters.length) = some 3 := by decide +kernel
set_option maxHeartbeats 4000000 in
set_option maxRecDepth 100000 in
theorem k_X1_start (l : Launch) (D : va_G) (cT : Nat → ClassId) (q pn : Nat) (pa : Int32) (qf qt qb qr ph qhf qht pl pm : Nat) (pb : Int32) (qs : Nat) (pfr pto : Nat → Nat) (pbf ptr : Nat → Int32) (phf pht : Nat → Nat) (pbs : Nat → Int32) (sA fst wid mid las pat bro mov cnt sI sO sB sM sG sW : Nat) (inp outs brd : Nat → Nat) (al lim : Nat) (hCn : cnt ≤ 16) (hIn : ∀ c, c < 16 → inp c < 16) (hOu : ∀ c, c < 16 → outs c < 65536) (hBo : ∀ c, c < 16 → brd c < 4) (hW1 : 1 ≤ wid) (hW2 : wid ≤ 4) (hfr : ∀ c, c < 16 → pfr c < 65536 ∧ pto c < 65536) : MWv (S := (Nat → Nat) × (Nat → Nat) × (Nat → Int32) × (Nat → Int32) × (Nat → Nat) × (Nat → Nat)) l D cT yX1_start wsX1_start rmX1_start [.ref q, .ref sA, .int (nI al), .int (nI lim)] [(q, cPl pn pa qf qt qb qr ph qhf qht pl pm pb qs), (qf, aN (cT 0) 16 pfr), (qt, aN (cT 0) 16 pto), (qb, aI (cT 0) 16 pbf), (qr, aI (cT 0) 16 ptr), (qhf, aN (cT 0) 4 phf), (qht, aN (cT 0) 4 pht), (qs, aI (cT 0) 16 pbs), (sA, cSt fst wid mid las pat bro mov cnt sI sO sB sM sG sW), (sI, aN (cT 0) 16 inp), (sO, aN (cT 0) 16 outs), (sB, aN (cT 0) 16 brd)] (fun u => (∀ c, c < cnt → u.1 c = 2 ^ (inp c / wid) ∧ u.2.1 c = lbs wid (outs c) ∧ u.2.2.1 c = nI (brd c) ∧ u.2.2.2.1 c = nI (brd c)) ∧ (∀ c, c < 16 → u.1 c < 65536 ∧ u.2.1 c < 65536) ∧ ∀ j, j < 4 → u.2.2.2.2.1 j = 0 ∧ u.2.2.2.2.2 j = 0) (fun u => [(q, cPl cnt (-1) qf qt qb qr 0 qhf qht al lim (-1) qs), (qf, aN (cT 0) 16 u.1), (qt, aN (cT 0) 16 u.2.1), (qb, aI (cT 0) 16 u.2.2.1), (qr, aI (cT 0) 16 u.2.2.2.1), (qhf, aN (cT 0) 4 u.2.2.2.2.1), (qht, aN (cT 0) 4 u.2.2.2.2.2), (qs, aI (cT 0) 16 pbs), (sA, cSt fst wid mid las pat bro mov cnt sI sO sB sM sG sW), (sI, aN (cT 0) 16 inp), (sO, aN (cT 0) 16 outs), (sB, aN (cT 0) 16 brd)]) 0 0 := by
  refine m_Wv [(0, .ref q), (1, .ref sA), (2, .int (nI al)), (3, .int (nI lim))] (by decide +kernel) rfl (Nat.le_of_ble_eq_true rfl) rfl ?_
  intro p e s m args below meth c A hAe C hA hr hk hnm_
  generalize hQ : MQ below (va_Qv _ _ A) args s 0 0 A = Q
  refine r_aln (pc := 0) C 0 rfl dX1_start_0 ?_
  refine r_aln (pc := 1) C 1 rfl dX1_start_1 ?_
  refine r_get (pc := 2) C iX1_start_X3 8 rfl rfl 7 (by decide) (mw 1 rfl) rfl rfl dX1_start_2 ?_
  refine r_put (pc := 5) (ws2 := [(q, cPl cnt pa qf qt qb qr ph qhf qht pl pm pb qs), (qf, aN (cT 0) 16 pfr), (qt, aN (cT 0) 16 pto), (qb, aI (cT 0) 16 pbf), (qr, aI (cT 0) 16 ptr), (qhf, aN (cT 0) 4 phf), (qht, aN (cT 0) 4 pht), (qs, aI (cT 0) 16 pbs), (sA, cSt fst wid mid las pat bro mov cnt sI sO sB sM sG sW), (sI, aN (cT 0) 16 inp), (sO, aN (cT 0) 16 outs), (sB, aN (cT 0) 16 brd)]) C iX1_start_X1 tyX1_ok nmX1 0 rfl rfl 0 (by decide) (mw 2 rfl) rfl rfl rfl rfl (Nat.le_of_ble_eq_true rfl) rfl dX1_start_5 ?_
  refine r_aln (pc := 8) C 0 rfl dX1_start_8 ?_
  refine r_ic (pc := 9) (v := (-1)) C rfl dX1_start_9 ?_
  refine r_put (pc := 10) (ws2 := [(q, cPl cnt (-1) qf qt qb qr ph qhf qht pl pm pb qs), (qf, aN (cT 0) 16 pfr), (qt, aN (cT 0) 16 pto), (qb, aI (cT 0) 16 pbf), (qr, aI (cT 0) 16 ptr), (qhf, aN (cT 0) 4 phf), (qht, aN (cT 0) 4 pht), (qs, aI (cT 0) 16 pbs), (sA, cSt fst wid mid las pat bro mov cnt sI sO sB sM sG sW), (sI, aN (cT 0) 16 inp), (sO, aN (cT 0) 16 outs), (sB, aN (cT 0) 16 brd)]) C iX1_start_X1 tyX1_ok nmX1 0 rfl rfl 1 (by decide) (mw 3 rfl) rfl rfl rfl rfl (Nat.le_of_ble_eq_true rfl) rfl dX1_start_10 ?_
  refine r_ic (pc := 13) (v := nI 0) C rfl dX1_start_13 ?_
  refine r_is (pc := 14) C [1, 2, 3, 4, 0] [(0, .ref q), (1, .ref sA), (2, .int (nI al)), (3, .int (nI lim)), (4, .int (nI 0))] (by decide) rfl dX1_start_14 ?_
  have L16 : ∀ (n16 : Nat) (i : Nat) (f1 : Nat → Nat) (t1 : Nat → Nat) (b1 : Nat → Int32) (r1 : Nat → Int32) (hi2 : i ≤ cnt) (hq : ∀ c, c < i → f1 c = 2 ^ (inp c / wid) ∧ t1 c = lbs wid (outs c) ∧ b1 c = nI (brd c) ∧ r1 c = nI (brd c)) (hq2 : ∀ c, c < 16 → f1 c < 65536 ∧ t1 c < 65536), cnt - i < n16 → RW p l e (headSpec wsX1_start rmX1_start).room s m args below meth c (IW s D A) 5 0 0 Q [(q, cPl cnt (-1) qf qt qb qr ph qhf qht pl pm pb qs), (qf, aN (cT 0) 16 f1), (qt, aN (cT 0) 16 t1), (qb, aI (cT 0) 16 b1), (qr, aI (cT 0) 16 r1), (qhf, aN (cT 0) 4 phf), (qht, aN (cT 0) 4 pht), (qs, aI (cT 0) 16 pbs), (sA, cSt fst wid mid las pat bro mov cnt sI sO sB sM sG sW), (sI, aN (cT 0) 16 inp), (sO, aN (cT 0) 16 outs), (sB, aN (cT 0) 16 brd)] 16 [(0, .ref q), (1, .ref sA), (2, .int (nI al)), (3, .int (nI lim)), (4, .int (nI i))] [] := by
    intro n16
    induction n16 with
    | zero => intro i f1 t1 b1 r1 hi2 hq hq2 hn16; exact absurd hn16 (Nat.not_lt_zero _)
    | succ n16 ih16 =>
      intro i f1 t1 b1 r1 hi2 hq hq2 hn16
      refine r_il (pc := 16) C 4 rfl dX1_start_16 ?_
      refine r_aln (pc := 18) C 0 rfl dX1_start_18 ?_
      refine r_get (pc := 19) C iX1_start_X1 0 rfl rfl 0 (by decide) (mw 2 rfl) rfl rfl dX1_start_19 ?_
      refine r_cgeN (pc := 22) (tgt := 92) C (by first | omega | (have := Nat.div_le_self (inp i) wid; have := hIn i (by omega); omega)) (by first | omega | (have := Nat.div_le_self (inp i) wid; have := hIn i (by omega); omega)) dX1_start_22 (by decide) (fun c22 => ?_) (fun c22 => ?_)
      · refine r_aln (pc := 92) C 0 rfl dX1_start_92 ?_
        refine r_ic (pc := 93) (v := nI 0) C rfl dX1_start_93 ?_
        refine r_put (pc := 94) (ws2 := [(q, cPl cnt (-1) qf qt qb qr 0 qhf qht pl pm pb qs), (qf, aN (cT 0) 16 f1), (qt, aN (cT 0) 16 t1), (qb, aI (cT 0) 16 b1), (qr, aI (cT 0) 16 r1), (qhf, aN (cT 0) 4 phf), (qht, aN (cT 0) 4 pht), (qs, aI (cT 0) 16 pbs), (sA, cSt fst wid mid las pat bro mov cnt sI sO sB sM sG sW), (sI, aN (cT 0) 16 inp), (sO, aN (cT 0) 16 outs), (sB, aN (cT 0) 16 brd)]) C iX1_start_X1 tyX1_ok nmX1 0 rfl rfl 6 (by decide) (mw 10 rfl) rfl rfl rfl rfl (Nat.le_of_ble_eq_true rfl) rfl dX1_start_94 ?_
        refine r_ic (pc := 97) (v := nI 0) C rfl dX1_start_97 ?_
        refine r_is (pc := 98) C [1, 2, 3, 4, 0] [(0, .ref q), (1, .ref sA), (2, .int (nI al)), (3, .int (nI lim)), (4, .int (nI 0))] (by decide) rfl dX1_start_98 ?_
        have L100 : ∀ (n100 : Nat) (j : Nat) (hf1 : Nat → Nat) (ht1 : Nat → Nat) (hj2 : j ≤ 4) (hz : ∀ k, k < j → hf1 k = 0 ∧ ht1 k = 0), 4 - j < n100 → RW p l e (headSpec wsX1_start rmX1_start).room s m args below meth c (IW s D A) 5 0 0 Q [(q, cPl cnt (-1) qf qt qb qr 0 qhf qht pl pm pb qs), (qf, aN (cT 0) 16 f1), (qt, aN (cT 0) 16 t1), (qb, aI (cT 0) 16 b1), (qr, aI (cT 0) 16 r1), (qhf, aN (cT 0) 4 hf1), (qht, aN (cT 0) 4 ht1), (qs, aI (cT 0) 16 pbs), (sA, cSt fst wid mid las pat bro mov cnt sI sO sB sM sG sW), (sI, aN (cT 0) 16 inp), (sO, aN (cT 0) 16 outs), (sB, aN (cT 0) 16 brd)] 100 [(0, .ref q), (1, .ref sA), (2, .int (nI al)), (3, .int (nI lim)), (4, .int (nI j))] [] := by
          intro n100
          induction n100 with
          | zero => intro j hf1 ht1 hj2 hz hn100; exact absurd hn100 (Nat.not_lt_zero _)
          | succ n100 ih100 =>
            intro j hf1 ht1 hj2 hz hn100
            refine r_il (pc := 100) C 4 rfl dX1_start_100 ?_
            refine r_ic (pc := 102) (v := nI 4) C rfl dX1_start_102 ?_
            refine r_cgeN (pc := 103) (tgt := 128) C (by first | omega | (have := Nat.div_le_self (inp i) wid; have := hIn i (by omega); omega)) (by first | omega | (have := Nat.div_le_self (inp i) wid; have := hIn i (by omega); omega)) dX1_start_103 (by decide) (fun c103 => ?_) (fun c103 => ?_)
            · refine r_aln (pc := 128) C 0 rfl dX1_start_128 ?_
              refine r_iln (pc := 129) C 2 rfl dX1_start_129 ?_
              refine r_put (pc := 130) (ws2 := [(q, cPl cnt (-1) qf qt qb qr 0 qhf qht al pm pb qs), (qf, aN (cT 0) 16 f1), (qt, aN (cT 0) 16 t1), (qb, aI (cT 0) 16 b1), (qr, aI (cT 0) 16 r1), (qhf, aN (cT 0) 4 hf1), (qht, aN (cT 0) 4 ht1), (qs, aI (cT 0) 16 pbs), (sA, cSt fst wid mid las pat bro mov cnt sI sO sB sM sG sW), (sI, aN (cT 0) 16 inp), (sO, aN (cT 0) 16 outs), (sB, aN (cT 0) 16 brd)]) C iX1_start_X1 tyX1_ok nmX1 0 rfl rfl 9 (by decide) (mw 13 rfl) rfl rfl rfl rfl (Nat.le_of_ble_eq_true rfl) rfl dX1_start_130 ?_
              refine r_aln (pc := 133) C 0 rfl dX1_start_133 ?_
              refine r_iln (pc := 134) C 3 rfl dX1_start_134 ?_
              refine r_put (pc := 135) (ws2 := [(q, cPl cnt (-1) qf qt qb qr 0 qhf qht al lim pb qs), (qf, aN (cT 0) 16 f1), (qt, aN (cT 0) 16 t1), (qb, aI (cT 0) 16 b1), (qr, aI (cT 0) 16 r1), (qhf, aN (cT 0) 4 hf1), (qht, aN (cT 0) 4 ht1), (qs, aI (cT 0) 16 pbs), (sA, cSt fst wid mid las pat bro mov cnt sI sO sB sM sG sW), (sI, aN (cT 0) 16 inp), (sO, aN (cT 0) 16 outs), (sB, aN (cT 0) 16 brd)]) C iX1_start_X1 tyX1_ok nmX1 0 rfl rfl 10 (by decide) (mw 14 rfl) rfl rfl rfl rfl (Nat.le_of_ble_eq_true rfl) rfl dX1_start_135 ?_
              refine r_aln (pc := 138) C 0 rfl dX1_start_138 ?_
              refine r_ic (pc := 139) (v := (-1)) C rfl dX1_start_139 ?_
              refine r_put (pc := 140) (ws2 := [(q, cPl cnt (-1) qf qt qb qr 0 qhf qht al lim (-1) qs), (qf, aN (cT 0) 16 f1), (qt, aN (cT 0) 16 t1), (qb, aI (cT 0) 16 b1), (qr, aI (cT 0) 16 r1), (qhf, aN (cT 0) 4 hf1), (qht, aN (cT 0) 4 ht1), (qs, aI (cT 0) 16 pbs), (sA, cSt fst wid mid las pat bro mov cnt sI sO sB sM sG sW), (sI, aN (cT 0) 16 inp), (sO, aN (cT 0) 16 outs), (sB, aN (cT 0) 16 brd)]) C iX1_start_X1 tyX1_ok nmX1 0 rfl rfl 11 (by decide) (mw 15 rfl) rfl rfl rfl rfl (Nat.le_of_ble_eq_true rfl) rfl dX1_start_140 ?_
              subst hQ
              exact e_vW C hr hk (Nat.le_refl _) (Nat.le_refl _) ⟨f1, t1, b1, r1, hf1, ht1⟩ rfl (⟨fun c hc => hq c (by omega), hq2, fun k hk => hz k (by omega)⟩) dX1_start_143
            · refine r_aln (pc := 106) C 0 rfl dX1_start_106 ?_
              refine r_get (pc := 107) C iX1_start_X1 0 rfl rfl 7 (by decide) (mw 11 rfl) rfl rfl dX1_start_107 ?_
              refine r_il (pc := 110) C 4 rfl dX1_start_110 ?_
              refine r_ic (pc := 112) (v := nI 0) C rfl dX1_start_112 ?_
              refine r_iasN (pc := 113) (ws2 := [(q, cPl cnt (-1) qf qt qb qr 0 qhf qht pl pm pb qs), (qf, aN (cT 0) 16 f1), (qt, aN (cT 0) 16 t1), (qb, aI (cT 0) 16 b1), (qr, aI (cT 0) 16 r1), (qhf, aN (cT 0) 4 (va_up hf1 j 0)), (qht, aN (cT 0) 4 ht1), (qs, aI (cT 0) 16 pbs), (sA, cSt fst wid mid las pat bro mov cnt sI sO sB sM sG sW), (sI, aN (cT 0) 16 inp), (sO, aN (cT 0) 16 outs), (sB, aN (cT 0) 16 brd)]) C 5 rfl (by first | omega | (have := Nat.div_le_self (inp i) wid; have := hIn i (by omega); omega)) (by decide) rfl dX1_start_113 ?_
              refine r_aln (pc := 114) C 0 rfl dX1_start_114 ?_
              refine r_get (pc := 115) C iX1_start_X1 0 rfl rfl 8 (by decide) (mw 12 rfl) rfl rfl dX1_start_115 ?_
              refine r_il (pc := 118) C 4 rfl dX1_start_118 ?_
              refine r_ic (pc := 120) (v := nI 0) C rfl dX1_start_120 ?_
              refine r_iasN (pc := 121) (ws2 := [(q, cPl cnt (-1) qf qt qb qr 0 qhf qht pl pm pb qs), (qf, aN (cT 0) 16 f1), (qt, aN (cT 0) 16 t1), (qb, aI (cT 0) 16 b1), (qr, aI (cT 0) 16 r1), (qhf, aN (cT 0) 4 (va_up hf1 j 0)), (qht, aN (cT 0) 4 (va_up ht1 j 0)), (qs, aI (cT 0) 16 pbs), (sA, cSt fst wid mid las pat bro mov cnt sI sO sB sM sG sW), (sI, aN (cT 0) 16 inp), (sO, aN (cT 0) 16 outs), (sB, aN (cT 0) 16 brd)]) C 6 rfl (by first | omega | (have := Nat.div_le_self (inp i) wid; have := hIn i (by omega); omega)) (by decide) rfl dX1_start_121 ?_
              refine r_incN (pc := 122) C 4 [1, 2, 3, 4, 0] [(0, .ref q), (1, .ref sA), (2, .int (nI al)), (3, .int (nI lim)), (4, .int (nI (j + 1)))] rfl (by decide) rfl dX1_start_122 ?_
              refine r_goto (pc := 125) (tgt := 100) C dX1_start_125 (by decide) ?_
              exact ih100 (j + 1) (va_up hf1 j 0) (va_up ht1 j 0) (by omega) (z_step hz) (by omega)
        exact L100 _ 0 phf pht (Nat.zero_le _) (fun k hk => absurd hk (Nat.not_lt_zero _)) (Nat.lt_succ_self _)
      · refine r_aln (pc := 25) C 0 rfl dX1_start_25 ?_
        refine r_get (pc := 26) C iX1_start_X1 0 rfl rfl 2 (by decide) (mw 4 rfl) rfl rfl dX1_start_26 ?_
        refine r_il (pc := 29) C 4 rfl dX1_start_29 ?_
        refine r_ic (pc := 31) (v := nI 1) C rfl dX1_start_31 ?_
        refine r_aln (pc := 32) C 1 rfl dX1_start_32 ?_
        refine r_aln (pc := 33) C 1 rfl dX1_start_33 ?_
        refine r_get (pc := 34) C iX1_start_X3 8 rfl rfl 8 (by decide) (mw 5 rfl) rfl rfl dX1_start_34 ?_
        refine r_il (pc := 37) C 4 rfl dX1_start_37 ?_
        refine r_ialN (pc := 39) C 9 rfl (by first | omega | (have := Nat.div_le_self (inp i) wid; have := hIn i (by omega); omega)) (by decide) dX1_start_39 ?_
        refine c_RV (pc := 40) (As := [.int (nI (inp i))]) (wc := [(sA, cSt fst wid mid las pat bro mov cnt sI sO sB sM sG sW)]) (qr := 8) C (k_X3_boardOf l D cT sA fst wid mid las pat bro mov cnt sI sO sB sM sG sW (inp i) (by omega) hW2 (hIn i (by omega))) (cwV 1 C.1.2.2.2.2 gX1_start_X3_boardOf rfl rfl rfl n_X3_boardOf ⟨Nat.le_of_ble_eq_true rfl, Nat.le_of_ble_eq_true rfl⟩) [8] rfl rfl rfl rfl rfl (Nat.le_of_ble_eq_true rfl) ⟨Nat.zero_le _, Nat.zero_le _⟩ dX1_start_40 (fun r40 h1 => ?_)
        subst h1
        refine r_ishlN (pc := 43) C (by first | omega | (have := Nat.div_le_self (inp i) wid; have := hIn i (by omega); omega)) (by rw [Nat.one_mul]; exact p2_lt31 (by first | omega | (have := Nat.div_le_self (inp i) wid; have := hIn i (by omega); omega))) dX1_start_43 ?_
        refine r_v (y := nI (2 ^ ((inp i) / wid))) (congrArg nI (Nat.one_mul _)) ?_
        refine r_iasN (pc := 44) (ws2 := [(q, cPl cnt (-1) qf qt qb qr ph qhf qht pl pm pb qs), (qf, aN (cT 0) 16 (va_up f1 i (2 ^ ((inp i) / wid)))), (qt, aN (cT 0) 16 t1), (qb, aI (cT 0) 16 b1), (qr, aI (cT 0) 16 r1), (qhf, aN (cT 0) 4 phf), (qht, aN (cT 0) 4 pht), (qs, aI (cT 0) 16 pbs), (sA, cSt fst wid mid las pat bro mov cnt sI sO sB sM sG sW), (sI, aN (cT 0) 16 inp), (sO, aN (cT 0) 16 outs), (sB, aN (cT 0) 16 brd)]) C 1 rfl (by first | omega | (have := Nat.div_le_self (inp i) wid; have := hIn i (by omega); omega)) (by decide) rfl dX1_start_44 ?_
        refine r_aln (pc := 45) C 0 rfl dX1_start_45 ?_
        refine r_get (pc := 46) C iX1_start_X1 0 rfl rfl 3 (by decide) (mw 6 rfl) rfl rfl dX1_start_46 ?_
        refine r_il (pc := 49) C 4 rfl dX1_start_49 ?_
        refine r_aln (pc := 51) C 1 rfl dX1_start_51 ?_
        refine r_il (pc := 52) C 4 rfl dX1_start_52 ?_
        refine c_RV (pc := 54) (As := [.int (nI i)]) (wc := [(sA, cSt fst wid mid las pat bro mov cnt sI sO sB sM sG sW), (sO, aN (cT 0) 16 outs)]) (qr := 8) C (k_X3_lastBoardsOf l D cT sA fst wid mid las pat bro mov cnt sI sO sB sM sG sW outs i hW1 hW2 (by omega) (hOu i (by omega))) (cwV 1 C.1.2.2.2.2 gX1_start_X3_lastBoardsOf rfl rfl rfl n_X3_lastBoardsOf ⟨Nat.le_of_ble_eq_true rfl, Nat.le_of_ble_eq_true rfl⟩) [8, 10] rfl rfl rfl rfl rfl (Nat.le_of_ble_eq_true rfl) ⟨Nat.zero_le _, Nat.zero_le _⟩ dX1_start_54 (fun r54 h2 => ?_)
        subst h2
        refine r_iasN (pc := 57) (ws2 := [(q, cPl cnt (-1) qf qt qb qr ph qhf qht pl pm pb qs), (qf, aN (cT 0) 16 (va_up f1 i (2 ^ ((inp i) / wid)))), (qt, aN (cT 0) 16 (va_up t1 i (lbs wid (outs i)))), (qb, aI (cT 0) 16 b1), (qr, aI (cT 0) 16 r1), (qhf, aN (cT 0) 4 phf), (qht, aN (cT 0) 4 pht), (qs, aI (cT 0) 16 pbs), (sA, cSt fst wid mid las pat bro mov cnt sI sO sB sM sG sW), (sI, aN (cT 0) 16 inp), (sO, aN (cT 0) 16 outs), (sB, aN (cT 0) 16 brd)]) C 2 rfl (by first | omega | (have := Nat.div_le_self (inp i) wid; have := hIn i (by omega); omega)) (by decide) rfl dX1_start_57 ?_
        refine r_aln (pc := 58) C 0 rfl dX1_start_58 ?_
        refine r_get (pc := 59) C iX1_start_X1 0 rfl rfl 4 (by decide) (mw 7 rfl) rfl rfl dX1_start_59 ?_
        refine r_il (pc := 62) C 4 rfl dX1_start_62 ?_
        refine r_aln (pc := 64) C 1 rfl dX1_start_64 ?_
        refine r_get (pc := 65) C iX1_start_X3 8 rfl rfl 10 (by decide) (mw 8 rfl) rfl rfl dX1_start_65 ?_
        refine r_il (pc := 68) C 4 rfl dX1_start_68 ?_
        refine r_ialN (pc := 70) C 11 rfl (by first | omega | (have := Nat.div_le_self (inp i) wid; have := hIn i (by omega); omega)) (by decide) dX1_start_70 ?_
        refine r_iasI (pc := 71) (ws2 := [(q, cPl cnt (-1) qf qt qb qr ph qhf qht pl pm pb qs), (qf, aN (cT 0) 16 (va_up f1 i (2 ^ ((inp i) / wid)))), (qt, aN (cT 0) 16 (va_up t1 i (lbs wid (outs i)))), (qb, aI (cT 0) 16 (upd b1 i (nI (brd i)))), (qr, aI (cT 0) 16 r1), (qhf, aN (cT 0) 4 phf), (qht, aN (cT 0) 4 pht), (qs, aI (cT 0) 16 pbs), (sA, cSt fst wid mid las pat bro mov cnt sI sO sB sM sG sW), (sI, aN (cT 0) 16 inp), (sO, aN (cT 0) 16 outs), (sB, aN (cT 0) 16 brd)]) C 3 rfl (by first | omega | (have := Nat.div_le_self (inp i) wid; have := hIn i (by omega); omega)) (by decide) rfl dX1_start_71 ?_
        refine r_aln (pc := 72) C 0 rfl dX1_start_72 ?_
        refine r_get (pc := 73) C iX1_start_X1 0 rfl rfl 5 (by decide) (mw 9 rfl) rfl rfl dX1_start_73 ?_
        refine r_il (pc := 76) C 4 rfl dX1_start_76 ?_
        refine r_aln (pc := 78) C 1 rfl dX1_start_78 ?_
        refine r_get (pc := 79) C iX1_start_X3 8 rfl rfl 10 (by decide) (mw 8 rfl) rfl rfl dX1_start_79 ?_
        refine r_il (pc := 82) C 4 rfl dX1_start_82 ?_
        refine r_ialN (pc := 84) C 11 rfl (by first | omega | (have := Nat.div_le_self (inp i) wid; have := hIn i (by omega); omega)) (by decide) dX1_start_84 ?_
        refine r_iasI (pc := 85) (ws2 := [(q, cPl cnt (-1) qf qt qb qr ph qhf qht pl pm pb qs), (qf, aN (cT 0) 16 (va_up f1 i (2 ^ ((inp i) / wid)))), (qt, aN (cT 0) 16 (va_up t1 i (lbs wid (outs i)))), (qb, aI (cT 0) 16 (upd b1 i (nI (brd i)))), (qr, aI (cT 0) 16 (upd r1 i (nI (brd i)))), (qhf, aN (cT 0) 4 phf), (qht, aN (cT 0) 4 pht), (qs, aI (cT 0) 16 pbs), (sA, cSt fst wid mid las pat bro mov cnt sI sO sB sM sG sW), (sI, aN (cT 0) 16 inp), (sO, aN (cT 0) 16 outs), (sB, aN (cT 0) 16 brd)]) C 4 rfl (by first | omega | (have := Nat.div_le_self (inp i) wid; have := hIn i (by omega); omega)) (by decide) rfl dX1_start_85 ?_
        refine r_incN (pc := 86) C 4 [1, 2, 3, 4, 0] [(0, .ref q), (1, .ref sA), (2, .int (nI al)), (3, .int (nI lim)), (4, .int (nI (i + 1)))] rfl (by decide) rfl dX1_start_86 ?_
        refine r_goto (pc := 89) (tgt := 16) C dX1_start_89 (by decide) ?_
        exact ih16 (i + 1) (va_up f1 i (2 ^ ((inp i) / wid))) (va_up t1 i (lbs wid (outs i))) (upd b1 i (nI (brd i))) (upd r1 i (nI (brd i))) (by omega) (st_step hq) (st_bd hq2 (p2_lt (by first | omega | (have := Nat.div_le_self (inp i) wid; have := hIn i (by omega); omega))) (lbTo_lt _ _ 16 (by omega))) (by omega)
  exact L16 _ 0 pfr pto pbf ptr (Nat.zero_le _) (fun k hk => absurd hk (Nat.not_lt_zero _)) hfr (Nat.lt_succ_self _)

theorem iX1_forNewCall_X1 : ∀ w ∈ u_ws RX1 TX1 13, w ∈ wsX1_forNewCall := by decide +kernel
theorem iX1_forNewCall_X3 : ∀ w ∈ u_ws RX3 TX3 14, w ∈ wsX1_forNewCall := by decide +kernel
abbrev rmX1_forNewCall : Room := { frames := 26, cells := 0, slots := 0, locals := 650 }
theorem n_X1_forNewCall : yX1_forNewCall.cls = RX1 ∧ yX1_forNewCall.cls ≠ "java/lang/invoke/MethodHandle" ∧ yX1_forNewCall.cls ≠ "java/lang/invoke/VarHandle" ∧ (parseMethodDescriptor yX1_forNewCall.desc).map (fun d => d.parameters.length) = some 3 := by decide +kernel
set_option maxHeartbeats 4000000 in
set_option maxRecDepth 100000 in
theorem k_X1_forNewCall (l : Launch) (D : va_G) (cT : Nat → ClassId) (q pn : Nat) (pa : Int32) (qf qt qb qr ph qhf qht pl pm : Nat) (pb : Int32) (qs : Nat) (pfr pto : Nat → Nat) (pbf ptr : Nat → Int32) (phf pht : Nat → Nat) (pbs : Nat → Int32) (sA fst wid mid las pat bro mov cnt sI sO sB sM sG sW : Nat) (inp outs brd : Nat → Nat) (fb lb : Nat) (hCn : cnt ≤ 16) (hIn : ∀ c, c < 16 → inp c < 16) (hOu : ∀ c, c < 16 → outs c < 65536) (hBo : ∀ c, c < 16 → brd c < 4) (hW1 : 1 ≤ wid) (hW2 : wid ≤ 4) (hfr : ∀ c, c < 16 → pfr c < 65536 ∧ pto c < 65536) (hok : Ok1 cnt wid inp outs brd) (hM4 : mid ≤ 4) (hPa : pat ≤ 3) (hc15 : cnt < 16) (hfb : fb < 4) (hlb : lb < 4) : MWi (S := Nat × Int32 × Nat × Nat × Nat × Int32 × (Nat → Nat) × (Nat → Nat) × (Nat → Int32) × (Nat → Int32) × (Nat → Nat) × (Nat → Nat) × (Nat → Int32)) l D cT yX1_forNewCall wsX1_forNewCall rmX1_forNewCall [.ref q, .ref sA, .int (nI fb), .int (nI lb)] [(q, cPl pn pa qf qt qb qr ph qhf qht pl pm pb qs), (qf, aN (cT 0) 16 pfr), (qt, aN (cT 0) 16 pto), (qb, aI (cT 0) 16 pbf), (qr, aI (cT 0) 16 ptr), (qhf, aN (cT 0) 4 phf), (qht, aN (cT 0) 4 pht), (qs, aI (cT 0) 16 pbs), (sA, cSt fst wid mid las pat bro mov cnt sI sO sB sM sG sW), (sI, aN (cT 0) 16 inp), (sO, aN (cT 0) 16 outs), (sB, aN (cT 0) 16 brd)] (fun r u => PlanR (cnt + 1) (fun j => (wo (2 ^ mid - 1) bro).testBit j) (frN cnt wid inp fb) (toN cnt wid outs lb) (bfN cnt brd) pat r u.2.2.2.2.2.2.2.2.2.2.2.2 ∧ (∀ c, c < 16 → u.2.2.2.2.2.2.1 c < 65536 ∧ u.2.2.2.2.2.2.2.1 c < 65536)) (fun u => [(q, cPl u.1 u.2.1 qf qt qb qr u.2.2.1 qhf qht u.2.2.2.1 u.2.2.2.2.1 u.2.2.2.2.2.1 qs), (qf, aN (cT 0) 16 u.2.2.2.2.2.2.1), (qt, aN (cT 0) 16 u.2.2.2.2.2.2.2.1), (qb, aI (cT 0) 16 u.2.2.2.2.2.2.2.2.1), (qr, aI (cT 0) 16 u.2.2.2.2.2.2.2.2.2.1), (qhf, aN (cT 0) 4 u.2.2.2.2.2.2.2.2.2.2.1), (qht, aN (cT 0) 4 u.2.2.2.2.2.2.2.2.2.2.2.1), (qs, aI (cT 0) 16 u.2.2.2.2.2.2.2.2.2.2.2.2), (sA, cSt fst wid mid las pat bro mov cnt sI sO sB sM sG sW), (sI, aN (cT 0) 16 inp), (sO, aN (cT 0) 16 outs), (sB, aN (cT 0) 16 brd)]) 0 0 := by
  refine m_Wi [(0, .ref q), (1, .ref sA), (2, .int (nI fb)), (3, .int (nI lb))] (by decide +kernel) rfl (Nat.le_of_ble_eq_true rfl) rfl ?_
  intro p e s m args below meth c A hAe C hA hr hk hnm_
  generalize hQ : MQ below (va_Qi _ _ A) args s 0 0 A = Q
  refine r_aln (pc := 0) C 0 rfl dX1_forNewCall_0 ?_
  refine r_aln (pc := 1) C 1 rfl dX1_forNewCall_1 ?_
  refine r_aln (pc := 2) C 1 rfl dX1_forNewCall_2 ?_
  refine c_RV (pc := 3) (As := []) (wc := [(sA, cSt fst wid mid las pat bro mov cnt sI sO sB sM sG sW)]) (qr := 8) C (k_X3_wholeBoards l D cT sA fst wid mid las pat bro mov cnt sI sO sB sM sG sW hM4) (cwV 0 C.1.2.2.2.2 gX1_forNewCall_X3_wholeBoards rfl rfl rfl n_X3_wholeBoards ⟨Nat.le_of_ble_eq_true rfl, Nat.le_of_ble_eq_true rfl⟩) [8] rfl rfl rfl rfl rfl (Nat.le_of_ble_eq_true rfl) ⟨Nat.zero_le _, Nat.zero_le _⟩ dX1_forNewCall_3 (fun r3 h1 => ?_)
  subst h1
  refine r_aln (pc := 6) C 1 rfl dX1_forNewCall_6 ?_
  refine r_get (pc := 7) C iX1_forNewCall_X3 8 rfl rfl 4 (by decide) (mw 1 rfl) rfl rfl dX1_forNewCall_7 ?_
  refine c_WVv (pc := 10) (As := [.ref sA, .int (nI (wo (2 ^ mid - 1) bro)), .int (nI pat)]) (wc := [(q, cPl pn pa qf qt qb qr ph qhf qht pl pm pb qs), (qf, aN (cT 0) 16 pfr), (qt, aN (cT 0) 16 pto), (qb, aI (cT 0) 16 pbf), (qr, aI (cT 0) 16 ptr), (qhf, aN (cT 0) 4 phf), (qht, aN (cT 0) 4 pht), (qs, aI (cT 0) 16 pbs), (sA, cSt fst wid mid las pat bro mov cnt sI sO sB sM sG sW), (sI, aN (cT 0) 16 inp), (sO, aN (cT 0) 16 outs), (sB, aN (cT 0) 16 brd)]) (wr := []) (qr := 0) C hA (k_X1_start l D cT q pn pa qf qt qb qr ph qhf qht pl pm pb qs pfr pto pbf ptr phf pht pbs sA fst wid mid las pat bro mov cnt sI sO sB sM sG sW inp outs brd (wo (2 ^ mid - 1) bro) pat hCn hIn hOu hBo hW1 hW2 hfr) (cwV 3 C.1.2.2.2.2 gX1_forNewCall_X1_start rfl rfl rfl n_X1_start ⟨Nat.le_of_ble_eq_true rfl, Nat.le_of_ble_eq_true rfl⟩) rfl rfl [0, 1, 2, 3, 4, 5, 6, 7, 8, 9, 10, 11] [] rfl rfl ⟨by decide, by decide⟩ (by decide) [0, 1, 2, 3, 4, 5, 6, 7, 8, 9, 10, 11] (fun u3 => [(q, cPl cnt (-1) qf qt qb qr 0 qhf qht (wo (2 ^ mid - 1) bro) pat (-1) qs), (qf, aN (cT 0) 16 u3.1), (qt, aN (cT 0) 16 u3.2.1), (qb, aI (cT 0) 16 u3.2.2.1), (qr, aI (cT 0) 16 u3.2.2.2.1), (qhf, aN (cT 0) 4 u3.2.2.2.2.1), (qht, aN (cT 0) 4 u3.2.2.2.2.2), (qs, aI (cT 0) 16 pbs), (sA, cSt fst wid mid las pat bro mov cnt sI sO sB sM sG sW), (sI, aN (cT 0) 16 inp), (sO, aN (cT 0) 16 outs), (sB, aN (cT 0) 16 brd)]) (fun _ => rfl) (by decide) rfl rfl (Nat.le_of_ble_eq_true rfl) ⟨Nat.zero_le _, Nat.zero_le _⟩ dX1_forNewCall_10 (fun u3 h2 => ?_)
  obtain ⟨e1, e2, e3⟩ := h2
  refine r_aln (pc := 13) C 0 rfl dX1_forNewCall_13 ?_
  refine r_get (pc := 14) C iX1_forNewCall_X1 0 rfl rfl 0 (by decide) (mw 2 rfl) rfl rfl dX1_forNewCall_14 ?_
  refine r_bi (pc := 17) (v := nI 16) C rfl dX1_forNewCall_17 ?_
  refine r_cltN (pc := 19) (tgt := 24) C (by first | omega | exact p2_lt31 (by omega) | exact wo_lt (m1_lt hM4)) (by first | omega | exact p2_lt31 (by omega) | exact wo_lt (m1_lt hM4)) dX1_forNewCall_19 (by decide) (fun c19 => ?_) (fun c19 => absurd c19 (by omega))
  refine r_aln (pc := 24) C 0 rfl dX1_forNewCall_24 ?_
  refine r_aln (pc := 25) C 0 rfl dX1_forNewCall_25 ?_
  refine r_get (pc := 26) C iX1_forNewCall_X1 0 rfl rfl 0 (by decide) (mw 2 rfl) rfl rfl dX1_forNewCall_26 ?_
  refine r_put (pc := 29) (ws2 := [(q, cPl cnt (nI cnt) qf qt qb qr 0 qhf qht (wo (2 ^ mid - 1) bro) pat (-1) qs), (qf, aN (cT 0) 16 u3.1), (qt, aN (cT 0) 16 u3.2.1), (qb, aI (cT 0) 16 u3.2.2.1), (qr, aI (cT 0) 16 u3.2.2.2.1), (qhf, aN (cT 0) 4 u3.2.2.2.2.1), (qht, aN (cT 0) 4 u3.2.2.2.2.2), (qs, aI (cT 0) 16 pbs), (sA, cSt fst wid mid las pat bro mov cnt sI sO sB sM sG sW), (sI, aN (cT 0) 16 inp), (sO, aN (cT 0) 16 outs), (sB, aN (cT 0) 16 brd)]) C iX1_forNewCall_X1 tyX1_ok nmX1 0 rfl rfl 1 (by decide) (mw 3 rfl) rfl rfl rfl rfl (Nat.le_of_ble_eq_true rfl) rfl dX1_forNewCall_29 ?_
  refine r_aln (pc := 32) C 0 rfl dX1_forNewCall_32 ?_
  refine r_get (pc := 33) C iX1_forNewCall_X1 0 rfl rfl 2 (by decide) (mw 4 rfl) rfl rfl dX1_forNewCall_33 ?_
  refine r_aln (pc := 36) C 0 rfl dX1_forNewCall_36 ?_
  refine r_get (pc := 37) C iX1_forNewCall_X1 0 rfl rfl 1 (by decide) (mw 3 rfl) rfl rfl dX1_forNewCall_37 ?_
  refine r_ic (pc := 40) (v := nI 1) C rfl dX1_forNewCall_40 ?_
  refine r_iln (pc := 41) C 2 rfl dX1_forNewCall_41 ?_
  refine r_ishlN (pc := 42) C (by first | omega | exact p2_lt31 (by omega) | exact wo_lt (m1_lt hM4)) (by rw [Nat.one_mul]; exact p2_lt31 (by first | omega | exact p2_lt31 (by omega) | exact wo_lt (m1_lt hM4))) dX1_forNewCall_42 ?_
  refine r_v (y := nI (2 ^ fb)) (congrArg nI (Nat.one_mul _)) ?_
  refine r_iasN (pc := 43) (ws2 := [(q, cPl cnt (nI cnt) qf qt qb qr 0 qhf qht (wo (2 ^ mid - 1) bro) pat (-1) qs), (qf, aN (cT 0) 16 (va_up u3.1 cnt (2 ^ fb))), (qt, aN (cT 0) 16 u3.2.1), (qb, aI (cT 0) 16 u3.2.2.1), (qr, aI (cT 0) 16 u3.2.2.2.1), (qhf, aN (cT 0) 4 u3.2.2.2.2.1), (qht, aN (cT 0) 4 u3.2.2.2.2.2), (qs, aI (cT 0) 16 pbs), (sA, cSt fst wid mid las pat bro mov cnt sI sO sB sM sG sW), (sI, aN (cT 0) 16 inp), (sO, aN (cT 0) 16 outs), (sB, aN (cT 0) 16 brd)]) C 1 rfl (by first | omega | exact p2_lt31 (by omega) | exact wo_lt (m1_lt hM4)) (by decide) rfl dX1_forNewCall_43 ?_
  refine r_aln (pc := 44) C 0 rfl dX1_forNewCall_44 ?_
  refine r_get (pc := 45) C iX1_forNewCall_X1 0 rfl rfl 3 (by decide) (mw 5 rfl) rfl rfl dX1_forNewCall_45 ?_
  refine r_aln (pc := 48) C 0 rfl dX1_forNewCall_48 ?_
  refine r_get (pc := 49) C iX1_forNewCall_X1 0 rfl rfl 1 (by decide) (mw 3 rfl) rfl rfl dX1_forNewCall_49 ?_
  refine r_ic (pc := 52) (v := nI 1) C rfl dX1_forNewCall_52 ?_
  refine r_iln (pc := 53) C 3 rfl dX1_forNewCall_53 ?_
  refine r_ishlN (pc := 54) C (by first | omega | exact p2_lt31 (by omega) | exact wo_lt (m1_lt hM4)) (by rw [Nat.one_mul]; exact p2_lt31 (by first | omega | exact p2_lt31 (by omega) | exact wo_lt (m1_lt hM4))) dX1_forNewCall_54 ?_
  refine r_v (y := nI (2 ^ lb)) (congrArg nI (Nat.one_mul _)) ?_
  refine r_iasN (pc := 55) (ws2 := [(q, cPl cnt (nI cnt) qf qt qb qr 0 qhf qht (wo (2 ^ mid - 1) bro) pat (-1) qs), (qf, aN (cT 0) 16 (va_up u3.1 cnt (2 ^ fb))), (qt, aN (cT 0) 16 (va_up u3.2.1 cnt (2 ^ lb))), (qb, aI (cT 0) 16 u3.2.2.1), (qr, aI (cT 0) 16 u3.2.2.2.1), (qhf, aN (cT 0) 4 u3.2.2.2.2.1), (qht, aN (cT 0) 4 u3.2.2.2.2.2), (qs, aI (cT 0) 16 pbs), (sA, cSt fst wid mid las pat bro mov cnt sI sO sB sM sG sW), (sI, aN (cT 0) 16 inp), (sO, aN (cT 0) 16 outs), (sB, aN (cT 0) 16 brd)]) C 2 rfl (by first | omega | exact p2_lt31 (by omega) | exact wo_lt (m1_lt hM4)) (by decide) rfl dX1_forNewCall_55 ?_
  refine r_aln (pc := 56) C 0 rfl dX1_forNewCall_56 ?_
  refine r_get (pc := 57) C iX1_forNewCall_X1 0 rfl rfl 4 (by decide) (mw 6 rfl) rfl rfl dX1_forNewCall_57 ?_
  refine r_aln (pc := 60) C 0 rfl dX1_forNewCall_60 ?_
  refine r_get (pc := 61) C iX1_forNewCall_X1 0 rfl rfl 1 (by decide) (mw 3 rfl) rfl rfl dX1_forNewCall_61 ?_
  refine r_ic (pc := 64) (v := (-1)) C rfl dX1_forNewCall_64 ?_
  refine r_iasI (pc := 65) (ws2 := [(q, cPl cnt (nI cnt) qf qt qb qr 0 qhf qht (wo (2 ^ mid - 1) bro) pat (-1) qs), (qf, aN (cT 0) 16 (va_up u3.1 cnt (2 ^ fb))), (qt, aN (cT 0) 16 (va_up u3.2.1 cnt (2 ^ lb))), (qb, aI (cT 0) 16 (upd u3.2.2.1 cnt (-1))), (qr, aI (cT 0) 16 u3.2.2.2.1), (qhf, aN (cT 0) 4 u3.2.2.2.2.1), (qht, aN (cT 0) 4 u3.2.2.2.2.2), (qs, aI (cT 0) 16 pbs), (sA, cSt fst wid mid las pat bro mov cnt sI sO sB sM sG sW), (sI, aN (cT 0) 16 inp), (sO, aN (cT 0) 16 outs), (sB, aN (cT 0) 16 brd)]) C 3 rfl (by first | omega | exact p2_lt31 (by omega) | exact wo_lt (m1_lt hM4)) (by decide) rfl dX1_forNewCall_65 ?_
  refine r_aln (pc := 66) C 0 rfl dX1_forNewCall_66 ?_
  refine r_dup (pc := 67) C rfl dX1_forNewCall_67 ?_
  refine r_get (pc := 68) C iX1_forNewCall_X1 0 rfl rfl 0 (by decide) (mw 2 rfl) rfl rfl dX1_forNewCall_68 ?_
  refine r_ic (pc := 71) (v := nI 1) C rfl dX1_forNewCall_71 ?_
  refine r_iaddN (pc := 72) C dX1_forNewCall_72 ?_
  refine r_put (pc := 73) (ws2 := [(q, cPl (cnt + 1) (nI cnt) qf qt qb qr 0 qhf qht (wo (2 ^ mid - 1) bro) pat (-1) qs), (qf, aN (cT 0) 16 (va_up u3.1 cnt (2 ^ fb))), (qt, aN (cT 0) 16 (va_up u3.2.1 cnt (2 ^ lb))), (qb, aI (cT 0) 16 (upd u3.2.2.1 cnt (-1))), (qr, aI (cT 0) 16 u3.2.2.2.1), (qhf, aN (cT 0) 4 u3.2.2.2.2.1), (qht, aN (cT 0) 4 u3.2.2.2.2.2), (qs, aI (cT 0) 16 pbs), (sA, cSt fst wid mid las pat bro mov cnt sI sO sB sM sG sW), (sI, aN (cT 0) 16 inp), (sO, aN (cT 0) 16 outs), (sB, aN (cT 0) 16 brd)]) C iX1_forNewCall_X1 tyX1_ok nmX1 0 rfl rfl 0 (by decide) (mw 2 rfl) rfl rfl rfl rfl (Nat.le_of_ble_eq_true rfl) rfl dX1_forNewCall_73 ?_
  refine r_aln (pc := 76) C 0 rfl dX1_forNewCall_76 ?_
  refine r_ic (pc := 77) (v := nI 0) C rfl dX1_forNewCall_77 ?_
  refine r_ic (pc := 78) (v := nI 0) C rfl dX1_forNewCall_78 ?_
  obtain ⟨okP, okI, okB⟩ := new_ok (pat := pat) hc15 hBo hok (wo_lt (m1_lt hM4)) (by omega) hfb hlb e1 e2 e3
  refine c_WSv (pc := 79) (As := [.ref q, .int (nI 0), .int (nI 0)]) (wc := [(q, cPl (cnt + 1) (nI cnt) qf qt qb qr 0 qhf qht (wo (2 ^ mid - 1) bro) pat (-1) qs), (qf, aN (cT 0) 16 (va_up u3.1 cnt (2 ^ fb))), (qt, aN (cT 0) 16 (va_up u3.2.1 cnt (2 ^ lb))), (qb, aI (cT 0) 16 (upd u3.2.2.1 cnt (-1))), (qr, aI (cT 0) 16 u3.2.2.2.1), (qhf, aN (cT 0) 4 u3.2.2.2.2.1), (qht, aN (cT 0) 4 u3.2.2.2.2.2), (qs, aI (cT 0) 16 pbs)]) (wr := [(sA, cSt fst wid mid las pat bro mov cnt sI sO sB sM sG sW), (sI, aN (cT 0) 16 inp), (sO, aN (cT 0) 16 outs), (sB, aN (cT 0) 16 brd)])  C hA (k_X1_settle l D cT 17 q (cnt + 1) (nI cnt) qf qt qb qr 0 qhf qht (wo (2 ^ mid - 1) bro) pat (-1) qs (va_up u3.1 cnt (2 ^ fb)) (va_up u3.2.1 cnt (2 ^ lb)) (upd u3.2.2.1 cnt (-1)) u3.2.2.2.1 u3.2.2.2.2.1 u3.2.2.2.2.2 pbs 0 0 pat (by omega) okP okI okB (Or.inr ⟨cnt, rfl, by omega⟩) ((hct_0 _).symm) ((hmv_0 _ _ _).symm) (Or.inl ⟨rfl, rfl⟩) (by omega)) (va_cwS 3 C.1.2.2.2.2 gX1_forNewCall_X1_settle rfl rfl rfl n_X1_settle ⟨Nat.le_of_ble_eq_true rfl, Nat.le_of_ble_eq_true rfl⟩) [0, 1, 2, 3, 4, 5, 6, 7] [8, 9, 10, 11] rfl rfl ⟨by decide, by decide⟩ (by decide) [4, 5, 6, 7, 8, 9, 10, 11, 0, 1, 2, 3] (fun u5 => [(q, cPl (cnt + 1) (nI cnt) qf qt qb qr 0 qhf qht (wo (2 ^ mid - 1) bro) u5.2.1 u5.2.2.1 qs), (qf, aN (cT 0) 16 (va_up u3.1 cnt (2 ^ fb))), (qt, aN (cT 0) 16 (va_up u3.2.1 cnt (2 ^ lb))), (qb, aI (cT 0) 16 (upd u3.2.2.1 cnt (-1))), (qr, aI (cT 0) 16 u5.1), (qhf, aN (cT 0) 4 u3.2.2.2.2.1), (qht, aN (cT 0) 4 u3.2.2.2.2.2), (qs, aI (cT 0) 16 u5.2.2.2), (sA, cSt fst wid mid las pat bro mov cnt sI sO sB sM sG sW), (sI, aN (cT 0) 16 inp), (sO, aN (cT 0) 16 outs), (sB, aN (cT 0) 16 brd)]) (fun _ => rfl) (by decide) rfl rfl (Nat.le_of_ble_eq_true rfl) ⟨Nat.zero_le _, Nat.zero_le _⟩ dX1_forNewCall_79 (fun u5 h4 => ?_)
  have hR := new_res e1 (plan_res (by omega) h4)
  refine r_aln (pc := 82) C 0 rfl dX1_forNewCall_82 ?_
  refine r_get (pc := 83) C iX1_forNewCall_X1 0 rfl rfl 11 (by decide) (mw 7 rfl) rfl rfl dX1_forNewCall_83 ?_
  subst hQ
  exact e_iW C hr hk (Nat.le_refl _) (Nat.le_refl _) ⟨cnt + 1, nI cnt, 0, wo (2 ^ mid - 1) bro, u5.2.1, u5.2.2.1, va_up u3.1 cnt (2 ^ fb), va_up u3.2.1 cnt (2 ^ lb), upd u3.2.2.1 cnt (-1), u5.1, u3.2.2.2.2.1, u3.2.2.2.2.2, u5.2.2.2⟩ rfl (⟨hR, by intro c hc; exact okP.2.2.2.2.1 c hc⟩) dX1_forNewCall_86

theorem iX1_forMoreOutputs_X1 : ∀ w ∈ u_ws RX1 TX1 13, w ∈ wsX1_forMoreOutputs := by decide +kernel
theorem iX1_forMoreOutputs_X3 : ∀ w ∈ u_ws RX3 TX3 14, w ∈ wsX1_forMoreOutputs := by decide +kernel
abbrev rmX1_forMoreOutputs : Room := { frames := 26, cells := 0, slots := 0, locals := 650 }
theorem n_X1_forMoreOutputs : yX1_forMoreOutputs.cls = RX1 ∧ yX1_forMoreOutputs.cls ≠ "java/lang/invoke/MethodHandle" ∧ yX1_forMoreOutputs.cls ≠ "java/lang/invoke/VarHandle" ∧ (parseMethodDescriptor yX1_forMoreOutputs.desc).map (fun d => d.parameters.length) = some 3 := by decide +kernel
set_option maxHeartbeats 4000000 in
set_option maxRecDepth 100000 in
theorem k_X1_forMoreOutputs (l : Launch) (D : va_G) (cT : Nat → ClassId) (q pn : Nat) (pa : Int32) (qf qt qb qr ph qhf qht pl pm : Nat) (pb : Int32) (qs : Nat) (pfr pto : Nat → Nat) (pbf ptr : Nat → Int32) (phf pht : Nat → Nat) (pbs : Nat → Int32) (sA fst wid mid las pat bro mov cnt sI sO sB sM sG sW : Nat) (inp outs brd : Nat → Nat) (ca lb : Nat) (hCn : cnt ≤ 16) (hIn : ∀ c, c < 16 → inp c < 16) (hOu : ∀ c, c < 16 → outs c < 65536) (hBo : ∀ c, c < 16 → brd c < 4) (hW1 : 1 ≤ wid) (hW2 : wid ≤ 4) (hfr : ∀ c, c < 16 → pfr c < 65536 ∧ pto c < 65536) (hok : Ok1 cnt wid inp outs brd) (hM4 : mid ≤ 4) (hPa : pat ≤ 3) (hca : ca < cnt) (hlb : lb < 4) : MWi (S := Nat × Int32 × Nat × Nat × Nat × Int32 × (Nat → Nat) × (Nat → Nat) × (Nat → Int32) × (Nat → Int32) × (Nat → Nat) × (Nat → Nat) × (Nat → Int32)) l D cT yX1_forMoreOutputs wsX1_forMoreOutputs rmX1_forMoreOutputs [.ref q, .ref sA, .int (nI ca), .int (nI lb)] [(q, cPl pn pa qf qt qb qr ph qhf qht pl pm pb qs), (qf, aN (cT 0) 16 pfr), (qt, aN (cT 0) 16 pto), (qb, aI (cT 0) 16 pbf), (qr, aI (cT 0) 16 ptr), (qhf, aN (cT 0) 4 phf), (qht, aN (cT 0) 4 pht), (qs, aI (cT 0) 16 pbs), (sA, cSt fst wid mid las pat bro mov cnt sI sO sB sM sG sW), (sI, aN (cT 0) 16 inp), (sO, aN (cT 0) 16 outs), (sB, aN (cT 0) 16 brd)] (fun r u => PlanR cnt (fun j => (wo (2 ^ mid - 1) bro).testBit j) (fun c => 2 ^ (inp c / wid)) (toM wid outs ca lb) (fun c => nI (brd c)) pat r u.2.2.2.2.2.2.2.2.2.2.2.2 ∧ (∀ c, c < 16 → u.2.2.2.2.2.2.1 c < 65536 ∧ u.2.2.2.2.2.2.2.1 c < 65536)) (fun u => [(q, cPl u.1 u.2.1 qf qt qb qr u.2.2.1 qhf qht u.2.2.2.1 u.2.2.2.2.1 u.2.2.2.2.2.1 qs), (qf, aN (cT 0) 16 u.2.2.2.2.2.2.1), (qt, aN (cT 0) 16 u.2.2.2.2.2.2.2.1), (qb, aI (cT 0) 16 u.2.2.2.2.2.2.2.2.1), (qr, aI (cT 0) 16 u.2.2.2.2.2.2.2.2.2.1), (qhf, aN (cT 0) 4 u.2.2.2.2.2.2.2.2.2.2.1), (qht, aN (cT 0) 4 u.2.2.2.2.2.2.2.2.2.2.2.1), (qs, aI (cT 0) 16 u.2.2.2.2.2.2.2.2.2.2.2.2), (sA, cSt fst wid mid las pat bro mov cnt sI sO sB sM sG sW), (sI, aN (cT 0) 16 inp), (sO, aN (cT 0) 16 outs), (sB, aN (cT 0) 16 brd)]) 0 0 := by
  refine m_Wi [(0, .ref q), (1, .ref sA), (2, .int (nI ca)), (3, .int (nI lb))] (by decide +kernel) rfl (Nat.le_of_ble_eq_true rfl) rfl ?_
  intro p e s m args below meth c A hAe C hA hr hk hnm_
  generalize hQ : MQ below (va_Qi _ _ A) args s 0 0 A = Q
  refine r_aln (pc := 0) C 0 rfl dX1_forMoreOutputs_0 ?_
  refine r_aln (pc := 1) C 1 rfl dX1_forMoreOutputs_1 ?_
  refine r_aln (pc := 2) C 1 rfl dX1_forMoreOutputs_2 ?_
  refine c_RV (pc := 3) (As := []) (wc := [(sA, cSt fst wid mid las pat bro mov cnt sI sO sB sM sG sW)]) (qr := 8) C (k_X3_wholeBoards l D cT sA fst wid mid las pat bro mov cnt sI sO sB sM sG sW hM4) (cwV 0 C.1.2.2.2.2 gX1_forMoreOutputs_X3_wholeBoards rfl rfl rfl n_X3_wholeBoards ⟨Nat.le_of_ble_eq_true rfl, Nat.le_of_ble_eq_true rfl⟩) [8] rfl rfl rfl rfl rfl (Nat.le_of_ble_eq_true rfl) ⟨Nat.zero_le _, Nat.zero_le _⟩ dX1_forMoreOutputs_3 (fun r3 h1 => ?_)
  subst h1
  refine r_aln (pc := 6) C 1 rfl dX1_forMoreOutputs_6 ?_
  refine r_get (pc := 7) C iX1_forMoreOutputs_X3 8 rfl rfl 4 (by decide) (mw 1 rfl) rfl rfl dX1_forMoreOutputs_7 ?_
  refine c_WVv (pc := 10) (As := [.ref sA, .int (nI (wo (2 ^ mid - 1) bro)), .int (nI pat)]) (wc := [(q, cPl pn pa qf qt qb qr ph qhf qht pl pm pb qs), (qf, aN (cT 0) 16 pfr), (qt, aN (cT 0) 16 pto), (qb, aI (cT 0) 16 pbf), (qr, aI (cT 0) 16 ptr), (qhf, aN (cT 0) 4 phf), (qht, aN (cT 0) 4 pht), (qs, aI (cT 0) 16 pbs), (sA, cSt fst wid mid las pat bro mov cnt sI sO sB sM sG sW), (sI, aN (cT 0) 16 inp), (sO, aN (cT 0) 16 outs), (sB, aN (cT 0) 16 brd)]) (wr := []) (qr := 0) C hA (k_X1_start l D cT q pn pa qf qt qb qr ph qhf qht pl pm pb qs pfr pto pbf ptr phf pht pbs sA fst wid mid las pat bro mov cnt sI sO sB sM sG sW inp outs brd (wo (2 ^ mid - 1) bro) pat hCn hIn hOu hBo hW1 hW2 hfr) (cwV 3 C.1.2.2.2.2 gX1_forMoreOutputs_X1_start rfl rfl rfl n_X1_start ⟨Nat.le_of_ble_eq_true rfl, Nat.le_of_ble_eq_true rfl⟩) rfl rfl [0, 1, 2, 3, 4, 5, 6, 7, 8, 9, 10, 11] [] rfl rfl ⟨by decide, by decide⟩ (by decide) [0, 1, 2, 3, 4, 5, 6, 7, 8, 9, 10, 11] (fun u3 => [(q, cPl cnt (-1) qf qt qb qr 0 qhf qht (wo (2 ^ mid - 1) bro) pat (-1) qs), (qf, aN (cT 0) 16 u3.1), (qt, aN (cT 0) 16 u3.2.1), (qb, aI (cT 0) 16 u3.2.2.1), (qr, aI (cT 0) 16 u3.2.2.2.1), (qhf, aN (cT 0) 4 u3.2.2.2.2.1), (qht, aN (cT 0) 4 u3.2.2.2.2.2), (qs, aI (cT 0) 16 pbs), (sA, cSt fst wid mid las pat bro mov cnt sI sO sB sM sG sW), (sI, aN (cT 0) 16 inp), (sO, aN (cT 0) 16 outs), (sB, aN (cT 0) 16 brd)]) (fun _ => rfl) (by decide) rfl rfl (Nat.le_of_ble_eq_true rfl) ⟨Nat.zero_le _, Nat.zero_le _⟩ dX1_forMoreOutputs_10 (fun u3 h2 => ?_)
  obtain ⟨e1, e2, e3⟩ := h2
  refine r_iln (pc := 13) C 2 rfl dX1_forMoreOutputs_13 ?_
  refine r_zltN (pc := 14) (tgt := 25) C (by first | omega | exact p2_lt31 (by omega) | exact wo_lt (m1_lt hM4)) dX1_forMoreOutputs_14 (by decide) ?_
  refine r_iln (pc := 17) C 2 rfl dX1_forMoreOutputs_17 ?_
  refine r_aln (pc := 18) C 0 rfl dX1_forMoreOutputs_18 ?_
  refine r_get (pc := 19) C iX1_forMoreOutputs_X1 0 rfl rfl 0 (by decide) (mw 2 rfl) rfl rfl dX1_forMoreOutputs_19 ?_
  refine r_cltN (pc := 22) (tgt := 27) C (by first | omega | exact p2_lt31 (by omega) | exact wo_lt (m1_lt hM4)) (by first | omega | exact p2_lt31 (by omega) | exact wo_lt (m1_lt hM4)) dX1_forMoreOutputs_22 (by decide) (fun c22 => ?_) (fun c22 => absurd c22 (by omega))
  refine r_aln (pc := 27) C 0 rfl dX1_forMoreOutputs_27 ?_
  refine r_iln (pc := 28) C 2 rfl dX1_forMoreOutputs_28 ?_
  refine r_put (pc := 29) (ws2 := [(q, cPl cnt (nI ca) qf qt qb qr 0 qhf qht (wo (2 ^ mid - 1) bro) pat (-1) qs), (qf, aN (cT 0) 16 u3.1), (qt, aN (cT 0) 16 u3.2.1), (qb, aI (cT 0) 16 u3.2.2.1), (qr, aI (cT 0) 16 u3.2.2.2.1), (qhf, aN (cT 0) 4 u3.2.2.2.2.1), (qht, aN (cT 0) 4 u3.2.2.2.2.2), (qs, aI (cT 0) 16 pbs), (sA, cSt fst wid mid las pat bro mov cnt sI sO sB sM sG sW), (sI, aN (cT 0) 16 inp), (sO, aN (cT 0) 16 outs), (sB, aN (cT 0) 16 brd)]) C iX1_forMoreOutputs_X1 tyX1_ok nmX1 0 rfl rfl 1 (by decide) (mw 3 rfl) rfl rfl rfl rfl (Nat.le_of_ble_eq_true rfl) rfl dX1_forMoreOutputs_29 ?_
  refine r_aln (pc := 32) C 0 rfl dX1_forMoreOutputs_32 ?_
  refine r_get (pc := 33) C iX1_forMoreOutputs_X1 0 rfl rfl 3 (by decide) (mw 4 rfl) rfl rfl dX1_forMoreOutputs_33 ?_
  refine r_aln (pc := 36) C 0 rfl dX1_forMoreOutputs_36 ?_
  refine r_get (pc := 37) C iX1_forMoreOutputs_X1 0 rfl rfl 1 (by decide) (mw 3 rfl) rfl rfl dX1_forMoreOutputs_37 ?_
  refine r_dup2 (pc := 40) C rfl rfl dX1_forMoreOutputs_40 ?_
  refine r_ialN (pc := 41) C 2 rfl (by first | omega | exact p2_lt31 (by omega) | exact wo_lt (m1_lt hM4)) (by decide) dX1_forMoreOutputs_41 ?_
  refine r_ic (pc := 42) (v := nI 1) C rfl dX1_forMoreOutputs_42 ?_
  refine r_iln (pc := 43) C 3 rfl dX1_forMoreOutputs_43 ?_
  refine r_ishlN (pc := 44) C (by first | omega | exact p2_lt31 (by omega) | exact wo_lt (m1_lt hM4)) (by rw [Nat.one_mul]; exact p2_lt31 (by first | omega | exact p2_lt31 (by omega) | exact wo_lt (m1_lt hM4))) dX1_forMoreOutputs_44 ?_
  refine r_v (y := nI (2 ^ lb)) (congrArg nI (Nat.one_mul _)) ?_
  refine r_iorN (pc := 45) C dX1_forMoreOutputs_45 ?_
  refine r_iasN (pc := 46) (ws2 := [(q, cPl cnt (nI ca) qf qt qb qr 0 qhf qht (wo (2 ^ mid - 1) bro) pat (-1) qs), (qf, aN (cT 0) 16 u3.1), (qt, aN (cT 0) 16 (va_up u3.2.1 ca ((u3.2.1 ca) ||| (2 ^ lb)))), (qb, aI (cT 0) 16 u3.2.2.1), (qr, aI (cT 0) 16 u3.2.2.2.1), (qhf, aN (cT 0) 4 u3.2.2.2.2.1), (qht, aN (cT 0) 4 u3.2.2.2.2.2), (qs, aI (cT 0) 16 pbs), (sA, cSt fst wid mid las pat bro mov cnt sI sO sB sM sG sW), (sI, aN (cT 0) 16 inp), (sO, aN (cT 0) 16 outs), (sB, aN (cT 0) 16 brd)]) C 2 rfl (by first | omega | exact p2_lt31 (by omega) | exact wo_lt (m1_lt hM4)) (by decide) rfl dX1_forMoreOutputs_46 ?_
  refine r_aln (pc := 47) C 0 rfl dX1_forMoreOutputs_47 ?_
  refine r_ic (pc := 48) (v := nI 0) C rfl dX1_forMoreOutputs_48 ?_
  refine r_ic (pc := 49) (v := nI 0) C rfl dX1_forMoreOutputs_49 ?_
  obtain ⟨okP, okI, okB⟩ := more_ok (pat := pat) hCn hca hBo hok (wo_lt (m1_lt hM4)) (by omega) hlb e1 e2 e3
  refine c_WSv (pc := 50) (As := [.ref q, .int (nI 0), .int (nI 0)]) (wc := [(q, cPl cnt (nI ca) qf qt qb qr 0 qhf qht (wo (2 ^ mid - 1) bro) pat (-1) qs), (qf, aN (cT 0) 16 u3.1), (qt, aN (cT 0) 16 (va_up u3.2.1 ca ((u3.2.1 ca) ||| (2 ^ lb)))), (qb, aI (cT 0) 16 u3.2.2.1), (qr, aI (cT 0) 16 u3.2.2.2.1), (qhf, aN (cT 0) 4 u3.2.2.2.2.1), (qht, aN (cT 0) 4 u3.2.2.2.2.2), (qs, aI (cT 0) 16 pbs)]) (wr := [(sA, cSt fst wid mid las pat bro mov cnt sI sO sB sM sG sW), (sI, aN (cT 0) 16 inp), (sO, aN (cT 0) 16 outs), (sB, aN (cT 0) 16 brd)])  C hA (k_X1_settle l D cT 17 q cnt (nI ca) qf qt qb qr 0 qhf qht (wo (2 ^ mid - 1) bro) pat (-1) qs u3.1 (va_up u3.2.1 ca ((u3.2.1 ca) ||| (2 ^ lb))) u3.2.2.1 u3.2.2.2.1 u3.2.2.2.2.1 u3.2.2.2.2.2 pbs 0 0 pat (by omega) okP okI okB (Or.inr ⟨ca, rfl, hca⟩) ((hct_0 _).symm) ((hmv_0 _ _ _).symm) (Or.inl ⟨rfl, rfl⟩) (by omega)) (va_cwS 3 C.1.2.2.2.2 gX1_forMoreOutputs_X1_settle rfl rfl rfl n_X1_settle ⟨Nat.le_of_ble_eq_true rfl, Nat.le_of_ble_eq_true rfl⟩) [0, 1, 2, 3, 4, 5, 6, 7] [8, 9, 10, 11] rfl rfl ⟨by decide, by decide⟩ (by decide) [4, 5, 6, 7, 8, 9, 10, 11, 0, 1, 2, 3] (fun u5 => [(q, cPl cnt (nI ca) qf qt qb qr 0 qhf qht (wo (2 ^ mid - 1) bro) u5.2.1 u5.2.2.1 qs), (qf, aN (cT 0) 16 u3.1), (qt, aN (cT 0) 16 (va_up u3.2.1 ca ((u3.2.1 ca) ||| (2 ^ lb)))), (qb, aI (cT 0) 16 u3.2.2.1), (qr, aI (cT 0) 16 u5.1), (qhf, aN (cT 0) 4 u3.2.2.2.2.1), (qht, aN (cT 0) 4 u3.2.2.2.2.2), (qs, aI (cT 0) 16 u5.2.2.2), (sA, cSt fst wid mid las pat bro mov cnt sI sO sB sM sG sW), (sI, aN (cT 0) 16 inp), (sO, aN (cT 0) 16 outs), (sB, aN (cT 0) 16 brd)]) (fun _ => rfl) (by decide) rfl rfl (Nat.le_of_ble_eq_true rfl) ⟨Nat.zero_le _, Nat.zero_le _⟩ dX1_forMoreOutputs_50 (fun u5 h4 => ?_)
  have hR := more_res e1 hca (plan_res hCn h4)
  refine r_aln (pc := 53) C 0 rfl dX1_forMoreOutputs_53 ?_
  refine r_get (pc := 54) C iX1_forMoreOutputs_X1 0 rfl rfl 11 (by decide) (mw 5 rfl) rfl rfl dX1_forMoreOutputs_54 ?_
  subst hQ
  exact e_iW C hr hk (Nat.le_refl _) (Nat.le_refl _) ⟨cnt, nI ca, 0, wo (2 ^ mid - 1) bro, u5.2.1, u5.2.2.1, u3.1, va_up u3.2.1 ca ((u3.2.1 ca) ||| (2 ^ lb)), u3.2.2.1, u5.1, u3.2.2.2.2.1, u3.2.2.2.2.2, u5.2.2.2⟩ rfl (⟨hR, by intro c hc; exact okP.2.2.2.2.1 c hc⟩) dX1_forMoreOutputs_57

theorem iX1_forLosing_X1 : ∀ w ∈ u_ws RX1 TX1 13, w ∈ wsX1_forLosing := by decide +kernel
abbrev rmX1_forLosing : Room := { frames := 26, cells := 0, slots := 0, locals := 650 }
theorem n_X1_forLosing : yX1_forLosing.cls = RX1 ∧ yX1_forLosing.cls ≠ "java/lang/invoke/MethodHandle" ∧ yX1_forLosing.cls ≠ "java/lang/invoke/VarHandle" ∧ (parseMethodDescriptor yX1_forLosing.desc).map (fun d => d.parameters.length) = some 2 := by decide +kernel
set_option maxHeartbeats 4000000 in
set_option maxRecDepth 100000 in
theorem k_X1_forLosing (l : Launch) (D : va_G) (cT : Nat → ClassId) (q pn : Nat) (pa : Int32) (qf qt qb qr ph qhf qht pl pm : Nat) (pb : Int32) (qs : Nat) (pfr pto : Nat → Nat) (pbf ptr : Nat → Int32) (phf pht : Nat → Nat) (pbs : Nat → Int32) (sA fst wid mid las pat bro mov cnt sI sO sB sM sG sW : Nat) (inp outs brd : Nat → Nat) (mb : Nat) (hCn : cnt ≤ 16) (hIn : ∀ c, c < 16 → inp c < 16) (hOu : ∀ c, c < 16 → outs c < 65536) (hBo : ∀ c, c < 16 → brd c < 4) (hW1 : 1 ≤ wid) (hW2 : wid ≤ 4) (hfr : ∀ c, c < 16 → pfr c < 65536 ∧ pto c < 65536) (hok : Ok1 cnt wid inp outs brd) (hM4 : mid ≤ 4) (hPa : pat ≤ 3) (hmb : mb < 4) : MWi (S := Nat × Int32 × Nat × Nat × Nat × Int32 × (Nat → Nat) × (Nat → Nat) × (Nat → Int32) × (Nat → Int32) × (Nat → Nat) × (Nat → Nat) × (Nat → Int32)) l D cT yX1_forLosing wsX1_forLosing rmX1_forLosing [.ref q, .ref sA, .int (nI mb)] [(q, cPl pn pa qf qt qb qr ph qhf qht pl pm pb qs), (qf, aN (cT 0) 16 pfr), (qt, aN (cT 0) 16 pto), (qb, aI (cT 0) 16 pbf), (qr, aI (cT 0) 16 ptr), (qhf, aN (cT 0) 4 phf), (qht, aN (cT 0) 4 pht), (qs, aI (cT 0) 16 pbs), (sA, cSt fst wid mid las pat bro mov cnt sI sO sB sM sG sW), (sI, aN (cT 0) 16 inp), (sO, aN (cT 0) 16 outs), (sB, aN (cT 0) 16 brd)] (fun r u => PlanR cnt (fun j => (wo (wo (2 ^ mid - 1) bro) (2 ^ mb)).testBit j) (fun c => 2 ^ (inp c / wid)) (fun c => lbs wid (outs c)) (fun c => nI (brd c)) 16 r u.2.2.2.2.2.2.2.2.2.2.2.2 ∧ (∀ c, c < 16 → u.2.2.2.2.2.2.1 c < 65536 ∧ u.2.2.2.2.2.2.2.1 c < 65536)) (fun u => [(q, cPl u.1 u.2.1 qf qt qb qr u.2.2.1 qhf qht u.2.2.2.1 u.2.2.2.2.1 u.2.2.2.2.2.1 qs), (qf, aN (cT 0) 16 u.2.2.2.2.2.2.1), (qt, aN (cT 0) 16 u.2.2.2.2.2.2.2.1), (qb, aI (cT 0) 16 u.2.2.2.2.2.2.2.2.1), (qr, aI (cT 0) 16 u.2.2.2.2.2.2.2.2.2.1), (qhf, aN (cT 0) 4 u.2.2.2.2.2.2.2.2.2.2.1), (qht, aN (cT 0) 4 u.2.2.2.2.2.2.2.2.2.2.2.1), (qs, aI (cT 0) 16 u.2.2.2.2.2.2.2.2.2.2.2.2), (sA, cSt fst wid mid las pat bro mov cnt sI sO sB sM sG sW), (sI, aN (cT 0) 16 inp), (sO, aN (cT 0) 16 outs), (sB, aN (cT 0) 16 brd)]) 0 0 := by
  refine m_Wi [(0, .ref q), (1, .ref sA), (2, .int (nI mb))] (by decide +kernel) rfl (Nat.le_of_ble_eq_true rfl) rfl ?_
  intro p e s m args below meth c A hAe C hA hr hk hnm_
  generalize hQ : MQ below (va_Qi _ _ A) args s 0 0 A = Q
  refine r_aln (pc := 0) C 0 rfl dX1_forLosing_0 ?_
  refine r_aln (pc := 1) C 1 rfl dX1_forLosing_1 ?_
  refine r_aln (pc := 2) C 1 rfl dX1_forLosing_2 ?_
  refine c_RV (pc := 3) (As := []) (wc := [(sA, cSt fst wid mid las pat bro mov cnt sI sO sB sM sG sW)]) (qr := 8) C (k_X3_wholeBoards l D cT sA fst wid mid las pat bro mov cnt sI sO sB sM sG sW hM4) (cwV 0 C.1.2.2.2.2 gX1_forLosing_X3_wholeBoards rfl rfl rfl n_X3_wholeBoards ⟨Nat.le_of_ble_eq_true rfl, Nat.le_of_ble_eq_true rfl⟩) [8] rfl rfl rfl rfl rfl (Nat.le_of_ble_eq_true rfl) ⟨Nat.zero_le _, Nat.zero_le _⟩ dX1_forLosing_3 (fun r3 h1 => ?_)
  subst h1
  refine r_ic (pc := 6) (v := nI 1) C rfl dX1_forLosing_6 ?_
  refine r_iln (pc := 7) C 2 rfl dX1_forLosing_7 ?_
  refine r_ishlN (pc := 8) C (by first | omega | exact p2_lt31 (by omega) | exact wo_lt (m1_lt hM4)) (by rw [Nat.one_mul]; exact p2_lt31 (by first | omega | exact p2_lt31 (by omega) | exact wo_lt (m1_lt hM4))) dX1_forLosing_8 ?_
  refine r_v (y := nI (2 ^ mb)) (congrArg nI (Nat.one_mul _)) ?_
  refine r_ic (pc := 9) (v := (-1)) C rfl dX1_forLosing_9 ?_
  refine r_ixor (pc := 10) C dX1_forLosing_10 ?_
  refine r_iandWo (pc := 11) C dX1_forLosing_11 ?_
  refine r_bi (pc := 12) (v := nI 16) C rfl dX1_forLosing_12 ?_
  refine c_WVv (pc := 14) (As := [.ref sA, .int (nI (wo (wo (2 ^ mid - 1) bro) (2 ^ mb))), .int (nI 16)]) (wc := [(q, cPl pn pa qf qt qb qr ph qhf qht pl pm pb qs), (qf, aN (cT 0) 16 pfr), (qt, aN (cT 0) 16 pto), (qb, aI (cT 0) 16 pbf), (qr, aI (cT 0) 16 ptr), (qhf, aN (cT 0) 4 phf), (qht, aN (cT 0) 4 pht), (qs, aI (cT 0) 16 pbs), (sA, cSt fst wid mid las pat bro mov cnt sI sO sB sM sG sW), (sI, aN (cT 0) 16 inp), (sO, aN (cT 0) 16 outs), (sB, aN (cT 0) 16 brd)]) (wr := []) (qr := 0) C hA (k_X1_start l D cT q pn pa qf qt qb qr ph qhf qht pl pm pb qs pfr pto pbf ptr phf pht pbs sA fst wid mid las pat bro mov cnt sI sO sB sM sG sW inp outs brd (wo (wo (2 ^ mid - 1) bro) (2 ^ mb)) 16 hCn hIn hOu hBo hW1 hW2 hfr) (cwV 3 C.1.2.2.2.2 gX1_forLosing_X1_start rfl rfl rfl n_X1_start ⟨Nat.le_of_ble_eq_true rfl, Nat.le_of_ble_eq_true rfl⟩) rfl rfl [0, 1, 2, 3, 4, 5, 6, 7, 8, 9, 10, 11] [] rfl rfl ⟨by decide, by decide⟩ (by decide) [0, 1, 2, 3, 4, 5, 6, 7, 8, 9, 10, 11] (fun u3 => [(q, cPl cnt (-1) qf qt qb qr 0 qhf qht (wo (wo (2 ^ mid - 1) bro) (2 ^ mb)) 16 (-1) qs), (qf, aN (cT 0) 16 u3.1), (qt, aN (cT 0) 16 u3.2.1), (qb, aI (cT 0) 16 u3.2.2.1), (qr, aI (cT 0) 16 u3.2.2.2.1), (qhf, aN (cT 0) 4 u3.2.2.2.2.1), (qht, aN (cT 0) 4 u3.2.2.2.2.2), (qs, aI (cT 0) 16 pbs), (sA, cSt fst wid mid las pat bro mov cnt sI sO sB sM sG sW), (sI, aN (cT 0) 16 inp), (sO, aN (cT 0) 16 outs), (sB, aN (cT 0) 16 brd)]) (fun _ => rfl) (by decide) rfl rfl (Nat.le_of_ble_eq_true rfl) ⟨Nat.zero_le _, Nat.zero_le _⟩ dX1_forLosing_14 (fun u3 h2 => ?_)
  obtain ⟨e1, e2, e3⟩ := h2
  refine r_aln (pc := 17) C 0 rfl dX1_forLosing_17 ?_
  refine r_ic (pc := 18) (v := nI 0) C rfl dX1_forLosing_18 ?_
  refine r_ic (pc := 19) (v := nI 0) C rfl dX1_forLosing_19 ?_
  obtain ⟨okP, okI, okB⟩ := los_ok (pat := 16) hCn hBo hok (wo_lt (wo_lt (m1_lt hM4))) (by omega) e1 e2 e3
  refine c_WSv (pc := 20) (As := [.ref q, .int (nI 0), .int (nI 0)]) (wc := [(q, cPl cnt (-1) qf qt qb qr 0 qhf qht (wo (wo (2 ^ mid - 1) bro) (2 ^ mb)) 16 (-1) qs), (qf, aN (cT 0) 16 u3.1), (qt, aN (cT 0) 16 u3.2.1), (qb, aI (cT 0) 16 u3.2.2.1), (qr, aI (cT 0) 16 u3.2.2.2.1), (qhf, aN (cT 0) 4 u3.2.2.2.2.1), (qht, aN (cT 0) 4 u3.2.2.2.2.2), (qs, aI (cT 0) 16 pbs)]) (wr := [(sA, cSt fst wid mid las pat bro mov cnt sI sO sB sM sG sW), (sI, aN (cT 0) 16 inp), (sO, aN (cT 0) 16 outs), (sB, aN (cT 0) 16 brd)])  C hA (k_X1_settle l D cT 17 q cnt (-1) qf qt qb qr 0 qhf qht (wo (wo (2 ^ mid - 1) bro) (2 ^ mb)) 16 (-1) qs u3.1 u3.2.1 u3.2.2.1 u3.2.2.2.1 u3.2.2.2.2.1 u3.2.2.2.2.2 pbs 0 0 16 (by omega) okP okI okB (Or.inl rfl) ((hct_0 _).symm) ((hmv_0 _ _ _).symm) (Or.inl ⟨rfl, rfl⟩) (by omega)) (va_cwS 3 C.1.2.2.2.2 gX1_forLosing_X1_settle rfl rfl rfl n_X1_settle ⟨Nat.le_of_ble_eq_true rfl, Nat.le_of_ble_eq_true rfl⟩) [0, 1, 2, 3, 4, 5, 6, 7] [8, 9, 10, 11] rfl rfl ⟨by decide, by decide⟩ (by decide) [4, 5, 6, 7, 8, 9, 10, 11, 0, 1, 2, 3] (fun u5 => [(q, cPl cnt (-1) qf qt qb qr 0 qhf qht (wo (wo (2 ^ mid - 1) bro) (2 ^ mb)) u5.2.1 u5.2.2.1 qs), (qf, aN (cT 0) 16 u3.1), (qt, aN (cT 0) 16 u3.2.1), (qb, aI (cT 0) 16 u3.2.2.1), (qr, aI (cT 0) 16 u5.1), (qhf, aN (cT 0) 4 u3.2.2.2.2.1), (qht, aN (cT 0) 4 u3.2.2.2.2.2), (qs, aI (cT 0) 16 u5.2.2.2), (sA, cSt fst wid mid las pat bro mov cnt sI sO sB sM sG sW), (sI, aN (cT 0) 16 inp), (sO, aN (cT 0) 16 outs), (sB, aN (cT 0) 16 brd)]) (fun _ => rfl) (by decide) rfl rfl (Nat.le_of_ble_eq_true rfl) ⟨Nat.zero_le _, Nat.zero_le _⟩ dX1_forLosing_20 (fun u5 h4 => ?_)
  have hR := los_res e1 (plan_res hCn h4)
  refine r_aln (pc := 23) C 0 rfl dX1_forLosing_23 ?_
  refine r_get (pc := 24) C iX1_forLosing_X1 0 rfl rfl 11 (by decide) (mw 1 rfl) rfl rfl dX1_forLosing_24 ?_
  subst hQ
  exact e_iW C hr hk (Nat.le_refl _) (Nat.le_refl _) ⟨cnt, (-1), 0, wo (wo (2 ^ mid - 1) bro) (2 ^ mb), u5.2.1, u5.2.2.1, u3.1, u3.2.1, u3.2.2.1, u5.1, u3.2.2.2.2.1, u3.2.2.2.2.2, u5.2.2.2⟩ rfl (⟨hR, by intro c hc; exact okP.2.2.2.2.1 c hc⟩) dX1_forLosing_27

