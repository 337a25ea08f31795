/-! the model: scripts and simulations -/
theorem b01_c {r0 r : Int32} (h : r = B01 r0) : (r = nI 1 ∧ nI 1 = B01 r0) ∨ (r = nI 0 ∧ nI 0 = B01 r0) := by
  unfold B01 at *
  by_cases g : r0 < 0
  · rw [if_pos g] at *; exact Or.inr ⟨h, rfl⟩
  · rw [if_neg g] at *; exact Or.inl ⟨h, rfl⟩
theorem brq_c {u : SS} {mb b : Nat} {r : Int32} {f' : Nat → Int32} (h : BRq u mb b r f') : (r = nI 1 ∧ b ≤ 1 ∧ ∃ r0 v, BKs u (nI mb) b r0 v ∧ RowQ f' v ∧ nI 1 = B01 r0) ∨ (r = nI 0 ∧ b ≤ 1 ∧ ∃ r0 v, BKs u (nI mb) b r0 v ∧ RowQ f' v ∧ nI 0 = B01 r0) ∨ (r = nI 0 ∧ 1 < b ∧ RowQ f' u) := by
  rcases h with ⟨h1, r0, v, h2, h3, h4⟩ | ⟨h1, h2, h3⟩
  · rcases b01_c h4 with ⟨q1, q2⟩ | ⟨q1, q2⟩
    · exact Or.inl ⟨q1, h1, r0, v, h2, h3, q2⟩
    · exact Or.inr (Or.inl ⟨q1, h1, r0, v, h2, h3, q2⟩)
  · exact Or.inr (Or.inr ⟨h2, h1, h3⟩)
def DO2 (u : SS) (g : Nat) (r : Int32) (f' : Nat → Int32) : Prop := (r = nI 1 ∨ r = nI 0) ∧ ∃ v, SUs u g r v ∧ RowQ f' v
theorem in_rng {x : Int32} {K : Int64} {n : Nat} (hK : K.toInt = (n : Int)) (hn : n < 1000) : InQ x.toInt64 1 K ↔ ∃ j, x = nI j ∧ 1 ≤ j ∧ j ≤ n := by
  unfold InQ
  rw [Int32.toInt_toInt64, hK, show (1 : Int64).toInt = 1 by decide]
  constructor
  · rintro ⟨h1, h2⟩
    obtain ⟨j, e, hj⟩ := nI_lt_of_int (n := n + 1) (x := x) (by omega) (by omega) (by omega)
    subst e
    rw [nI_toInt (by omega)] at h1 h2
    exact ⟨j, rfl, by omega, by omega⟩
  · rintro ⟨j, rfl, h1, h2⟩
    rw [nI_toInt (by omega)]; omega
theorem p5 : ∀ m : Fin 4, 10 ^ (5 * m.val) = 100000 ^ m.val := by decide
theorem p5_lt {m : Nat} (h : m ≤ 3) : 10 ^ (5 * m) = 100000 ^ m ∧ 1 ≤ 100000 ^ m ∧ 100000 ^ m < 2 ^ 62 := by
  have h1 := p5 ⟨m, by omega⟩
  have h2 : ∀ m : Fin 4, 1 ≤ 100000 ^ m.val ∧ 100000 ^ m.val < 2 ^ 62 := by decide
  exact ⟨h1, h2 ⟨m, by omega⟩⟩
theorem in_s {sx : Int64} {j : Nat} (hj : j ≤ 3) : InQ sx 0 (jN (10 ^ (5 * j)) - 1) ↔ ∃ s, s < 2 ^ 63 ∧ sx = jN s ∧ s < 100000 ^ j := by
  obtain ⟨e, h1, h2⟩ := p5_lt hj
  rw [e]
  have e2 : (jN (100000 ^ j) - 1).toInt = (100000 ^ j : Nat) - 1 := by
    rw [show jN (100000 ^ j) - 1 = jN (100000 ^ j - 1) from (Int64.ofNat_sub _ _ h1).symm, jN_toInt (by omega)]
    omega
  unfold InQ
  rw [e2, i64_0]
  constructor
  · rintro ⟨g1, g2⟩
    obtain ⟨s, hs, e3⟩ := jN_of (x := sx) (by rw [Int64.lt_iff_toInt_lt, Int64.toInt_zero]; omega)
    rw [e3, jN_toInt hs] at g2
    exact ⟨s, hs, e3, by omega⟩
  · rintro ⟨s, hs, rfl, h⟩
    rw [jN_toInt hs]; omega
theorem jN_n0 {m : Nat} (h : m ≤ 3) : ¬ jN (10 ^ (5 * m)) = 0 := by
  obtain ⟨e, h1, h2⟩ := p5_lt h
  rw [e, jN_0 (by omega)]; omega
theorem jN_divG {a m : Nat} (ha : a < 2 ^ 63) (h : m ≤ 3) : jN a / jN (10 ^ (5 * m)) = jN (a / 100000 ^ m) := by
  obtain ⟨e, h1, h2⟩ := p5_lt h
  rw [e]
  apply Int64.toInt_inj.mp
  rw [Int64.toInt_div_of_ne_right _ _ (fun q => by
    have q2 := congrArg Int64.toInt q
    rw [jN_toInt (by omega), show (-1 : Int64).toInt = -1 by decide] at q2
    omega), jN_toInt ha, jN_toInt (by omega), jN_toInt (Nat.lt_of_le_of_lt (Nat.div_le_self _ _) ha)]
  exact Int.tdiv_eq_ediv_of_nonneg (by omega)
theorem rst_le {a b : Nat} : rst a b ≤ b := by
  unfold rst
  split
  · rename_i h; have := Nat.mod_lt a h; omega
  · omega
theorem rr_cases (g : Nat) : g % 8 = 0 ∨ g % 8 = 1 ∨ g % 8 = 2 ∨ g % 8 = 3 ∨ g % 8 = 4 ∨ g % 8 = 5 ∨ g % 8 = 6 ∨ g % 8 = 7 := by omega
theorem sub_of {a b t : Int32} (h : a = b + t) : a - b = t := by rw [h, Int32.add_comm, Int32.add_sub_cancel]

theorem iX5_does_X5 : ∀ w ∈ u_ws RX5 TX5 14, w ∈ wsX5_does := by decide +kernel
abbrev rmX5_does : Room := { frames := 9, cells := 0, slots := 0, locals := 214 }
theorem n_X5_does : yX5_does.cls = RX5 ∧ yX5_does.cls ≠ "java/lang/invoke/MethodHandle" ∧ yX5_does.cls ≠ "java/lang/invoke/VarHandle" ∧ (parseMethodDescriptor yX5_does.desc).map (fun d => d.parameters.length) = some 1 := by decide +kernel
set_option maxHeartbeats 4000000 in
set_option maxRecDepth 100000 in
theorem k_X5_does (l : Launch) (D : va_G) (cT : Nat → ClassId) (mA mref mscr msz mspot mgood mleft mread mnow mtri mdia macts mkept misk qp : Nat) (pl f : Nat → Int32) (gr : Nat) (u : SS) (hR : RowQ f u) (hJ : JQ u) (hgr : gr < 100000) : MWi (S := (Nat → Int32) × (Nat → Int32)) l D cT yX5_does wsX5_does rmX5_does [.ref mA, .int (nI gr)] [(mA, cMo mref mscr msz mspot mgood mleft mread mnow mtri mdia macts mkept misk qp), (qp, aI (cT 0) 16 pl), (mtri, aI (cT 0) 104 f)] (fun r w9 => DO2 u gr r w9.2) (fun w9 => [(mA, cMo mref mscr msz mspot mgood mleft mread mnow mtri mdia macts mkept misk qp), (qp, aI (cT 0) 16 w9.1), (mtri, aI (cT 0) 104 w9.2)]) 0 0 := by
  refine m_Wi [(0, .ref mA), (1, .int (nI gr))] (by decide +kernel) rfl (Nat.le_of_ble_eq_true rfl) rfl ?_
  intro p e s m args below meth c A hAe C hA hr hk hnm_
  generalize hQ : MQ below (va_Qi _ _ A) args s 0 0 A = Q
  have hB := bd_of hJ
  obtain ⟨hF, hW, hM, hL, hPa, hBr, hCn, hFL, hE⟩ := id hB
  have hFW1 := mul44 hF hW
  have hLW1 := mul44 hL hW
  have hBo := fun k (h : k < u.cnt) => (hJ.1.2.2.2.2.2.2.2.1 k (by omega)).2.2
  have hlk := lk_lt (wid := u.wid) (outs := u.outs) hCn
  refine r_iln (pc := 0) C 1 rfl dX5_does_0 ?_
  refine r_si (pc := 1) (v := nI 10000) C rfl dX5_does_1 ?_
  refine r_idivN (pc := 4) C (by first | omega | (have := hBo _ (by assumption); omega)) (by omega) (by omega) dX5_does_4 ?_
  refine r_isn (pc := 5) C [1, 2, 0] [(0, .ref mA), (1, .int (nI gr)), (2, .int (nI (gr / 10000)))] rfl (by decide) rfl dX5_does_5 ?_
  refine r_iln (pc := 6) C 1 rfl dX5_does_6 ?_
  refine r_bi (pc := 7) (v := nI 100) C rfl dX5_does_7 ?_
  refine r_idivN (pc := 9) C (by first | omega | (have := hBo _ (by assumption); omega)) (by omega) (by omega) dX5_does_9 ?_
  refine r_bi (pc := 10) (v := nI 100) C rfl dX5_does_10 ?_
  refine r_iremN (pc := 12) C (by first | omega | (have := hBo _ (by assumption); omega)) (by omega) (by omega) dX5_does_12 ?_
  refine r_isn (pc := 13) C [1, 2, 3, 0] [(0, .ref mA), (1, .int (nI gr)), (2, .int (nI (gr / 10000))), (3, .int (nI ((gr / 100) % 100)))] rfl (by decide) rfl dX5_does_13 ?_
  refine r_iln (pc := 14) C 1 rfl dX5_does_14 ?_
  refine r_bi (pc := 15) (v := nI 100) C rfl dX5_does_15 ?_
  refine r_iremN (pc := 17) C (by first | omega | (have := hBo _ (by assumption); omega)) (by omega) (by omega) dX5_does_17 ?_
  refine r_is (pc := 18) C [1, 2, 3, 4, 0] [(0, .ref mA), (1, .int (nI gr)), (2, .int (nI (gr / 10000))), (3, .int (nI ((gr / 100) % 100))), (4, .int (nI (gr % 100)))] (by decide) rfl dX5_does_18 ?_
  refine r_iln (pc := 20) C 2 rfl dX5_does_20 ?_
  rcases gr_cases hgr with q | q | q | q | q | q | q | q | q | q
  · refine r_v (y := nI 1) (congrArg nI q) ?_
    refine r_tsN (pc := 21) (tgt := 72) C (by decide) dX5_does_21 (by decide) ?_
    refine r_aln (pc := 72) C 0 rfl dX5_does_72 ?_
    refine r_iln (pc := 73) C 3 rfl dX5_does_73 ?_
    refine r_il (pc := 74) C 4 rfl dX5_does_74 ?_
    refine c_WVi (pc := 76) (As := [.int (nI ((gr / 100) % 100)), .int (nI (gr % 100))]) (wc := [(mA, cMo mref mscr msz mspot mgood mleft mread mnow mtri mdia macts mkept misk qp), (qp, aI (cT 0) 16 pl), (mtri, aI (cT 0) 104 f)]) (wr := []) (qr := 0) C hA (k_X5_connects l D cT mA mref mscr msz mspot mgood mleft mread mnow mtri mdia macts mkept misk qp pl f ((gr / 100) % 100) (gr % 100) u (by first | assumption | omega) (by first | assumption | omega) (by first | assumption | omega) (by first | assumption | omega)) (cwV 2 C.1.2.2.2.2 gX5_does_X5_connects rfl rfl rfl n_X5_connects ⟨Nat.le_of_ble_eq_true rfl, Nat.le_of_ble_eq_true rfl⟩) rfl rfl [0, 1, 2] [] rfl rfl ⟨by decide, by decide⟩ (by decide) [0, 1, 2] (fun u2 => [(mA, cMo mref mscr msz mspot mgood mleft mread mnow mtri mdia macts mkept misk qp), (qp, aI (cT 0) 16 u2.1), (mtri, aI (cT 0) 104 u2.2)]) (fun _ => rfl) (by decide) rfl rfl (Nat.le_of_ble_eq_true rfl) ⟨Nat.zero_le _, Nat.zero_le _⟩ dX5_does_76 (fun r76 u2 h1 => ?_)
    obtain ⟨h10, h1v, h1, h1R, h1e⟩ := h1
    rcases b01_c h1e with ⟨rfl, h1e⟩ | ⟨rfl, h1e⟩
    · subst hQ
      exact e_zW C hr hk rfl (Nat.le_refl _) (Nat.le_refl _) ⟨u2.1, u2.2⟩ rfl (⟨Or.inl rfl, _, su_1 q h1 h1e, h1R⟩) dX5_does_79
    · subst hQ
      exact e_zW C hr hk rfl (Nat.le_refl _) (Nat.le_refl _) ⟨u2.1, u2.2⟩ rfl (⟨Or.inr rfl, _, su_1 q h1 h1e, h1R⟩) dX5_does_79
  · refine r_v (y := nI 2) (congrArg nI q) ?_
    refine r_tsN (pc := 21) (tgt := 80) C (by decide) dX5_does_21 (by decide) ?_
    refine r_aln (pc := 80) C 0 rfl dX5_does_80 ?_
    refine r_iln (pc := 81) C 3 rfl dX5_does_81 ?_
    refine r_il (pc := 82) C 4 rfl dX5_does_82 ?_
    refine c_WVi (pc := 84) (As := [.int (nI ((gr / 100) % 100)), .int (nI (gr % 100))]) (wc := [(mA, cMo mref mscr msz mspot mgood mleft mread mnow mtri mdia macts mkept misk qp), (qp, aI (cT 0) 16 pl), (mtri, aI (cT 0) 104 f)]) (wr := []) (qr := 0) C hA (k_X5_joins l D cT mA mref mscr msz mspot mgood mleft mread mnow mtri mdia macts mkept misk qp pl f ((gr / 100) % 100) (gr % 100) u (by first | assumption | omega) (by first | assumption | omega) (by first | assumption | omega) (by first | assumption | omega)) (cwV 2 C.1.2.2.2.2 gX5_does_X5_joins rfl rfl rfl n_X5_joins ⟨Nat.le_of_ble_eq_true rfl, Nat.le_of_ble_eq_true rfl⟩) rfl rfl [0, 1, 2] [] rfl rfl ⟨by decide, by decide⟩ (by decide) [0, 1, 2] (fun u4 => [(mA, cMo mref mscr msz mspot mgood mleft mread mnow mtri mdia macts mkept misk qp), (qp, aI (cT 0) 16 u4.1), (mtri, aI (cT 0) 104 u4.2)]) (fun _ => rfl) (by decide) rfl rfl (Nat.le_of_ble_eq_true rfl) ⟨Nat.zero_le _, Nat.zero_le _⟩ dX5_does_84 (fun r84 u4 h3 => ?_)
    obtain ⟨h30, h3v, h3, h3R, h3e⟩ := h3
    rcases b01_c h3e with ⟨rfl, h3e⟩ | ⟨rfl, h3e⟩
    · subst hQ
      exact e_zW C hr hk rfl (Nat.le_refl _) (Nat.le_refl _) ⟨u4.1, u4.2⟩ rfl (⟨Or.inl rfl, _, su_2 q h3 h3e, h3R⟩) dX5_does_87
    · subst hQ
      exact e_zW C hr hk rfl (Nat.le_refl _) (Nat.le_refl _) ⟨u4.1, u4.2⟩ rfl (⟨Or.inr rfl, _, su_2 q h3 h3e, h3R⟩) dX5_does_87
  · refine r_v (y := nI 3) (congrArg nI q) ?_
    refine r_tsN (pc := 21) (tgt := 88) C (by decide) dX5_does_21 (by decide) ?_
    refine r_il (pc := 88) C 4 rfl dX5_does_88 ?_
    refine r_zneN (pc := 90) (tgt := 105) C (by first | omega | (have := hBo _ (by assumption); omega)) dX5_does_90 (by decide) (fun c90 => ?_) (fun c90 => ?_)
    · refine r_ic (pc := 105) (v := nI 0) C rfl dX5_does_105 ?_
      subst hQ
      exact e_zW C hr hk rfl (Nat.le_refl _) (Nat.le_refl _) ⟨pl, f⟩ rfl (⟨Or.inr rfl, u, su_8 (Or.inl ⟨q, by omega⟩), hR⟩) dX5_does_106
    · refine r_aln (pc := 93) C 0 rfl dX5_does_93 ?_
      refine r_iln (pc := 94) C 3 rfl dX5_does_94 ?_
      refine c_WVi (pc := 95) (As := [.int (nI ((gr / 100) % 100))]) (wc := [(mA, cMo mref mscr msz mspot mgood mleft mread mnow mtri mdia macts mkept misk qp), (mtri, aI (cT 0) 104 f)]) (wr := [(qp, aI (cT 0) 16 pl)]) (qr := 0) C hA (k_X5_hangs l D cT mA mref mscr msz mspot mgood mleft mread mnow mtri mdia macts mkept misk qp f ((gr / 100) % 100) u (by first | assumption | omega) (by first | assumption | omega) (by first | assumption | omega)) (cwV 1 C.1.2.2.2.2 gX5_does_X5_hangs rfl rfl rfl n_X5_hangs ⟨Nat.le_of_ble_eq_true rfl, Nat.le_of_ble_eq_true rfl⟩) rfl rfl [0, 2] [1] rfl rfl ⟨by decide, by decide⟩ (by decide) [1, 0, 2] (fun u6 => [(mA, cMo mref mscr msz mspot mgood mleft mread mnow mtri mdia macts mkept misk qp), (qp, aI (cT 0) 16 pl), (mtri, aI (cT 0) 104 u6)]) (fun _ => rfl) (by decide) rfl rfl (Nat.le_of_ble_eq_true rfl) ⟨Nat.zero_le _, Nat.zero_le _⟩ dX5_does_95 (fun r95 u6 h5 => ?_)
      obtain ⟨h50, h5v, h5, h5R, h5e⟩ := h5
      rcases b01_c h5e with ⟨rfl, h5e⟩ | ⟨rfl, h5e⟩
      · refine r_zeqN (pc := 98) (tgt := 105) C (by first | omega | (have := hBo _ (by assumption); omega)) dX5_does_98 (by decide) (fun h => absurd h (by decide)) (fun _ => ?_)
        refine r_ic (pc := 101) (v := nI 1) C rfl dX5_does_101 ?_
        refine r_goto (pc := 102) (tgt := 106) C dX5_does_102 (by decide) ?_
        subst hQ
        exact e_zW C hr hk rfl (Nat.le_refl _) (Nat.le_refl _) ⟨pl, u6⟩ rfl (⟨Or.inl rfl, _, su_3 q c90 h5 h5e, h5R⟩) dX5_does_106
      · refine r_zeqN (pc := 98) (tgt := 105) C (by first | omega | (have := hBo _ (by assumption); omega)) dX5_does_98 (by decide) (fun _ => ?_) (fun h => absurd h (by decide))
        refine r_ic (pc := 105) (v := nI 0) C rfl dX5_does_105 ?_
        subst hQ
        exact e_zW C hr hk rfl (Nat.le_refl _) (Nat.le_refl _) ⟨pl, u6⟩ rfl (⟨Or.inr rfl, _, su_3 q c90 h5 h5e, h5R⟩) dX5_does_106
  · refine r_v (y := nI 4) (congrArg nI q) ?_
    refine r_tsN (pc := 21) (tgt := 107) C (by decide) dX5_does_21 (by decide) ?_
    refine r_iln (pc := 107) C 3 rfl dX5_does_107 ?_
    refine r_zneN (pc := 108) (tgt := 124) C (by first | omega | (have := hBo _ (by assumption); omega)) dX5_does_108 (by decide) (fun c108 => ?_) (fun c108 => ?_)
    · refine r_ic (pc := 124) (v := nI 0) C rfl dX5_does_124 ?_
      subst hQ
      exact e_zW C hr hk rfl (Nat.le_refl _) (Nat.le_refl _) ⟨pl, f⟩ rfl (⟨Or.inr rfl, u, su_8 (Or.inr (Or.inl ⟨q, by omega⟩)), hR⟩) dX5_does_125
    · refine r_aln (pc := 111) C 0 rfl dX5_does_111 ?_
      refine r_il (pc := 112) C 4 rfl dX5_does_112 ?_
      refine c_WVi (pc := 114) (As := [.int (nI (gr % 100))]) (wc := [(mA, cMo mref mscr msz mspot mgood mleft mread mnow mtri mdia macts mkept misk qp), (mtri, aI (cT 0) 104 f)]) (wr := [(qp, aI (cT 0) 16 pl)]) (qr := 0) C hA (k_X5_drops l D cT mA mref mscr msz mspot mgood mleft mread mnow mtri mdia macts mkept misk qp f (gr % 100) u (by first | assumption | omega) (by first | assumption | omega) (by first | assumption | omega)) (cwV 1 C.1.2.2.2.2 gX5_does_X5_drops rfl rfl rfl n_X5_drops ⟨Nat.le_of_ble_eq_true rfl, Nat.le_of_ble_eq_true rfl⟩) rfl rfl [0, 2] [1] rfl rfl ⟨by decide, by decide⟩ (by decide) [1, 0, 2] (fun u8 => [(mA, cMo mref mscr msz mspot mgood mleft mread mnow mtri mdia macts mkept misk qp), (qp, aI (cT 0) 16 pl), (mtri, aI (cT 0) 104 u8)]) (fun _ => rfl) (by decide) rfl rfl (Nat.le_of_ble_eq_true rfl) ⟨Nat.zero_le _, Nat.zero_le _⟩ dX5_does_114 (fun r114 u8 h7 => ?_)
      obtain ⟨h70, h7v, h7, h7R, h7e⟩ := h7
      rcases b01_c h7e with ⟨rfl, h7e⟩ | ⟨rfl, h7e⟩
      · refine r_zeqN (pc := 117) (tgt := 124) C (by first | omega | (have := hBo _ (by assumption); omega)) dX5_does_117 (by decide) (fun h => absurd h (by decide)) (fun _ => ?_)
        refine r_ic (pc := 120) (v := nI 1) C rfl dX5_does_120 ?_
        refine r_goto (pc := 121) (tgt := 125) C dX5_does_121 (by decide) ?_
        subst hQ
        exact e_zW C hr hk rfl (Nat.le_refl _) (Nat.le_refl _) ⟨pl, u8⟩ rfl (⟨Or.inl rfl, _, su_4 q c108 h7 h7e, h7R⟩) dX5_does_125
      · refine r_zeqN (pc := 117) (tgt := 124) C (by first | omega | (have := hBo _ (by assumption); omega)) dX5_does_117 (by decide) (fun _ => ?_) (fun h => absurd h (by decide))
        refine r_ic (pc := 124) (v := nI 0) C rfl dX5_does_124 ?_
        subst hQ
        exact e_zW C hr hk rfl (Nat.le_refl _) (Nat.le_refl _) ⟨pl, u8⟩ rfl (⟨Or.inr rfl, _, su_4 q c108 h7 h7e, h7R⟩) dX5_does_125
  · refine r_v (y := nI 5) (congrArg nI q) ?_
    refine r_tsN (pc := 21) (tgt := 126) C (by decide) dX5_does_21 (by decide) ?_
    refine r_il (pc := 126) C 4 rfl dX5_does_126 ?_
    refine r_zneN (pc := 128) (tgt := 150) C (by first | omega | (have := hBo _ (by assumption); omega)) dX5_does_128 (by decide) (fun c128 => ?_) (fun c128 => ?_)
    · refine r_ic (pc := 150) (v := nI 0) C rfl dX5_does_150 ?_
      subst hQ
      exact e_zW C hr hk rfl (Nat.le_refl _) (Nat.le_refl _) ⟨pl, f⟩ rfl (⟨Or.inr rfl, u, su_8 (Or.inr (Or.inr (Or.inl ⟨q, fun g => by omega⟩))), hR⟩) dX5_does_151
    · refine r_aln (pc := 131) C 0 rfl dX5_does_131 ?_
      refine r_iln (pc := 132) C 3 rfl dX5_does_132 ?_
      refine r_bi (pc := 133) (v := nI 10) C rfl dX5_does_133 ?_
      refine r_idivN (pc := 135) C (by first | omega | (have := hBo _ (by assumption); omega)) (by omega) (by omega) dX5_does_135 ?_
      refine r_iln (pc := 136) C 3 rfl dX5_does_136 ?_
      refine r_bi (pc := 137) (v := nI 10) C rfl dX5_does_137 ?_
      refine r_iremN (pc := 139) C (by first | omega | (have := hBo _ (by assumption); omega)) (by omega) (by omega) dX5_does_139 ?_
      refine c_WVi (pc := 140) (As := [.int (nI (((gr / 100) % 100) / 10)), .int (nI (((gr / 100) % 100) % 10))]) (wc := [(mA, cMo mref mscr msz mspot mgood mleft mread mnow mtri mdia macts mkept misk qp), (mtri, aI (cT 0) 104 f)]) (wr := [(qp, aI (cT 0) 16 pl)]) (qr := 0) C hA (k_X5_breaks l D cT mA mref mscr msz mspot mgood mleft mread mnow mtri mdia macts mkept misk qp f (((gr / 100) % 100) / 10) (((gr / 100) % 100) % 10) u (by first | assumption | omega) (by first | assumption | omega) (by first | assumption | omega) (by first | assumption | omega)) (cwV 2 C.1.2.2.2.2 gX5_does_X5_breaks rfl rfl rfl n_X5_breaks ⟨Nat.le_of_ble_eq_true rfl, Nat.le_of_ble_eq_true rfl⟩) rfl rfl [0, 2] [1] rfl rfl ⟨by decide, by decide⟩ (by decide) [1, 0, 2] (fun u10 => [(mA, cMo mref mscr msz mspot mgood mleft mread mnow mtri mdia macts mkept misk qp), (qp, aI (cT 0) 16 pl), (mtri, aI (cT 0) 104 u10)]) (fun _ => rfl) (by decide) rfl rfl (Nat.le_of_ble_eq_true rfl) ⟨Nat.zero_le _, Nat.zero_le _⟩ dX5_does_140 (fun r140 u10 h9 => ?_)
      rcases brq_c h9 with ⟨rfl, h9b, h90, h9v, h9, h9R, h9e⟩ | ⟨rfl, h9b, h90, h9v, h9, h9R, h9e⟩ | ⟨rfl, h9b, h9R⟩
      · refine r_zeqN (pc := 143) (tgt := 150) C (by first | omega | (have := hBo _ (by assumption); omega)) dX5_does_143 (by decide) (fun h => absurd h (by decide)) (fun _ => ?_)
        refine r_ic (pc := 146) (v := nI 1) C rfl dX5_does_146 ?_
        refine r_goto (pc := 147) (tgt := 151) C dX5_does_147 (by decide) ?_
        subst hQ
        exact e_zW C hr hk rfl (Nat.le_refl _) (Nat.le_refl _) ⟨pl, u10⟩ rfl (⟨Or.inl rfl, _, su_5 q c128 h9b h9 h9e, h9R⟩) dX5_does_151
      · refine r_zeqN (pc := 143) (tgt := 150) C (by first | omega | (have := hBo _ (by assumption); omega)) dX5_does_143 (by decide) (fun _ => ?_) (fun h => absurd h (by decide))
        refine r_ic (pc := 150) (v := nI 0) C rfl dX5_does_150 ?_
        subst hQ
        exact e_zW C hr hk rfl (Nat.le_refl _) (Nat.le_refl _) ⟨pl, u10⟩ rfl (⟨Or.inr rfl, _, su_5 q c128 h9b h9 h9e, h9R⟩) dX5_does_151
      · refine r_zeqN (pc := 143) (tgt := 150) C (by first | omega | (have := hBo _ (by assumption); omega)) dX5_does_143 (by decide) (fun _ => ?_) (fun h => absurd h (by decide))
        refine r_ic (pc := 150) (v := nI 0) C rfl dX5_does_150 ?_
        subst hQ
        exact e_zW C hr hk rfl (Nat.le_refl _) (Nat.le_refl _) ⟨pl, u10⟩ rfl (⟨Or.inr rfl, u, su_8 (Or.inr (Or.inr (Or.inl ⟨q, fun g => by omega⟩))), h9R⟩) dX5_does_151
  · refine r_v (y := nI 6) (congrArg nI q) ?_
    refine r_tsN (pc := 21) (tgt := 152) C (by decide) dX5_does_21 (by decide) ?_
    refine r_iln (pc := 152) C 1 rfl dX5_does_152 ?_
    refine r_bi (pc := 153) (v := nI 10) C rfl dX5_does_153 ?_
    refine r_idivN (pc := 155) C (by first | omega | (have := hBo _ (by assumption); omega)) (by omega) (by omega) dX5_does_155 ?_
    refine r_si (pc := 156) (v := nI 1000) C rfl dX5_does_156 ?_
    refine r_iremN (pc := 159) C (by first | omega | (have := hBo _ (by assumption); omega)) (by omega) (by omega) dX5_does_159 ?_
    refine r_zneN (pc := 160) (tgt := 178) C (by first | omega | (have := hBo _ (by assumption); omega)) dX5_does_160 (by decide) (fun c160 => ?_) (fun c160 => ?_)
    · refine r_ic (pc := 178) (v := nI 0) C rfl dX5_does_178 ?_
      subst hQ
      exact e_zW C hr hk rfl (Nat.le_refl _) (Nat.le_refl _) ⟨pl, f⟩ rfl (⟨Or.inr rfl, u, su_8 (Or.inr (Or.inr (Or.inr (Or.inl ⟨q, fun g => by omega⟩)))), hR⟩) dX5_does_179
    · refine r_aln (pc := 163) C 0 rfl dX5_does_163 ?_
      refine r_iln (pc := 164) C 1 rfl dX5_does_164 ?_
      refine r_bi (pc := 165) (v := nI 10) C rfl dX5_does_165 ?_
      refine r_iremN (pc := 167) C (by first | omega | (have := hBo _ (by assumption); omega)) (by omega) (by omega) dX5_does_167 ?_
      refine c_WVi (pc := 168) (As := [.int (nI (gr % 10))]) (wc := [(mA, cMo mref mscr msz mspot mgood mleft mread mnow mtri mdia macts mkept misk qp), (mtri, aI (cT 0) 104 f)]) (wr := [(qp, aI (cT 0) 16 pl)]) (qr := 0) C hA (k_X5_waits l D cT mA mref mscr msz mspot mgood mleft mread mnow mtri mdia macts mkept misk qp f (gr % 10) u (by first | assumption | omega) (by first | assumption | omega) (by first | assumption | omega)) (cwV 1 C.1.2.2.2.2 gX5_does_X5_waits rfl rfl rfl n_X5_waits ⟨Nat.le_of_ble_eq_true rfl, Nat.le_of_ble_eq_true rfl⟩) rfl rfl [0, 2] [1] rfl rfl ⟨by decide, by decide⟩ (by decide) [1, 0, 2] (fun u12 => [(mA, cMo mref mscr msz mspot mgood mleft mread mnow mtri mdia macts mkept misk qp), (qp, aI (cT 0) 16 pl), (mtri, aI (cT 0) 104 u12)]) (fun _ => rfl) (by decide) rfl rfl (Nat.le_of_ble_eq_true rfl) ⟨Nat.zero_le _, Nat.zero_le _⟩ dX5_does_168 (fun r168 u12 h11 => ?_)
      rcases h11 with ⟨h11, rfl, h11R⟩ | ⟨h11, rfl, h11R⟩
      · refine r_zeqN (pc := 171) (tgt := 178) C (by first | omega | (have := hBo _ (by assumption); omega)) dX5_does_171 (by decide) (fun h => absurd h (by decide)) (fun _ => ?_)
        refine r_ic (pc := 174) (v := nI 1) C rfl dX5_does_174 ?_
        refine r_goto (pc := 175) (tgt := 179) C dX5_does_175 (by decide) ?_
        subst hQ
        exact e_zW C hr hk rfl (Nat.le_refl _) (Nat.le_refl _) ⟨pl, u12⟩ rfl (⟨Or.inl rfl, _, su_6 q (by omega) (by omega) h11, h11R⟩) dX5_does_179
      · refine r_zeqN (pc := 171) (tgt := 178) C (by first | omega | (have := hBo _ (by assumption); omega)) dX5_does_171 (by decide) (fun _ => ?_) (fun h => absurd h (by decide))
        refine r_ic (pc := 178) (v := nI 0) C rfl dX5_does_178 ?_
        subst hQ
        exact e_zW C hr hk rfl (Nat.le_refl _) (Nat.le_refl _) ⟨pl, u12⟩ rfl (⟨Or.inr rfl, u, su_8 (Or.inr (Or.inr (Or.inr (Or.inl ⟨q, fun g => by omega⟩)))), h11R⟩) dX5_does_179
  · refine r_v (y := nI 7) (congrArg nI q) ?_
    refine r_tsN (pc := 21) (tgt := 180) C (by decide) dX5_does_21 (by decide) ?_
    refine r_iln (pc := 180) C 3 rfl dX5_does_180 ?_
    refine r_aln (pc := 181) C 0 rfl dX5_does_181 ?_
    refine r_get (pc := 182) C iX5_does_X5 0 rfl rfl 8 (by decide) (mw 1 rfl) rfl rfl dX5_does_182 ?_
    refine r_ic (pc := 185) (v := nI 4) C rfl dX5_does_185 ?_
    refine r_ialI (pc := 186) C 2 rfl (by first | omega | (have := hBo _ (by assumption); omega)) (by decide) dX5_does_186 ?_
    refine r_v (y := nI u.cnt) hR.1.2.2.2.2.1 ?_
    refine r_cgeN (pc := 187) (tgt := 216) C (by first | omega | (have := hBo _ (by assumption); omega)) (by first | omega | (have := hBo _ (by assumption); omega)) dX5_does_187 (by decide) (fun c187 => ?_) (fun c187 => ?_)
    · refine r_ic (pc := 216) (v := nI 0) C rfl dX5_does_216 ?_
      subst hQ
      exact e_zW C hr hk rfl (Nat.le_refl _) (Nat.le_refl _) ⟨pl, f⟩ rfl (⟨Or.inr rfl, u, su_8 (Or.inr (Or.inr (Or.inr (Or.inr (Or.inl ⟨q, fun g => by omega⟩))))), hR⟩) dX5_does_217
    · refine r_il (pc := 190) C 4 rfl dX5_does_190 ?_
      refine r_bi (pc := 192) (v := nI 10) C rfl dX5_does_192 ?_
      refine r_cgeN (pc := 194) (tgt := 216) C (by first | omega | (have := hBo _ (by assumption); omega)) (by first | omega | (have := hBo _ (by assumption); omega)) dX5_does_194 (by decide) (fun c194 => ?_) (fun c194 => ?_)
      · refine r_ic (pc := 216) (v := nI 0) C rfl dX5_does_216 ?_
        subst hQ
        exact e_zW C hr hk rfl (Nat.le_refl _) (Nat.le_refl _) ⟨pl, f⟩ rfl (⟨Or.inr rfl, u, su_8 (Or.inr (Or.inr (Or.inr (Or.inr (Or.inl ⟨q, fun g => by have := hBo _ g.1; omega⟩))))), hR⟩) dX5_does_217
      · refine r_aln (pc := 197) C 0 rfl dX5_does_197 ?_
        refine r_get (pc := 198) C iX5_does_X5 0 rfl rfl 8 (by decide) (mw 1 rfl) rfl rfl dX5_does_198 ?_
        refine r_iln (pc := 201) C 3 rfl dX5_does_201 ?_
        refine r_ic (pc := 202) (v := nI 2) C rfl dX5_does_202 ?_
        refine c_RS (pc := 203) (As := [.int (nI ((gr / 100) % 100)), .int (nI 2)]) (wc := [])  C (k_X5_callAt l D cT ((gr / 100) % 100) 2) (va_cwS 2 C.1.2.2.2.2 gX5_does_X5_callAt rfl rfl rfl n_X5_callAt ⟨Nat.le_of_ble_eq_true rfl, Nat.le_of_ble_eq_true rfl⟩) [] rfl rfl rfl (Nat.le_of_ble_eq_true rfl) ⟨Nat.zero_le _, Nat.zero_le _⟩ dX5_does_203 (fun r203 h13 => ?_)
        subst h13
        refine r_ialI (pc := 206) C 2 rfl (by first | omega | (have := hBo _ (by assumption); omega)) (by decide) dX5_does_206 ?_
        refine r_v (y := nI (u.brd ((gr / 100) % 100))) ((hR.2.1 ((gr / 100) % 100) (by first | omega | (have := hBo _ (by assumption); omega))).2.2.1) ?_
        refine r_il (pc := 207) C 4 rfl dX5_does_207 ?_
        refine r_cneN (pc := 209) (tgt := 216) C (by first | omega | (have := hBo _ (by assumption); omega)) (by first | omega | (have := hBo _ (by assumption); omega)) dX5_does_209 (by decide) (fun c209 => ?_) (fun c209 => ?_)
        · refine r_ic (pc := 216) (v := nI 0) C rfl dX5_does_216 ?_
          subst hQ
          exact e_zW C hr hk rfl (Nat.le_refl _) (Nat.le_refl _) ⟨pl, f⟩ rfl (⟨Or.inr rfl, u, su_8 (Or.inr (Or.inr (Or.inr (Or.inr (Or.inl ⟨q, fun g => c209 g.2⟩))))), hR⟩) dX5_does_217
        · refine r_ic (pc := 212) (v := nI 1) C rfl dX5_does_212 ?_
          refine r_goto (pc := 213) (tgt := 217) C dX5_does_213 (by decide) ?_
          subst hQ
          exact e_zW C hr hk rfl (Nat.le_refl _) (Nat.le_refl _) ⟨pl, f⟩ rfl (⟨Or.inl rfl, u, su_7 (Or.inl ⟨q, c187, c209⟩), hR⟩) dX5_does_217
  · refine r_v (y := nI 8) (congrArg nI q) ?_
    refine r_tsN (pc := 21) (tgt := 218) C (by decide) dX5_does_21 (by decide) ?_
    refine r_iln (pc := 218) C 3 rfl dX5_does_218 ?_
    refine r_zneN (pc := 219) (tgt := 238) C (by first | omega | (have := hBo _ (by assumption); omega)) dX5_does_219 (by decide) (fun c219 => ?_) (fun c219 => ?_)
    · refine r_ic (pc := 238) (v := nI 0) C rfl dX5_does_238 ?_
      subst hQ
      exact e_zW C hr hk rfl (Nat.le_refl _) (Nat.le_refl _) ⟨pl, f⟩ rfl (⟨Or.inr rfl, u, su_8 (Or.inr (Or.inr (Or.inr (Or.inr (Or.inr (Or.inl ⟨q, fun g => by omega⟩)))))), hR⟩) dX5_does_239
    · refine r_aln (pc := 222) C 0 rfl dX5_does_222 ?_
      refine r_get (pc := 223) C iX5_does_X5 0 rfl rfl 8 (by decide) (mw 1 rfl) rfl rfl dX5_does_223 ?_
      refine c_RS (pc := 226) (As := [.ref mtri]) (wc := [(mtri, aI (cT 0) 104 f)])  C (k_X5_links l D cT mtri f u (by first | assumption | omega) (by first | assumption | omega)) (va_cwS 1 C.1.2.2.2.2 gX5_does_X5_links rfl rfl rfl n_X5_links ⟨Nat.le_of_ble_eq_true rfl, Nat.le_of_ble_eq_true rfl⟩) [2] rfl rfl rfl (Nat.le_of_ble_eq_true rfl) ⟨Nat.zero_le _, Nat.zero_le _⟩ dX5_does_226 (fun r226 h14 => ?_)
      subst h14
      refine r_il (pc := 229) C 4 rfl dX5_does_229 ?_
      refine r_cgtN (pc := 231) (tgt := 238) C (by first | omega | (have := hBo _ (by assumption); omega)) (by first | omega | (have := hBo _ (by assumption); omega)) dX5_does_231 (by decide) (fun c231 => ?_) (fun c231 => ?_)
      · refine r_ic (pc := 238) (v := nI 0) C rfl dX5_does_238 ?_
        subst hQ
        exact e_zW C hr hk rfl (Nat.le_refl _) (Nat.le_refl _) ⟨pl, f⟩ rfl (⟨Or.inr rfl, u, su_8 (Or.inr (Or.inr (Or.inr (Or.inr (Or.inr (Or.inl ⟨q, fun g => by omega⟩)))))), hR⟩) dX5_does_239
      · refine r_ic (pc := 234) (v := nI 1) C rfl dX5_does_234 ?_
        refine r_goto (pc := 235) (tgt := 239) C dX5_does_235 (by decide) ?_
        subst hQ
        exact e_zW C hr hk rfl (Nat.le_refl _) (Nat.le_refl _) ⟨pl, f⟩ rfl (⟨Or.inl rfl, u, su_7 (Or.inr (Or.inl ⟨q, c219, c231⟩)), hR⟩) dX5_does_239
  · refine r_v (y := nI 9) (congrArg nI q) ?_
    refine r_tsN (pc := 21) (tgt := 240) C (by decide) dX5_does_21 (by decide) ?_
    refine r_iln (pc := 240) C 3 rfl dX5_does_240 ?_
    refine r_zneN (pc := 241) (tgt := 259) C (by first | omega | (have := hBo _ (by assumption); omega)) dX5_does_241 (by decide) (fun c241 => ?_) (fun c241 => ?_)
    · refine r_ic (pc := 259) (v := nI 0) C rfl dX5_does_259 ?_
      subst hQ
      exact e_zW C hr hk rfl (Nat.le_refl _) (Nat.le_refl _) ⟨pl, f⟩ rfl (⟨Or.inr rfl, u, su_8 (Or.inr (Or.inr (Or.inr (Or.inr (Or.inr (Or.inr (Or.inl ⟨q, fun g => by omega⟩))))))), hR⟩) dX5_does_260
    · refine r_aln (pc := 244) C 0 rfl dX5_does_244 ?_
      refine r_get (pc := 245) C iX5_does_X5 0 rfl rfl 8 (by decide) (mw 1 rfl) rfl rfl dX5_does_245 ?_
      refine r_ic (pc := 248) (v := nI 4) C rfl dX5_does_248 ?_
      refine r_ialI (pc := 249) C 2 rfl (by first | omega | (have := hBo _ (by assumption); omega)) (by decide) dX5_does_249 ?_
      refine r_v (y := nI u.cnt) hR.1.2.2.2.2.1 ?_
      refine r_il (pc := 250) C 4 rfl dX5_does_250 ?_
      refine r_cltN (pc := 252) (tgt := 259) C (by first | omega | (have := hBo _ (by assumption); omega)) (by first | omega | (have := hBo _ (by assumption); omega)) dX5_does_252 (by decide) (fun c252 => ?_) (fun c252 => ?_)
      · refine r_ic (pc := 259) (v := nI 0) C rfl dX5_does_259 ?_
        subst hQ
        exact e_zW C hr hk rfl (Nat.le_refl _) (Nat.le_refl _) ⟨pl, f⟩ rfl (⟨Or.inr rfl, u, su_8 (Or.inr (Or.inr (Or.inr (Or.inr (Or.inr (Or.inr (Or.inl ⟨q, fun g => by omega⟩))))))), hR⟩) dX5_does_260
      · refine r_ic (pc := 255) (v := nI 1) C rfl dX5_does_255 ?_
        refine r_goto (pc := 256) (tgt := 260) C dX5_does_256 (by decide) ?_
        subst hQ
        exact e_zW C hr hk rfl (Nat.le_refl _) (Nat.le_refl _) ⟨pl, f⟩ rfl (⟨Or.inl rfl, u, su_7 (Or.inr (Or.inr ⟨q, c241, c252⟩)), hR⟩) dX5_does_260
  · refine r_v (y := nI 0) (congrArg nI q) ?_
    refine r_tsN (pc := 21) (tgt := 261) C (by decide) dX5_does_21 (by decide) ?_
    refine r_ic (pc := 261) (v := nI 0) C rfl dX5_does_261 ?_
    subst hQ
    exact e_zW C hr hk rfl (Nat.le_refl _) (Nat.le_refl _) ⟨pl, f⟩ rfl (⟨Or.inr rfl, u, su_8 (Or.inr (Or.inr (Or.inr (Or.inr (Or.inr (Or.inr (Or.inr (q)))))))), hR⟩) dX5_does_262

abbrev rmX5_runScript : Room := { frames := 10, cells := 0, slots := 0, locals := 238 }
theorem n_X5_runScript : yX5_runScript.cls = RX5 ∧ yX5_runScript.cls ≠ "java/lang/invoke/MethodHandle" ∧ yX5_runScript.cls ≠ "java/lang/invoke/VarHandle" ∧ (parseMethodDescriptor yX5_runScript.desc).map (fun d => d.parameters.length) = some 2 := by decide +kernel
set_option maxHeartbeats 4000000 in
set_option maxRecDepth 100000 in
theorem k_X5_runScript (l : Launch) (D : va_G) (cT : Nat → ClassId) (mA mref mscr msz mspot mgood mleft mread mnow mtri mdia macts mkept misk qp : Nat) (pl f ft : Nat → Int32) (x : Int32) (sx : Int64) (u : SS) (hR : RowQ f u) (hJ : JQ u) : MWi (S := Nat × (Nat → Int32) × (Nat → Int32)) l D cT yX5_runScript wsX5_runScript rmX5_runScript [.ref mA, .int x, .long sx] [(mA, cMo mref mscr msz mspot mgood mleft mread mnow mtri mdia macts mkept misk qp), (qp, aI (cT 0) 16 pl), (mnow, aI (cT 0) 104 f), (mtri, aI (cT 0) 104 ft)] (fun r w9 => (w9.1 = 1 ∧ ¬ ∃ j, x = nI j ∧ 1 ≤ j ∧ j ≤ 3 ∧ ∃ s, s < 2 ^ 63 ∧ sx = jN s ∧ s < 100000 ^ j) ∨ (w9.1 = 0 ∧ ∃ j s, x = nI j ∧ 1 ≤ j ∧ j ≤ 3 ∧ sx = jN s ∧ s < 2 ^ 63 ∧ s < 100000 ^ j ∧ RSq u (fun i => s / 100000 ^ (j - 1 - i) % 100000) j r)) (fun w9 => [(mA, cMo w9.1 mscr msz mspot mgood mleft mread mnow mtri mdia macts mkept misk qp), (qp, aI (cT 0) 16 w9.2.1), (mnow, aI (cT 0) 104 f), (mtri, aI (cT 0) 104 w9.2.2)]) 0 0 := by
  refine m_Wi [(0, .ref mA), (1, .int x), (2, .long sx)] (by decide +kernel) rfl (Nat.le_of_ble_eq_true rfl) rfl ?_
  intro p e s m args below meth c A hAe C hA hr hk hnm_
  generalize hQ : MQ below (va_Qi _ _ A) args s 0 0 A = Q
  have hB := bd_of hJ
  obtain ⟨hF, hW, hM, hL, hPa, hBr, hCn, hFL, hE⟩ := id hB
  have hFW1 := mul44 hF hW
  have hLW1 := mul44 hL hW
  refine r_iln (pc := 0) C 1 rfl dX5_runScript_0 ?_
  refine r_i2l (pc := 1) C rfl dX5_runScript_1 ?_
  refine r_lc (pc := 2) (v := 1) C rfl dX5_runScript_2 ?_
  refine r_lc2 (pc := 3) C (mw 1 rfl) dX5_runScript_3 ?_
  refine c_RS (pc := 6) (As := [.long x.toInt64, .long 1, .long (3)]) (wc := [])  C (k_X5_in l D cT x.toInt64 1 (3)) (va_cwS 3 C.1.2.2.2.2 gX5_runScript_X5_in rfl rfl rfl n_X5_in ⟨Nat.le_of_ble_eq_true rfl, Nat.le_of_ble_eq_true rfl⟩) [] rfl rfl rfl (Nat.le_of_ble_eq_true rfl) ⟨Nat.zero_le _, Nat.zero_le _⟩ dX5_runScript_6 (fun r6 h1 => ?_)
  rcases h1 with ⟨rfl, h1⟩ | ⟨rfl, h1⟩
  · obtain ⟨h1j, rfl, h1l, h1m⟩ := (in_rng (n := 3) (by decide) (by decide)).mp h1
    refine r_is (pc := 9) C [1, 2, 3, 0] [(0, .ref mA), (1, .int (nI h1j)), (2, .long sx), (4, .int (nI 1))] (by decide) rfl dX5_runScript_9 ?_
    refine r_aln (pc := 11) C 0 rfl dX5_runScript_11 ?_
    refine r_il (pc := 12) C 3 rfl dX5_runScript_12 ?_
    refine r_zeqN (pc := 14) (tgt := 46) C (by omega) dX5_runScript_14 (by decide) (fun h => absurd h (by decide)) (fun _ => ?_)
    refine r_lln (pc := 17) C 2 rfl dX5_runScript_17 ?_
    refine r_lc (pc := 18) (v := 0) C rfl dX5_runScript_18 ?_
    refine r_il (pc := 19) C 3 rfl dX5_runScript_19 ?_
    refine r_zeqN (pc := 21) (tgt := 30) C (by omega) dX5_runScript_21 (by decide) (fun h => absurd h (by decide)) (fun _ => ?_)
    refine r_ic (pc := 24) (v := nI 5) C rfl dX5_runScript_24 ?_
    refine r_iln (pc := 25) C 1 rfl dX5_runScript_25 ?_
    refine r_imulN (pc := 26) C dX5_runScript_26 ?_
    refine r_goto (pc := 27) (tgt := 31) C dX5_runScript_27 (by decide) ?_
    refine c_RSl (pc := 31) (As := [.int (nI (5 * h1j))]) (wc := [])  C (k_X5_tenTo l D cT (5 * h1j) (by omega)) (va_cwS 1 C.1.2.2.2.2 gX5_runScript_X5_tenTo rfl rfl rfl n_X5_tenTo ⟨Nat.le_of_ble_eq_true rfl, Nat.le_of_ble_eq_true rfl⟩) [] rfl rfl rfl (Nat.le_of_ble_eq_true rfl) ⟨Nat.zero_le _, Nat.zero_le _⟩ dX5_runScript_31 (fun r31 h2 => ?_)
    subst h2
    refine r_lc (pc := 34) (v := 1) C rfl dX5_runScript_34 ?_
    refine r_lsub (pc := 35) C dX5_runScript_35 ?_
    refine c_RS (pc := 36) (As := [.long sx, .long 0, .long ((jN (10 ^ (5 * h1j))) - 1)]) (wc := [])  C (k_X5_in l D cT sx 0 ((jN (10 ^ (5 * h1j))) - 1)) (va_cwS 3 C.1.2.2.2.2 gX5_runScript_X5_in rfl rfl rfl n_X5_in ⟨Nat.le_of_ble_eq_true rfl, Nat.le_of_ble_eq_true rfl⟩) [] rfl rfl rfl (Nat.le_of_ble_eq_true rfl) ⟨Nat.zero_le _, Nat.zero_le _⟩ dX5_runScript_36 (fun r36 h3 => ?_)
    rcases h3 with ⟨rfl, h3⟩ | ⟨rfl, h3⟩
    · obtain ⟨h3s, h3t, rfl, h3l⟩ := (in_s (j := h1j) (by omega)).mp h3
      refine r_zeqN (pc := 39) (tgt := 46) C (by omega) dX5_runScript_39 (by decide) (fun h => absurd h (by decide)) (fun _ => ?_)
      refine r_ic (pc := 42) (v := nI 0) C rfl dX5_runScript_42 ?_
      refine r_goto (pc := 43) (tgt := 47) C dX5_runScript_43 (by decide) ?_
      refine c_WVi (pc := 47) (As := [.int (nI 0)]) (wc := [(mA, cMo mref mscr msz mspot mgood mleft mread mnow mtri mdia macts mkept misk qp)]) (wr := [(qp, aI (cT 0) 16 pl), (mnow, aI (cT 0) 104 f), (mtri, aI (cT 0) 104 ft)]) (qr := 0) C hA (k_X5_refused l D cT mA mref mscr msz mspot mgood mleft mread mnow mtri mdia macts mkept misk qp 0 (by first | assumption | omega)) (cwV 1 C.1.2.2.2.2 gX5_runScript_X5_refused rfl rfl rfl n_X5_refused ⟨Nat.le_of_ble_eq_true rfl, Nat.le_of_ble_eq_true rfl⟩) rfl rfl [0] [1, 2, 3] rfl rfl ⟨by decide, by decide⟩ (by decide) [3, 0, 1, 2] (fun u5 => [(mA, cMo u5 mscr msz mspot mgood mleft mread mnow mtri mdia macts mkept misk qp), (qp, aI (cT 0) 16 pl), (mnow, aI (cT 0) 104 f), (mtri, aI (cT 0) 104 ft)]) (fun _ => rfl) (by decide) rfl rfl (Nat.le_of_ble_eq_true rfl) ⟨Nat.zero_le _, Nat.zero_le _⟩ dX5_runScript_47 (fun r47 u5 h4 => ?_)
      obtain ⟨h4, h4m⟩ := h4
      have h4 := h4.trans (if_pos rfl)
      subst h4
      subst h4m
      refine r_zeqN (pc := 50) (tgt := 55) C (by omega) dX5_runScript_50 (by decide) (fun _ => ?_) (fun h => absurd h (by decide))
      refine r_aln (pc := 55) C 0 rfl dX5_runScript_55 ?_
      refine c_WVv (pc := 56) (As := []) (wc := [(mA, cMo 0 mscr msz mspot mgood mleft mread mnow mtri mdia macts mkept misk qp), (mnow, aI (cT 0) 104 f), (mtri, aI (cT 0) 104 ft)]) (wr := [(qp, aI (cT 0) 16 pl)]) (qr := 0) C hA (k_X5_tryIt l D cT mA 0 mscr msz mspot mgood mleft mread mnow mtri mdia macts mkept misk qp f ft) (cwV 0 C.1.2.2.2.2 gX5_runScript_X5_tryIt rfl rfl rfl n_X5_tryIt ⟨Nat.le_of_ble_eq_true rfl, Nat.le_of_ble_eq_true rfl⟩) rfl rfl [0, 2, 3] [1] rfl rfl ⟨by decide, by decide⟩ (by decide) [1, 0, 2, 3] (fun u7 => [(mA, cMo 0 mscr msz mspot mgood mleft mread mnow mtri mdia macts mkept misk qp), (qp, aI (cT 0) 16 pl), (mnow, aI (cT 0) 104 f), (mtri, aI (cT 0) 104 u7)]) (fun _ => rfl) (by decide) rfl rfl (Nat.le_of_ble_eq_true rfl) ⟨Nat.zero_le _, Nat.zero_le _⟩ dX5_runScript_56 (fun u7 h6 => ?_)
      obtain ⟨m8, rfl⟩ : ∃ z, z = u7 := ⟨_, rfl⟩
      try dsimp only at h6
      subst h6
      refine r_ic (pc := 59) (v := nI 0) C rfl dX5_runScript_59 ?_
      refine r_is (pc := 60) C [1, 2, 3, 4, 0] [(0, .ref mA), (1, .int (nI h1j)), (2, .long (jN h3s)), (4, .int (nI 1)), (5, .int (nI 0))] (by decide) rfl dX5_runScript_60 ?_
      have L62 : ∀ (n62 : Nat) (k : Nat) (pl1 : Nat → Int32) (f1 : Nat → Int32) (v : SS) (hkk : k ≤ h1j) (hQr : runQ (fun i => h3s / 100000 ^ (h1j - 1 - i) % 100000) k u v) (hRv : RowQ f1 v) (hJv : JQ v), h1j - k < n62 → RW p l e (headSpec wsX5_runScript rmX5_runScript).room s m args below meth c (IW s D A) 6 0 0 Q [(mA, cMo 0 mscr msz mspot mgood mleft mread mnow mtri mdia macts mkept misk qp), (qp, aI (cT 0) 16 pl1), (mnow, aI (cT 0) 104 f), (mtri, aI (cT 0) 104 f1)] 62 [(0, .ref mA), (1, .int (nI h1j)), (2, .long (jN h3s)), (4, .int (nI 1)), (5, .int (nI k))] [] := by
        intro n62
        induction n62 with
        | zero => intro k pl1 f1 v hkk hQr hRv hJv hn62; exact absurd hn62 (Nat.not_lt_zero _)
        | succ n62 ih62 =>
          intro k pl1 f1 v hkk hQr hRv hJv hn62
          refine r_il (pc := 62) C 4 rfl dX5_runScript_62 ?_
          refine r_iln (pc := 64) C 1 rfl dX5_runScript_64 ?_
          refine r_cgeN (pc := 65) (tgt := 102) C (by omega) (by omega) dX5_runScript_65 (by decide) (fun c65 => ?_) (fun c65 => ?_)
          · refine r_ic (pc := 102) (v := (-1)) C rfl dX5_runScript_102 ?_
            subst hQ
            exact e_iW C hr hk (Nat.le_refl _) (Nat.le_refl _) ⟨0, pl1, f1⟩ rfl (Or.inr ⟨rfl, h1j, h3s, rfl, h1l, h1m, rfl, h3t, h3l, Or.inr ⟨rfl, v, (show k = h1j by omega) ▸ hQr⟩⟩) dX5_runScript_103
          · refine r_aln (pc := 68) C 0 rfl dX5_runScript_68 ?_
            refine r_lln (pc := 69) C 2 rfl dX5_runScript_69 ?_
            refine r_ic (pc := 70) (v := nI 5) C rfl dX5_runScript_70 ?_
            refine r_iln (pc := 71) C 1 rfl dX5_runScript_71 ?_
            refine r_ic (pc := 72) (v := nI 1) C rfl dX5_runScript_72 ?_
            refine r_isubN (pc := 73) C (by omega) dX5_runScript_73 ?_
            refine r_il (pc := 74) C 4 rfl dX5_runScript_74 ?_
            refine r_isubN (pc := 76) C (by omega) dX5_runScript_76 ?_
            refine r_imulN (pc := 77) C dX5_runScript_77 ?_
            refine c_RSl (pc := 78) (As := [.int (nI (5 * ((h1j - 1) - k)))]) (wc := [])  C (k_X5_tenTo l D cT (5 * ((h1j - 1) - k)) (by omega)) (va_cwS 1 C.1.2.2.2.2 gX5_runScript_X5_tenTo rfl rfl rfl n_X5_tenTo ⟨Nat.le_of_ble_eq_true rfl, Nat.le_of_ble_eq_true rfl⟩) [] rfl rfl rfl (Nat.le_of_ble_eq_true rfl) ⟨Nat.zero_le _, Nat.zero_le _⟩ dX5_runScript_78 (fun r78 h9 => ?_)
            subst h9
            refine r_ldiv (pc := 81) C (jN_n0 (m := h1j - 1 - k) (by omega)) dX5_runScript_81 ?_
            refine r_vl (y := jN (h3s / 100000 ^ (h1j - 1 - k))) (jN_divG h3t (by omega)) ?_
            refine r_lc2 (pc := 82) C (mw 2 rfl) dX5_runScript_82 ?_
            refine r_lrem (pc := 85) C (by decide) rfl dX5_runScript_85 ?_
            refine r_vl (y := jN (h3s / 100000 ^ (h1j - 1 - k) % 100000)) (jN_rem (Nat.lt_of_le_of_lt (Nat.div_le_self _ _) h3t)) ?_
            refine r_l2i (pc := 86) C rfl dX5_runScript_86 ?_
            refine r_v (y := nI (h3s / 100000 ^ (h1j - 1 - k) % 100000)) (jN_i _) ?_
            refine c_WVi (pc := 87) (As := [.int (nI (h3s / 100000 ^ (h1j - 1 - k) % 100000))]) (wc := [(mA, cMo 0 mscr msz mspot mgood mleft mread mnow mtri mdia macts mkept misk qp), (qp, aI (cT 0) 16 pl1), (mtri, aI (cT 0) 104 f1)]) (wr := [(mnow, aI (cT 0) 104 f)]) (qr := 0) C hA (k_X5_does l D cT mA 0 mscr msz mspot mgood mleft mread mnow mtri mdia macts mkept misk qp pl1 f1 (h3s / 100000 ^ (h1j - 1 - k) % 100000) v hRv hJv (Nat.mod_lt _ (by decide))) (cwV 1 C.1.2.2.2.2 gX5_runScript_X5_does rfl rfl rfl n_X5_does ⟨Nat.le_of_ble_eq_true rfl, Nat.le_of_ble_eq_true rfl⟩) rfl rfl [0, 1, 3] [2] rfl rfl ⟨by decide, by decide⟩ (by decide) [1, 2, 0, 3] (fun u11 => [(mA, cMo 0 mscr msz mspot mgood mleft mread mnow mtri mdia macts mkept misk qp), (qp, aI (cT 0) 16 u11.1), (mnow, aI (cT 0) 104 f), (mtri, aI (cT 0) 104 u11.2)]) (fun _ => rfl) (by decide) rfl rfl (Nat.le_of_ble_eq_true rfl) ⟨Nat.zero_le _, Nat.zero_le _⟩ dX5_runScript_87 (fun r87 u11 h10 => ?_)
            obtain ⟨rfl | rfl, h10v, h10, h10R⟩ := h10
            · refine r_zneN (pc := 90) (tgt := 96) C (by omega) dX5_runScript_90 (by decide) (fun _ => ?_) (fun h => absurd h (by decide))
              refine r_incN (pc := 96) C 4 [1, 2, 3, 4, 0] [(0, .ref mA), (1, .int (nI h1j)), (2, .long (jN h3s)), (4, .int (nI 1)), (5, .int (nI (k + 1)))] rfl (by decide) rfl dX5_runScript_96 ?_
              refine r_goto (pc := 99) (tgt := 62) C dX5_runScript_99 (by decide) ?_
              exact ih62 (k + 1) u11.1 u11.2 h10v (by omega) ⟨v, _, hQr, (by decide), h10⟩ h10R (jq_su hJv h10) (by omega)
            · refine r_zneN (pc := 90) (tgt := 96) C (by omega) dX5_runScript_90 (by decide) (fun h => absurd h (by decide)) (fun _ => ?_)
              refine r_il (pc := 93) C 4 rfl dX5_runScript_93 ?_
              subst hQ
              exact e_iW C hr hk (Nat.le_refl _) (Nat.le_refl _) ⟨0, u11.1, u11.2⟩ rfl (Or.inr ⟨rfl, h1j, h3s, rfl, h1l, h1m, rfl, h3t, h3l, Or.inl ⟨k, v, _, by omega, rfl, hQr, h10⟩⟩) dX5_runScript_95
      exact L62 _ 0 pl (cpF f ft 0 0 104) u (Nat.zero_le _) rfl (rq_cp hJ hR) hJ (Nat.lt_succ_self _)
    · have h3 := fun g => h3 ((in_s (j := h1j) (by omega)).mpr g)
      refine r_zeqN (pc := 39) (tgt := 46) C (by omega) dX5_runScript_39 (by decide) (fun _ => ?_) (fun h => absurd h (by decide))
      refine r_ic (pc := 46) (v := nI 1) C rfl dX5_runScript_46 ?_
      refine c_WVi (pc := 47) (As := [.int (nI 1)]) (wc := [(mA, cMo mref mscr msz mspot mgood mleft mread mnow mtri mdia macts mkept misk qp)]) (wr := [(qp, aI (cT 0) 16 pl), (mnow, aI (cT 0) 104 f), (mtri, aI (cT 0) 104 ft)]) (qr := 0) C hA (k_X5_refused l D cT mA mref mscr msz mspot mgood mleft mread mnow mtri mdia macts mkept misk qp 1 (by first | assumption | omega)) (cwV 1 C.1.2.2.2.2 gX5_runScript_X5_refused rfl rfl rfl n_X5_refused ⟨Nat.le_of_ble_eq_true rfl, Nat.le_of_ble_eq_true rfl⟩) rfl rfl [0] [1, 2, 3] rfl rfl ⟨by decide, by decide⟩ (by decide) [3, 0, 1, 2] (fun u13 => [(mA, cMo u13 mscr msz mspot mgood mleft mread mnow mtri mdia macts mkept misk qp), (qp, aI (cT 0) 16 pl), (mnow, aI (cT 0) 104 f), (mtri, aI (cT 0) 104 ft)]) (fun _ => rfl) (by decide) rfl rfl (Nat.le_of_ble_eq_true rfl) ⟨Nat.zero_le _, Nat.zero_le _⟩ dX5_runScript_47 (fun r47 u13 h12 => ?_)
      obtain ⟨h12, h12m⟩ := h12
      have h12 := h12.trans (if_neg (by decide))
      subst h12
      subst h12m
      refine r_zeqN (pc := 50) (tgt := 55) C (by omega) dX5_runScript_50 (by decide) (fun h => absurd h (by decide)) (fun _ => ?_)
      refine r_ic (pc := 53) (v := nI 0) C rfl dX5_runScript_53 ?_
      subst hQ
      exact e_iW C hr hk (Nat.le_refl _) (Nat.le_refl _) ⟨1, pl, ft⟩ rfl (Or.inl ⟨rfl, fun ⟨j, e, y1, y2, s, y3, y4, y5⟩ => h3 ⟨s, y3, y4, by rw [nI_inj4 (by omega) (by omega) e]; exact y5⟩⟩) dX5_runScript_54
  · have h1 := fun g => h1 ((in_rng (n := 3) (by decide) (by decide)).mpr g)
    refine r_is (pc := 9) C [1, 2, 3, 0] [(0, .ref mA), (1, .int x), (2, .long sx), (4, .int (nI 0))] (by decide) rfl dX5_runScript_9 ?_
    refine r_aln (pc := 11) C 0 rfl dX5_runScript_11 ?_
    refine r_il (pc := 12) C 3 rfl dX5_runScript_12 ?_
    refine r_zeqN (pc := 14) (tgt := 46) C (by omega) dX5_runScript_14 (by decide) (fun _ => ?_) (fun h => absurd h (by decide))
    refine r_ic (pc := 46) (v := nI 1) C rfl dX5_runScript_46 ?_
    refine c_WVi (pc := 47) (As := [.int (nI 1)]) (wc := [(mA, cMo mref mscr msz mspot mgood mleft mread mnow mtri mdia macts mkept misk qp)]) (wr := [(qp, aI (cT 0) 16 pl), (mnow, aI (cT 0) 104 f), (mtri, aI (cT 0) 104 ft)]) (qr := 0) C hA (k_X5_refused l D cT mA mref mscr msz mspot mgood mleft mread mnow mtri mdia macts mkept misk qp 1 (by first | assumption | omega)) (cwV 1 C.1.2.2.2.2 gX5_runScript_X5_refused rfl rfl rfl n_X5_refused ⟨Nat.le_of_ble_eq_true rfl, Nat.le_of_ble_eq_true rfl⟩) rfl rfl [0] [1, 2, 3] rfl rfl ⟨by decide, by decide⟩ (by decide) [3, 0, 1, 2] (fun u15 => [(mA, cMo u15 mscr msz mspot mgood mleft mread mnow mtri mdia macts mkept misk qp), (qp, aI (cT 0) 16 pl), (mnow, aI (cT 0) 104 f), (mtri, aI (cT 0) 104 ft)]) (fun _ => rfl) (by decide) rfl rfl (Nat.le_of_ble_eq_true rfl) ⟨Nat.zero_le _, Nat.zero_le _⟩ dX5_runScript_47 (fun r47 u15 h14 => ?_)
    obtain ⟨h14, h14m⟩ := h14
    have h14 := h14.trans (if_neg (by decide))
    subst h14
    subst h14m
    refine r_zeqN (pc := 50) (tgt := 55) C (by omega) dX5_runScript_50 (by decide) (fun h => absurd h (by decide)) (fun _ => ?_)
    refine r_ic (pc := 53) (v := nI 0) C rfl dX5_runScript_53 ?_
    subst hQ
    exact e_iW C hr hk (Nat.le_refl _) (Nat.le_refl _) ⟨1, pl, ft⟩ rfl (Or.inl ⟨rfl, fun ⟨j, e, y1, y2, _⟩ => h1 ⟨j, e, y1, y2⟩⟩) dX5_runScript_54

theorem iX5_stir_X5 : ∀ w ∈ u_ws RX5 TX5 14, w ∈ wsX5_stir := by decide +kernel
abbrev rmX5_stir : Room := { frames := 9, cells := 0, slots := 0, locals := 214 }
theorem n_X5_stir : yX5_stir.cls = RX5 ∧ yX5_stir.cls ≠ "java/lang/invoke/MethodHandle" ∧ yX5_stir.cls ≠ "java/lang/invoke/VarHandle" ∧ (parseMethodDescriptor yX5_stir.desc).map (fun d => d.parameters.length) = some 1 := by decide +kernel
set_option maxHeartbeats 4000000 in
set_option maxRecDepth 100000 in
theorem k_X5_stir (l : Launch) (D : va_G) (cT : Nat → ClassId) (mA mref mscr msz mspot mgood mleft mread mnow mtri mdia macts mkept misk qp : Nat) (pl f : Nat → Int32) (rr : Nat) (u : SS) (hR : RowQ f u) (hJ : JQ u) (hrr : rr < 2147483648) : MWv (S := (Nat → Int32) × (Nat → Int32)) l D cT yX5_stir wsX5_stir rmX5_stir [.ref mA, .int (nI rr)] [(mA, cMo mref mscr msz mspot mgood mleft mread mnow mtri mdia macts mkept misk qp), (qp, aI (cT 0) 16 pl), (mtri, aI (cT 0) 104 f)] (fun w9 => TUq u rr w9.2) (fun w9 => [(mA, cMo mref mscr msz mspot mgood mleft mread mnow mtri mdia macts mkept misk qp), (qp, aI (cT 0) 16 w9.1), (mtri, aI (cT 0) 104 w9.2)]) 0 0 := by
  refine m_Wv [(0, .ref mA), (1, .int (nI rr))] (by decide +kernel) rfl (Nat.le_of_ble_eq_true rfl) rfl ?_
  intro p e s m args below meth c A hAe C hA hr hk hnm_
  generalize hQ : MQ below (va_Qv _ _ A) args s 0 0 A = Q
  have hB := bd_of hJ
  obtain ⟨hF, hW, hM, hL, hPa, hBr, hCn, hFL, hE⟩ := id hB
  have hFW1 := mul44 hF hW
  have hLW1 := mul44 hL hW
  have h1 := rst_le (a := rr / 8) (b := u.fst * u.wid)
  have h2 := rst_le (a := rr / 128) (b := u.las * u.wid)
  have h3 := rst_le (a := rr / 8) (b := u.cnt)
  refine r_iln (pc := 0) C 1 rfl dX5_stir_0 ?_
  refine r_bi (pc := 1) (v := nI 8) C rfl dX5_stir_1 ?_
  refine r_idivN (pc := 3) C (by omega) (by omega) (by omega) dX5_stir_3 ?_
  refine r_aln (pc := 4) C 0 rfl dX5_stir_4 ?_
  refine r_get (pc := 5) C iX5_stir_X5 0 rfl rfl 8 (by decide) (mw 1 rfl) rfl rfl dX5_stir_5 ?_
  refine c_RS (pc := 8) (As := [.ref mtri]) (wc := [(mtri, aI (cT 0) 104 f)])  C (k_X5_inputs l D cT mtri f u (by first | assumption | omega) (by first | assumption | omega)) (va_cwS 1 C.1.2.2.2.2 gX5_stir_X5_inputs rfl rfl rfl n_X5_inputs ⟨Nat.le_of_ble_eq_true rfl, Nat.le_of_ble_eq_true rfl⟩) [2] rfl rfl rfl (Nat.le_of_ble_eq_true rfl) ⟨Nat.zero_le _, Nat.zero_le _⟩ dX5_stir_8 (fun r8 h1 => ?_)
  subst h1
  refine r_iremN (pc := 11) C (by omega) (by omega) (by omega) dX5_stir_11 ?_
  refine r_v (y := nI (rst (rr / 8) (u.fst * u.wid))) (congrArg nI (rst_p (by omega))) ?_
  refine r_isn (pc := 12) C [1, 2, 0] [(0, .ref mA), (1, .int (nI rr)), (2, .int (nI (rst (rr / 8) (u.fst * u.wid))))] rfl (by decide) rfl dX5_stir_12 ?_
  refine r_iln (pc := 13) C 1 rfl dX5_stir_13 ?_
  refine r_si (pc := 14) (v := nI 128) C rfl dX5_stir_14 ?_
  refine r_idivN (pc := 17) C (by omega) (by omega) (by omega) dX5_stir_17 ?_
  refine r_aln (pc := 18) C 0 rfl dX5_stir_18 ?_
  refine r_get (pc := 19) C iX5_stir_X5 0 rfl rfl 8 (by decide) (mw 1 rfl) rfl rfl dX5_stir_19 ?_
  refine c_RS (pc := 22) (As := [.ref mtri]) (wc := [(mtri, aI (cT 0) 104 f)])  C (k_X5_outputs l D cT mtri f u (by first | assumption | omega) (by first | assumption | omega)) (va_cwS 1 C.1.2.2.2.2 gX5_stir_X5_outputs rfl rfl rfl n_X5_outputs ⟨Nat.le_of_ble_eq_true rfl, Nat.le_of_ble_eq_true rfl⟩) [2] rfl rfl rfl (Nat.le_of_ble_eq_true rfl) ⟨Nat.zero_le _, Nat.zero_le _⟩ dX5_stir_22 (fun r22 h2 => ?_)
  subst h2
  refine r_iremN (pc := 25) C (by omega) (by omega) (by omega) dX5_stir_25 ?_
  refine r_v (y := nI (rst (rr / 128) (u.las * u.wid))) (congrArg nI (rst_p (by omega))) ?_
  refine r_isn (pc := 26) C [1, 2, 3, 0] [(0, .ref mA), (1, .int (nI rr)), (2, .int (nI (rst (rr / 8) (u.fst * u.wid)))), (3, .int (nI (rst (rr / 128) (u.las * u.wid))))] rfl (by decide) rfl dX5_stir_26 ?_
  refine r_iln (pc := 27) C 1 rfl dX5_stir_27 ?_
  refine r_bi (pc := 28) (v := nI 8) C rfl dX5_stir_28 ?_
  refine r_idivN (pc := 30) C (by omega) (by omega) (by omega) dX5_stir_30 ?_
  refine r_aln (pc := 31) C 0 rfl dX5_stir_31 ?_
  refine r_get (pc := 32) C iX5_stir_X5 0 rfl rfl 8 (by decide) (mw 1 rfl) rfl rfl dX5_stir_32 ?_
  refine r_ic (pc := 35) (v := nI 4) C rfl dX5_stir_35 ?_
  refine r_ialI (pc := 36) C 2 rfl (by omega) (by decide) dX5_stir_36 ?_
  refine r_v (y := nI u.cnt) hR.1.2.2.2.2.1 ?_
  refine r_zleN (pc := 37) (tgt := 49) C (by omega) dX5_stir_37 (by decide) (fun c37 => ?_) (fun c37 => ?_)
  · refine r_ic (pc := 49) (v := nI 1) C rfl dX5_stir_49 ?_
    refine r_iremN (pc := 50) C (by omega) (by omega) (by omega) dX5_stir_50 ?_
    refine r_v (y := nI (rst (rr / 8) u.cnt)) (congrArg nI (rst_0 (by omega))) ?_
    refine r_is (pc := 51) C [1, 2, 3, 4, 0] [(0, .ref mA), (1, .int (nI rr)), (2, .int (nI (rst (rr / 8) (u.fst * u.wid)))), (3, .int (nI (rst (rr / 128) (u.las * u.wid)))), (4, .int (nI (rst (rr / 8) u.cnt)))] (by decide) rfl dX5_stir_51 ?_
    refine r_iln (pc := 53) C 1 rfl dX5_stir_53 ?_
    refine r_bi (pc := 54) (v := nI 8) C rfl dX5_stir_54 ?_
    refine r_iremN (pc := 56) C (by omega) (by omega) (by omega) dX5_stir_56 ?_
    rcases rr_cases rr with q | q | q | q | q | q | q | q
    · refine r_v (y := nI 0) (congrArg nI q) ?_
      refine r_tsN (pc := 57) (tgt := 100) C (by decide) dX5_stir_57 (by decide) ?_
      refine r_aln (pc := 100) C 0 rfl dX5_stir_100 ?_
      refine r_iln (pc := 101) C 2 rfl dX5_stir_101 ?_
      refine r_iln (pc := 102) C 3 rfl dX5_stir_102 ?_
      refine c_WVi (pc := 103) (As := [.int (nI (rst (rr / 8) (u.fst * u.wid))), .int (nI (rst (rr / 128) (u.las * u.wid)))]) (wc := [(mA, cMo mref mscr msz mspot mgood mleft mread mnow mtri mdia macts mkept misk qp), (qp, aI (cT 0) 16 pl), (mtri, aI (cT 0) 104 f)]) (wr := []) (qr := 0) C hA (k_X5_connects l D cT mA mref mscr msz mspot mgood mleft mread mnow mtri mdia macts mkept misk qp pl f (rst (rr / 8) (u.fst * u.wid)) (rst (rr / 128) (u.las * u.wid)) u (by first | assumption | omega) (by first | assumption | omega) (by first | assumption | omega) (by first | assumption | omega)) (cwV 2 C.1.2.2.2.2 gX5_stir_X5_connects rfl rfl rfl n_X5_connects ⟨Nat.le_of_ble_eq_true rfl, Nat.le_of_ble_eq_true rfl⟩) rfl rfl [0, 1, 2] [] rfl rfl ⟨by decide, by decide⟩ (by decide) [0, 1, 2] (fun u4 => [(mA, cMo mref mscr msz mspot mgood mleft mread mnow mtri mdia macts mkept misk qp), (qp, aI (cT 0) 16 u4.1), (mtri, aI (cT 0) 104 u4.2)]) (fun _ => rfl) (by decide) rfl rfl (Nat.le_of_ble_eq_true rfl) ⟨Nat.zero_le _, Nat.zero_le _⟩ dX5_stir_103 (fun r103 u4 h3 => ?_)
      obtain ⟨h30, h3v, h3, h3R, h3e⟩ := h3
      refine r_pop (pc := 106) C rfl dX5_stir_106 ?_
      refine r_goto (pc := 107) (tgt := 137) C dX5_stir_107 (by decide) ?_
      subst hQ
      exact e_vW C hr hk (Nat.le_refl _) (Nat.le_refl _) ⟨u4.1, u4.2⟩ rfl (mt_0 (by omega) h3 h3R) dX5_stir_137
    · refine r_v (y := nI 1) (congrArg nI q) ?_
      refine r_tsN (pc := 57) (tgt := 100) C (by decide) dX5_stir_57 (by decide) ?_
      refine r_aln (pc := 100) C 0 rfl dX5_stir_100 ?_
      refine r_iln (pc := 101) C 2 rfl dX5_stir_101 ?_
      refine r_iln (pc := 102) C 3 rfl dX5_stir_102 ?_
      refine c_WVi (pc := 103) (As := [.int (nI (rst (rr / 8) (u.fst * u.wid))), .int (nI (rst (rr / 128) (u.las * u.wid)))]) (wc := [(mA, cMo mref mscr msz mspot mgood mleft mread mnow mtri mdia macts mkept misk qp), (qp, aI (cT 0) 16 pl), (mtri, aI (cT 0) 104 f)]) (wr := []) (qr := 0) C hA (k_X5_connects l D cT mA mref mscr msz mspot mgood mleft mread mnow mtri mdia macts mkept misk qp pl f (rst (rr / 8) (u.fst * u.wid)) (rst (rr / 128) (u.las * u.wid)) u (by first | assumption | omega) (by first | assumption | omega) (by first | assumption | omega) (by first | assumption | omega)) (cwV 2 C.1.2.2.2.2 gX5_stir_X5_connects rfl rfl rfl n_X5_connects ⟨Nat.le_of_ble_eq_true rfl, Nat.le_of_ble_eq_true rfl⟩) rfl rfl [0, 1, 2] [] rfl rfl ⟨by decide, by decide⟩ (by decide) [0, 1, 2] (fun u6 => [(mA, cMo mref mscr msz mspot mgood mleft mread mnow mtri mdia macts mkept misk qp), (qp, aI (cT 0) 16 u6.1), (mtri, aI (cT 0) 104 u6.2)]) (fun _ => rfl) (by decide) rfl rfl (Nat.le_of_ble_eq_true rfl) ⟨Nat.zero_le _, Nat.zero_le _⟩ dX5_stir_103 (fun r103 u6 h5 => ?_)
      obtain ⟨h50, h5v, h5, h5R, h5e⟩ := h5
      refine r_pop (pc := 106) C rfl dX5_stir_106 ?_
      refine r_goto (pc := 107) (tgt := 137) C dX5_stir_107 (by decide) ?_
      subst hQ
      exact e_vW C hr hk (Nat.le_refl _) (Nat.le_refl _) ⟨u6.1, u6.2⟩ rfl (mt_0 (by omega) h5 h5R) dX5_stir_137
    · refine r_v (y := nI 2) (congrArg nI q) ?_
      refine r_tsN (pc := 57) (tgt := 100) C (by decide) dX5_stir_57 (by decide) ?_
      refine r_aln (pc := 100) C 0 rfl dX5_stir_100 ?_
      refine r_iln (pc := 101) C 2 rfl dX5_stir_101 ?_
      refine r_iln (pc := 102) C 3 rfl dX5_stir_102 ?_
      refine c_WVi (pc := 103) (As := [.int (nI (rst (rr / 8) (u.fst * u.wid))), .int (nI (rst (rr / 128) (u.las * u.wid)))]) (wc := [(mA, cMo mref mscr msz mspot mgood mleft mread mnow mtri mdia macts mkept misk qp), (qp, aI (cT 0) 16 pl), (mtri, aI (cT 0) 104 f)]) (wr := []) (qr := 0) C hA (k_X5_connects l D cT mA mref mscr msz mspot mgood mleft mread mnow mtri mdia macts mkept misk qp pl f (rst (rr / 8) (u.fst * u.wid)) (rst (rr / 128) (u.las * u.wid)) u (by first | assumption | omega) (by first | assumption | omega) (by first | assumption | omega) (by first | assumption | omega)) (cwV 2 C.1.2.2.2.2 gX5_stir_X5_connects rfl rfl rfl n_X5_connects ⟨Nat.le_of_ble_eq_true rfl, Nat.le_of_ble_eq_true rfl⟩) rfl rfl [0, 1, 2] [] rfl rfl ⟨by decide, by decide⟩ (by decide) [0, 1, 2] (fun u8 => [(mA, cMo mref mscr msz mspot mgood mleft mread mnow mtri mdia macts mkept misk qp), (qp, aI (cT 0) 16 u8.1), (mtri, aI (cT 0) 104 u8.2)]) (fun _ => rfl) (by decide) rfl rfl (Nat.le_of_ble_eq_true rfl) ⟨Nat.zero_le _, Nat.zero_le _⟩ dX5_stir_103 (fun r103 u8 h7 => ?_)
      obtain ⟨h70, h7v, h7, h7R, h7e⟩ := h7
      refine r_pop (pc := 106) C rfl dX5_stir_106 ?_
      refine r_goto (pc := 107) (tgt := 137) C dX5_stir_107 (by decide) ?_
      subst hQ
      exact e_vW C hr hk (Nat.le_refl _) (Nat.le_refl _) ⟨u8.1, u8.2⟩ rfl (mt_0 (by omega) h7 h7R) dX5_stir_137
    · refine r_v (y := nI 3) (congrArg nI q) ?_
      refine r_tsN (pc := 57) (tgt := 100) C (by decide) dX5_stir_57 (by decide) ?_
      refine r_aln (pc := 100) C 0 rfl dX5_stir_100 ?_
      refine r_iln (pc := 101) C 2 rfl dX5_stir_101 ?_
      refine r_iln (pc := 102) C 3 rfl dX5_stir_102 ?_
      refine c_WVi (pc := 103) (As := [.int (nI (rst (rr / 8) (u.fst * u.wid))), .int (nI (rst (rr / 128) (u.las * u.wid)))]) (wc := [(mA, cMo mref mscr msz mspot mgood mleft mread mnow mtri mdia macts mkept misk qp), (qp, aI (cT 0) 16 pl), (mtri, aI (cT 0) 104 f)]) (wr := []) (qr := 0) C hA (k_X5_connects l D cT mA mref mscr msz mspot mgood mleft mread mnow mtri mdia macts mkept misk qp pl f (rst (rr / 8) (u.fst * u.wid)) (rst (rr / 128) (u.las * u.wid)) u (by first | assumption | omega) (by first | assumption | omega) (by first | assumption | omega) (by first | assumption | omega)) (cwV 2 C.1.2.2.2.2 gX5_stir_X5_connects rfl rfl rfl n_X5_connects ⟨Nat.le_of_ble_eq_true rfl, Nat.le_of_ble_eq_true rfl⟩) rfl rfl [0, 1, 2] [] rfl rfl ⟨by decide, by decide⟩ (by decide) [0, 1, 2] (fun u10 => [(mA, cMo mref mscr msz mspot mgood mleft mread mnow mtri mdia macts mkept misk qp), (qp, aI (cT 0) 16 u10.1), (mtri, aI (cT 0) 104 u10.2)]) (fun _ => rfl) (by decide) rfl rfl (Nat.le_of_ble_eq_true rfl) ⟨Nat.zero_le _, Nat.zero_le _⟩ dX5_stir_103 (fun r103 u10 h9 => ?_)
      obtain ⟨h90, h9v, h9, h9R, h9e⟩ := h9
      refine r_pop (pc := 106) C rfl dX5_stir_106 ?_
      refine r_goto (pc := 107) (tgt := 137) C dX5_stir_107 (by decide) ?_
      subst hQ
      exact e_vW C hr hk (Nat.le_refl _) (Nat.le_refl _) ⟨u10.1, u10.2⟩ rfl (mt_0 (by omega) h9 h9R) dX5_stir_137
    · refine r_v (y := nI 4) (congrArg nI q) ?_
      refine r_tsN (pc := 57) (tgt := 110) C (by decide) dX5_stir_57 (by decide) ?_
      refine r_aln (pc := 110) C 0 rfl dX5_stir_110 ?_
      refine r_il (pc := 111) C 4 rfl dX5_stir_111 ?_
      refine r_iln (pc := 113) C 3 rfl dX5_stir_113 ?_
      refine c_WVi (pc := 114) (As := [.int (nI (rst (rr / 8) u.cnt)), .int (nI (rst (rr / 128) (u.las * u.wid)))]) (wc := [(mA, cMo mref mscr msz mspot mgood mleft mread mnow mtri mdia macts mkept misk qp), (qp, aI (cT 0) 16 pl), (mtri, aI (cT 0) 104 f)]) (wr := []) (qr := 0) C hA (k_X5_joins l D cT mA mref mscr msz mspot mgood mleft mread mnow mtri mdia macts mkept misk qp pl f (rst (rr / 8) u.cnt) (rst (rr / 128) (u.las * u.wid)) u (by first | assumption | omega) (by first | assumption | omega) (by first | assumption | omega) (by first | assumption | omega)) (cwV 2 C.1.2.2.2.2 gX5_stir_X5_joins rfl rfl rfl n_X5_joins ⟨Nat.le_of_ble_eq_true rfl, Nat.le_of_ble_eq_true rfl⟩) rfl rfl [0, 1, 2] [] rfl rfl ⟨by decide, by decide⟩ (by decide) [0, 1, 2] (fun u12 => [(mA, cMo mref mscr msz mspot mgood mleft mread mnow mtri mdia macts mkept misk qp), (qp, aI (cT 0) 16 u12.1), (mtri, aI (cT 0) 104 u12.2)]) (fun _ => rfl) (by decide) rfl rfl (Nat.le_of_ble_eq_true rfl) ⟨Nat.zero_le _, Nat.zero_le _⟩ dX5_stir_114 (fun r114 u12 h11 => ?_)
      obtain ⟨h110, h11v, h11, h11R, h11e⟩ := h11
      refine r_pop (pc := 117) C rfl dX5_stir_117 ?_
      refine r_goto (pc := 118) (tgt := 137) C dX5_stir_118 (by decide) ?_
      subst hQ
      exact e_vW C hr hk (Nat.le_refl _) (Nat.le_refl _) ⟨u12.1, u12.2⟩ rfl (mt_4 q h11 h11R) dX5_stir_137
    · refine r_v (y := nI 5) (congrArg nI q) ?_
      refine r_tsN (pc := 57) (tgt := 121) C (by decide) dX5_stir_57 (by decide) ?_
      refine r_aln (pc := 121) C 0 rfl dX5_stir_121 ?_
      refine r_il (pc := 122) C 4 rfl dX5_stir_122 ?_
      refine c_WVi (pc := 124) (As := [.int (nI (rst (rr / 8) u.cnt))]) (wc := [(mA, cMo mref mscr msz mspot mgood mleft mread mnow mtri mdia macts mkept misk qp), (mtri, aI (cT 0) 104 f)]) (wr := [(qp, aI (cT 0) 16 pl)]) (qr := 0) C hA (k_X5_hangs l D cT mA mref mscr msz mspot mgood mleft mread mnow mtri mdia macts mkept misk qp f (rst (rr / 8) u.cnt) u (by first | assumption | omega) (by first | assumption | omega) (by first | assumption | omega)) (cwV 1 C.1.2.2.2.2 gX5_stir_X5_hangs rfl rfl rfl n_X5_hangs ⟨Nat.le_of_ble_eq_true rfl, Nat.le_of_ble_eq_true rfl⟩) rfl rfl [0, 2] [1] rfl rfl ⟨by decide, by decide⟩ (by decide) [1, 0, 2] (fun u14 => [(mA, cMo mref mscr msz mspot mgood mleft mread mnow mtri mdia macts mkept misk qp), (qp, aI (cT 0) 16 pl), (mtri, aI (cT 0) 104 u14)]) (fun _ => rfl) (by decide) rfl rfl (Nat.le_of_ble_eq_true rfl) ⟨Nat.zero_le _, Nat.zero_le _⟩ dX5_stir_124 (fun r124 u14 h13 => ?_)
      obtain ⟨h130, h13v, h13, h13R, h13e⟩ := h13
      refine r_pop (pc := 127) C rfl dX5_stir_127 ?_
      refine r_goto (pc := 128) (tgt := 137) C dX5_stir_128 (by decide) ?_
      subst hQ
      exact e_vW C hr hk (Nat.le_refl _) (Nat.le_refl _) ⟨pl, u14⟩ rfl (mt_5 (Or.inl q) h13 h13R) dX5_stir_137
    · refine r_v (y := nI 6) (congrArg nI q) ?_
      refine r_tsN (pc := 57) (tgt := 121) C (by decide) dX5_stir_57 (by decide) ?_
      refine r_aln (pc := 121) C 0 rfl dX5_stir_121 ?_
      refine r_il (pc := 122) C 4 rfl dX5_stir_122 ?_
      refine c_WVi (pc := 124) (As := [.int (nI (rst (rr / 8) u.cnt))]) (wc := [(mA, cMo mref mscr msz mspot mgood mleft mread mnow mtri mdia macts mkept misk qp), (mtri, aI (cT 0) 104 f)]) (wr := [(qp, aI (cT 0) 16 pl)]) (qr := 0) C hA (k_X5_hangs l D cT mA mref mscr msz mspot mgood mleft mread mnow mtri mdia macts mkept misk qp f (rst (rr / 8) u.cnt) u (by first | assumption | omega) (by first | assumption | omega) (by first | assumption | omega)) (cwV 1 C.1.2.2.2.2 gX5_stir_X5_hangs rfl rfl rfl n_X5_hangs ⟨Nat.le_of_ble_eq_true rfl, Nat.le_of_ble_eq_true rfl⟩) rfl rfl [0, 2] [1] rfl rfl ⟨by decide, by decide⟩ (by decide) [1, 0, 2] (fun u16 => [(mA, cMo mref mscr msz mspot mgood mleft mread mnow mtri mdia macts mkept misk qp), (qp, aI (cT 0) 16 pl), (mtri, aI (cT 0) 104 u16)]) (fun _ => rfl) (by decide) rfl rfl (Nat.le_of_ble_eq_true rfl) ⟨Nat.zero_le _, Nat.zero_le _⟩ dX5_stir_124 (fun r124 u16 h15 => ?_)
      obtain ⟨h150, h15v, h15, h15R, h15e⟩ := h15
      refine r_pop (pc := 127) C rfl dX5_stir_127 ?_
      refine r_goto (pc := 128) (tgt := 137) C dX5_stir_128 (by decide) ?_
      subst hQ
      exact e_vW C hr hk (Nat.le_refl _) (Nat.le_refl _) ⟨pl, u16⟩ rfl (mt_5 (Or.inr q) h15 h15R) dX5_stir_137
    · refine r_v (y := nI 7) (congrArg nI q) ?_
      refine r_tsN (pc := 57) (tgt := 131) C (by decide) dX5_stir_57 (by decide) ?_
      refine r_aln (pc := 131) C 0 rfl dX5_stir_131 ?_
      refine r_iln (pc := 132) C 3 rfl dX5_stir_132 ?_
      refine c_WVi (pc := 133) (As := [.int (nI (rst (rr / 128) (u.las * u.wid)))]) (wc := [(mA, cMo mref mscr msz mspot mgood mleft mread mnow mtri mdia macts mkept misk qp), (mtri, aI (cT 0) 104 f)]) (wr := [(qp, aI (cT 0) 16 pl)]) (qr := 0) C hA (k_X5_drops l D cT mA mref mscr msz mspot mgood mleft mread mnow mtri mdia macts mkept misk qp f (rst (rr / 128) (u.las * u.wid)) u (by first | assumption | omega) (by first | assumption | omega) (by first | assumption | omega)) (cwV 1 C.1.2.2.2.2 gX5_stir_X5_drops rfl rfl rfl n_X5_drops ⟨Nat.le_of_ble_eq_true rfl, Nat.le_of_ble_eq_true rfl⟩) rfl rfl [0, 2] [1] rfl rfl ⟨by decide, by decide⟩ (by decide) [1, 0, 2] (fun u18 => [(mA, cMo mref mscr msz mspot mgood mleft mread mnow mtri mdia macts mkept misk qp), (qp, aI (cT 0) 16 pl), (mtri, aI (cT 0) 104 u18)]) (fun _ => rfl) (by decide) rfl rfl (Nat.le_of_ble_eq_true rfl) ⟨Nat.zero_le _, Nat.zero_le _⟩ dX5_stir_133 (fun r133 u18 h17 => ?_)
      obtain ⟨h170, h17v, h17, h17R, h17e⟩ := h17
      refine r_pop (pc := 136) C rfl dX5_stir_136 ?_
      subst hQ
      exact e_vW C hr hk (Nat.le_refl _) (Nat.le_refl _) ⟨pl, u18⟩ rfl (mt_7 q h17 h17R) dX5_stir_137
  · refine r_aln (pc := 40) C 0 rfl dX5_stir_40 ?_
    refine r_get (pc := 41) C iX5_stir_X5 0 rfl rfl 8 (by decide) (mw 1 rfl) rfl rfl dX5_stir_41 ?_
    refine r_ic (pc := 44) (v := nI 4) C rfl dX5_stir_44 ?_
    refine r_ialI (pc := 45) C 2 rfl (by omega) (by decide) dX5_stir_45 ?_
    refine r_v (y := nI u.cnt) hR.1.2.2.2.2.1 ?_
    refine r_goto (pc := 46) (tgt := 50) C dX5_stir_46 (by decide) ?_
    refine r_iremN (pc := 50) C (by omega) (by omega) (by omega) dX5_stir_50 ?_
    refine r_v (y := nI (rst (rr / 8) u.cnt)) (congrArg nI (rst_p c37)) ?_
    refine r_is (pc := 51) C [1, 2, 3, 4, 0] [(0, .ref mA), (1, .int (nI rr)), (2, .int (nI (rst (rr / 8) (u.fst * u.wid)))), (3, .int (nI (rst (rr / 128) (u.las * u.wid)))), (4, .int (nI (rst (rr / 8) u.cnt)))] (by decide) rfl dX5_stir_51 ?_
    refine r_iln (pc := 53) C 1 rfl dX5_stir_53 ?_
    refine r_bi (pc := 54) (v := nI 8) C rfl dX5_stir_54 ?_
    refine r_iremN (pc := 56) C (by omega) (by omega) (by omega) dX5_stir_56 ?_
    rcases rr_cases rr with q | q | q | q | q | q | q | q
    · refine r_v (y := nI 0) (congrArg nI q) ?_
      refine r_tsN (pc := 57) (tgt := 100) C (by decide) dX5_stir_57 (by decide) ?_
      refine r_aln (pc := 100) C 0 rfl dX5_stir_100 ?_
      refine r_iln (pc := 101) C 2 rfl dX5_stir_101 ?_
      refine r_iln (pc := 102) C 3 rfl dX5_stir_102 ?_
      refine c_WVi (pc := 103) (As := [.int (nI (rst (rr / 8) (u.fst * u.wid))), .int (nI (rst (rr / 128) (u.las * u.wid)))]) (wc := [(mA, cMo mref mscr msz mspot mgood mleft mread mnow mtri mdia macts mkept misk qp), (qp, aI (cT 0) 16 pl), (mtri, aI (cT 0) 104 f)]) (wr := []) (qr := 0) C hA (k_X5_connects l D cT mA mref mscr msz mspot mgood mleft mread mnow mtri mdia macts mkept misk qp pl f (rst (rr / 8) (u.fst * u.wid)) (rst (rr / 128) (u.las * u.wid)) u (by first | assumption | omega) (by first | assumption | omega) (by first | assumption | omega) (by first | assumption | omega)) (cwV 2 C.1.2.2.2.2 gX5_stir_X5_connects rfl rfl rfl n_X5_connects ⟨Nat.le_of_ble_eq_true rfl, Nat.le_of_ble_eq_true rfl⟩) rfl rfl [0, 1, 2] [] rfl rfl ⟨by decide, by decide⟩ (by decide) [0, 1, 2] (fun u20 => [(mA, cMo mref mscr msz mspot mgood mleft mread mnow mtri mdia macts mkept misk qp), (qp, aI (cT 0) 16 u20.1), (mtri, aI (cT 0) 104 u20.2)]) (fun _ => rfl) (by decide) rfl rfl (Nat.le_of_ble_eq_true rfl) ⟨Nat.zero_le _, Nat.zero_le _⟩ dX5_stir_103 (fun r103 u20 h19 => ?_)
      obtain ⟨h190, h19v, h19, h19R, h19e⟩ := h19
      refine r_pop (pc := 106) C rfl dX5_stir_106 ?_
      refine r_goto (pc := 107) (tgt := 137) C dX5_stir_107 (by decide) ?_
      subst hQ
      exact e_vW C hr hk (Nat.le_refl _) (Nat.le_refl _) ⟨u20.1, u20.2⟩ rfl (mt_0 (by omega) h19 h19R) dX5_stir_137
    · refine r_v (y := nI 1) (congrArg nI q) ?_
      refine r_tsN (pc := 57) (tgt := 100) C (by decide) dX5_stir_57 (by decide) ?_
      refine r_aln (pc := 100) C 0 rfl dX5_stir_100 ?_
      refine r_iln (pc := 101) C 2 rfl dX5_stir_101 ?_
      refine r_iln (pc := 102) C 3 rfl dX5_stir_102 ?_
      refine c_WVi (pc := 103) (As := [.int (nI (rst (rr / 8) (u.fst * u.wid))), .int (nI (rst (rr / 128) (u.las * u.wid)))]) (wc := [(mA, cMo mref mscr msz mspot mgood mleft mread mnow mtri mdia macts mkept misk qp), (qp, aI (cT 0) 16 pl), (mtri, aI (cT 0) 104 f)]) (wr := []) (qr := 0) C hA (k_X5_connects l D cT mA mref mscr msz mspot mgood mleft mread mnow mtri mdia macts mkept misk qp pl f (rst (rr / 8) (u.fst * u.wid)) (rst (rr / 128) (u.las * u.wid)) u (by first | assumption | omega) (by first | assumption | omega) (by first | assumption | omega) (by first | assumption | omega)) (cwV 2 C.1.2.2.2.2 gX5_stir_X5_connects rfl rfl rfl n_X5_connects ⟨Nat.le_of_ble_eq_true rfl, Nat.le_of_ble_eq_true rfl⟩) rfl rfl [0, 1, 2] [] rfl rfl ⟨by decide, by decide⟩ (by decide) [0, 1, 2] (fun u22 => [(mA, cMo mref mscr msz mspot mgood mleft mread mnow mtri mdia macts mkept misk qp), (qp, aI (cT 0) 16 u22.1), (mtri, aI (cT 0) 104 u22.2)]) (fun _ => rfl) (by decide) rfl rfl (Nat.le_of_ble_eq_true rfl) ⟨Nat.zero_le _, Nat.zero_le _⟩ dX5_stir_103 (fun r103 u22 h21 => ?_)
      obtain ⟨h210, h21v, h21, h21R, h21e⟩ := h21
      refine r_pop (pc := 106) C rfl dX5_stir_106 ?_
      refine r_goto (pc := 107) (tgt := 137) C dX5_stir_107 (by decide) ?_
      subst hQ
      exact e_vW C hr hk (Nat.le_refl _) (Nat.le_refl _) ⟨u22.1, u22.2⟩ rfl (mt_0 (by omega) h21 h21R) dX5_stir_137
    · refine r_v (y := nI 2) (congrArg nI q) ?_
      refine r_tsN (pc := 57) (tgt := 100) C (by decide) dX5_stir_57 (by decide) ?_
      refine r_aln (pc := 100) C 0 rfl dX5_stir_100 ?_
      refine r_iln (pc := 101) C 2 rfl dX5_stir_101 ?_
      refine r_iln (pc := 102) C 3 rfl dX5_stir_102 ?_
      refine c_WVi (pc := 103) (As := [.int (nI (rst (rr / 8) (u.fst * u.wid))), .int (nI (rst (rr / 128) (u.las * u.wid)))]) (wc := [(mA, cMo mref mscr msz mspot mgood mleft mread mnow mtri mdia macts mkept misk qp), (qp, aI (cT 0) 16 pl), (mtri, aI (cT 0) 104 f)]) (wr := []) (qr := 0) C hA (k_X5_connects l D cT mA mref mscr msz mspot mgood mleft mread mnow mtri mdia macts mkept misk qp pl f (rst (rr / 8) (u.fst * u.wid)) (rst (rr / 128) (u.las * u.wid)) u (by first | assumption | omega) (by first | assumption | omega) (by first | assumption | omega) (by first | assumption | omega)) (cwV 2 C.1.2.2.2.2 gX5_stir_X5_connects rfl rfl rfl n_X5_connects ⟨Nat.le_of_ble_eq_true rfl, Nat.le_of_ble_eq_true rfl⟩) rfl rfl [0, 1, 2] [] rfl rfl ⟨by decide, by decide⟩ (by decide) [0, 1, 2] (fun u24 => [(mA, cMo mref mscr msz mspot mgood mleft mread mnow mtri mdia macts mkept misk qp), (qp, aI (cT 0) 16 u24.1), (mtri, aI (cT 0) 104 u24.2)]) (fun _ => rfl) (by decide) rfl rfl (Nat.le_of_ble_eq_true rfl) ⟨Nat.zero_le _, Nat.zero_le _⟩ dX5_stir_103 (fun r103 u24 h23 => ?_)
      obtain ⟨h230, h23v, h23, h23R, h23e⟩ := h23
      refine r_pop (pc := 106) C rfl dX5_stir_106 ?_
      refine r_goto (pc := 107) (tgt := 137) C dX5_stir_107 (by decide) ?_
      subst hQ
      exact e_vW C hr hk (Nat.le_refl _) (Nat.le_refl _) ⟨u24.1, u24.2⟩ rfl (mt_0 (by omega) h23 h23R) dX5_stir_137
    · refine r_v (y := nI 3) (congrArg nI q) ?_
      refine r_tsN (pc := 57) (tgt := 100) C (by decide) dX5_stir_57 (by decide) ?_
      refine r_aln (pc := 100) C 0 rfl dX5_stir_100 ?_
      refine r_iln (pc := 101) C 2 rfl dX5_stir_101 ?_
      refine r_iln (pc := 102) C 3 rfl dX5_stir_102 ?_
      refine c_WVi (pc := 103) (As := [.int (nI (rst (rr / 8) (u.fst * u.wid))), .int (nI (rst (rr / 128) (u.las * u.wid)))]) (wc := [(mA, cMo mref mscr msz mspot mgood mleft mread mnow mtri mdia macts mkept misk qp), (qp, aI (cT 0) 16 pl), (mtri, aI (cT 0) 104 f)]) (wr := []) (qr := 0) C hA (k_X5_connects l D cT mA mref mscr msz mspot mgood mleft mread mnow mtri mdia macts mkept misk qp pl f (rst (rr / 8) (u.fst * u.wid)) (rst (rr / 128) (u.las * u.wid)) u (by first | assumption | omega) (by first | assumption | omega) (by first | assumption | omega) (by first | assumption | omega)) (cwV 2 C.1.2.2.2.2 gX5_stir_X5_connects rfl rfl rfl n_X5_connects ⟨Nat.le_of_ble_eq_true rfl, Nat.le_of_ble_eq_true rfl⟩) rfl rfl [0, 1, 2] [] rfl rfl ⟨by decide, by decide⟩ (by decide) [0, 1, 2] (fun u26 => [(mA, cMo mref mscr msz mspot mgood mleft mread mnow mtri mdia macts mkept misk qp), (qp, aI (cT 0) 16 u26.1), (mtri, aI (cT 0) 104 u26.2)]) (fun _ => rfl) (by decide) rfl rfl (Nat.le_of_ble_eq_true rfl) ⟨Nat.zero_le _, Nat.zero_le _⟩ dX5_stir_103 (fun r103 u26 h25 => ?_)
      obtain ⟨h250, h25v, h25, h25R, h25e⟩ := h25
      refine r_pop (pc := 106) C rfl dX5_stir_106 ?_
      refine r_goto (pc := 107) (tgt := 137) C dX5_stir_107 (by decide) ?_
      subst hQ
      exact e_vW C hr hk (Nat.le_refl _) (Nat.le_refl _) ⟨u26.1, u26.2⟩ rfl (mt_0 (by omega) h25 h25R) dX5_stir_137
    · refine r_v (y := nI 4) (congrArg nI q) ?_
      refine r_tsN (pc := 57) (tgt := 110) C (by decide) dX5_stir_57 (by decide) ?_
      refine r_aln (pc := 110) C 0 rfl dX5_stir_110 ?_
      refine r_il (pc := 111) C 4 rfl dX5_stir_111 ?_
      refine r_iln (pc := 113) C 3 rfl dX5_stir_113 ?_
      refine c_WVi (pc := 114) (As := [.int (nI (rst (rr / 8) u.cnt)), .int (nI (rst (rr / 128) (u.las * u.wid)))]) (wc := [(mA, cMo mref mscr msz mspot mgood mleft mread mnow mtri mdia macts mkept misk qp), (qp, aI (cT 0) 16 pl), (mtri, aI (cT 0) 104 f)]) (wr := []) (qr := 0) C hA (k_X5_joins l D cT mA mref mscr msz mspot mgood mleft mread mnow mtri mdia macts mkept misk qp pl f (rst (rr / 8) u.cnt) (rst (rr / 128) (u.las * u.wid)) u (by first | assumption | omega) (by first | assumption | omega) (by first | assumption | omega) (by first | assumption | omega)) (cwV 2 C.1.2.2.2.2 gX5_stir_X5_joins rfl rfl rfl n_X5_joins ⟨Nat.le_of_ble_eq_true rfl, Nat.le_of_ble_eq_true rfl⟩) rfl rfl [0, 1, 2] [] rfl rfl ⟨by decide, by decide⟩ (by decide) [0, 1, 2] (fun u28 => [(mA, cMo mref mscr msz mspot mgood mleft mread mnow mtri mdia macts mkept misk qp), (qp, aI (cT 0) 16 u28.1), (mtri, aI (cT 0) 104 u28.2)]) (fun _ => rfl) (by decide) rfl rfl (Nat.le_of_ble_eq_true rfl) ⟨Nat.zero_le _, Nat.zero_le _⟩ dX5_stir_114 (fun r114 u28 h27 => ?_)
      obtain ⟨h270, h27v, h27, h27R, h27e⟩ := h27
      refine r_pop (pc := 117) C rfl dX5_stir_117 ?_
      refine r_goto (pc := 118) (tgt := 137) C dX5_stir_118 (by decide) ?_
      subst hQ
      exact e_vW C hr hk (Nat.le_refl _) (Nat.le_refl _) ⟨u28.1, u28.2⟩ rfl (mt_4 q h27 h27R) dX5_stir_137
    · refine r_v (y := nI 5) (congrArg nI q) ?_
      refine r_tsN (pc := 57) (tgt := 121) C (by decide) dX5_stir_57 (by decide) ?_
      refine r_aln (pc := 121) C 0 rfl dX5_stir_121 ?_
      refine r_il (pc := 122) C 4 rfl dX5_stir_122 ?_
      refine c_WVi (pc := 124) (As := [.int (nI (rst (rr / 8) u.cnt))]) (wc := [(mA, cMo mref mscr msz mspot mgood mleft mread mnow mtri mdia macts mkept misk qp), (mtri, aI (cT 0) 104 f)]) (wr := [(qp, aI (cT 0) 16 pl)]) (qr := 0) C hA (k_X5_hangs l D cT mA mref mscr msz mspot mgood mleft mread mnow mtri mdia macts mkept misk qp f (rst (rr / 8) u.cnt) u (by first | assumption | omega) (by first | assumption | omega) (by first | assumption | omega)) (cwV 1 C.1.2.2.2.2 gX5_stir_X5_hangs rfl rfl rfl n_X5_hangs ⟨Nat.le_of_ble_eq_true rfl, Nat.le_of_ble_eq_true rfl⟩) rfl rfl [0, 2] [1] rfl rfl ⟨by decide, by decide⟩ (by decide) [1, 0, 2] (fun u30 => [(mA, cMo mref mscr msz mspot mgood mleft mread mnow mtri mdia macts mkept misk qp), (qp, aI (cT 0) 16 pl), (mtri, aI (cT 0) 104 u30)]) (fun _ => rfl) (by decide) rfl rfl (Nat.le_of_ble_eq_true rfl) ⟨Nat.zero_le _, Nat.zero_le _⟩ dX5_stir_124 (fun r124 u30 h29 => ?_)
      obtain ⟨h290, h29v, h29, h29R, h29e⟩ := h29
      refine r_pop (pc := 127) C rfl dX5_stir_127 ?_
      refine r_goto (pc := 128) (tgt := 137) C dX5_stir_128 (by decide) ?_
      subst hQ
      exact e_vW C hr hk (Nat.le_refl _) (Nat.le_refl _) ⟨pl, u30⟩ rfl (mt_5 (Or.inl q) h29 h29R) dX5_stir_137
    · refine r_v (y := nI 6) (congrArg nI q) ?_
      refine r_tsN (pc := 57) (tgt := 121) C (by decide) dX5_stir_57 (by decide) ?_
      refine r_aln (pc := 121) C 0 rfl dX5_stir_121 ?_
      refine r_il (pc := 122) C 4 rfl dX5_stir_122 ?_
      refine c_WVi (pc := 124) (As := [.int (nI (rst (rr / 8) u.cnt))]) (wc := [(mA, cMo mref mscr msz mspot mgood mleft mread mnow mtri mdia macts mkept misk qp), (mtri, aI (cT 0) 104 f)]) (wr := [(qp, aI (cT 0) 16 pl)]) (qr := 0) C hA (k_X5_hangs l D cT mA mref mscr msz mspot mgood mleft mread mnow mtri mdia macts mkept misk qp f (rst (rr / 8) u.cnt) u (by first | assumption | omega) (by first | assumption | omega) (by first | assumption | omega)) (cwV 1 C.1.2.2.2.2 gX5_stir_X5_hangs rfl rfl rfl n_X5_hangs ⟨Nat.le_of_ble_eq_true rfl, Nat.le_of_ble_eq_true rfl⟩) rfl rfl [0, 2] [1] rfl rfl ⟨by decide, by decide⟩ (by decide) [1, 0, 2] (fun u32 => [(mA, cMo mref mscr msz mspot mgood mleft mread mnow mtri mdia macts mkept misk qp), (qp, aI (cT 0) 16 pl), (mtri, aI (cT 0) 104 u32)]) (fun _ => rfl) (by decide) rfl rfl (Nat.le_of_ble_eq_true rfl) ⟨Nat.zero_le _, Nat.zero_le _⟩ dX5_stir_124 (fun r124 u32 h31 => ?_)
      obtain ⟨h310, h31v, h31, h31R, h31e⟩ := h31
      refine r_pop (pc := 127) C rfl dX5_stir_127 ?_
      refine r_goto (pc := 128) (tgt := 137) C dX5_stir_128 (by decide) ?_
      subst hQ
      exact e_vW C hr hk (Nat.le_refl _) (Nat.le_refl _) ⟨pl, u32⟩ rfl (mt_5 (Or.inr q) h31 h31R) dX5_stir_137
    · refine r_v (y := nI 7) (congrArg nI q) ?_
      refine r_tsN (pc := 57) (tgt := 131) C (by decide) dX5_stir_57 (by decide) ?_
      refine r_aln (pc := 131) C 0 rfl dX5_stir_131 ?_
      refine r_iln (pc := 132) C 3 rfl dX5_stir_132 ?_
      refine c_WVi (pc := 133) (As := [.int (nI (rst (rr / 128) (u.las * u.wid)))]) (wc := [(mA, cMo mref mscr msz mspot mgood mleft mread mnow mtri mdia macts mkept misk qp), (mtri, aI (cT 0) 104 f)]) (wr := [(qp, aI (cT 0) 16 pl)]) (qr := 0) C hA (k_X5_drops l D cT mA mref mscr msz mspot mgood mleft mread mnow mtri mdia macts mkept misk qp f (rst (rr / 128) (u.las * u.wid)) u (by first | assumption | omega) (by first | assumption | omega) (by first | assumption | omega)) (cwV 1 C.1.2.2.2.2 gX5_stir_X5_drops rfl rfl rfl n_X5_drops ⟨Nat.le_of_ble_eq_true rfl, Nat.le_of_ble_eq_true rfl⟩) rfl rfl [0, 2] [1] rfl rfl ⟨by decide, by decide⟩ (by decide) [1, 0, 2] (fun u34 => [(mA, cMo mref mscr msz mspot mgood mleft mread mnow mtri mdia macts mkept misk qp), (qp, aI (cT 0) 16 pl), (mtri, aI (cT 0) 104 u34)]) (fun _ => rfl) (by decide) rfl rfl (Nat.le_of_ble_eq_true rfl) ⟨Nat.zero_le _, Nat.zero_le _⟩ dX5_stir_133 (fun r133 u34 h33 => ?_)
      obtain ⟨h330, h33v, h33, h33R, h33e⟩ := h33
      refine r_pop (pc := 136) C rfl dX5_stir_136 ?_
      subst hQ
      exact e_vW C hr hk (Nat.le_refl _) (Nat.le_refl _) ⟨pl, u34⟩ rfl (mt_7 q h33 h33R) dX5_stir_137

theorem iX5_simulate_X5 : ∀ w ∈ u_ws RX5 TX5 14, w ∈ wsX5_simulate := by decide +kernel
abbrev rmX5_simulate : Room := { frames := 10, cells := 0, slots := 0, locals := 238 }
theorem n_X5_simulate : yX5_simulate.cls = RX5 ∧ yX5_simulate.cls ≠ "java/lang/invoke/MethodHandle" ∧ yX5_simulate.cls ≠ "java/lang/invoke/VarHandle" ∧ (parseMethodDescriptor yX5_simulate.desc).map (fun d => d.parameters.length) = some 2 := by decide +kernel
set_option maxHeartbeats 4000000 in
set_option maxRecDepth 100000 in
theorem k_X5_simulate (l : Launch) (D : va_G) (cT : Nat → ClassId) (mA mref mscr msz mspot mgood mleft mread mnow mtri mdia macts mkept misk qp : Nat) (pl f ft : Nat → Int32) (sx : Int64) (x : Int32) (u : SS) (hR : RowQ f u) (hJ : JQ u) : MWi (S := Nat × (Nat → Int32) × (Nat → Int32)) l D cT yX5_simulate wsX5_simulate rmX5_simulate [.ref mA, .long sx, .int x] [(mA, cMo mref mscr msz mspot mgood mleft mread mnow mtri mdia macts mkept misk qp), (qp, aI (cT 0) 16 pl), (mnow, aI (cT 0) 104 f), (mtri, aI (cT 0) 104 ft)] (fun r w9 => (w9.1 = 1 ∧ ¬ ∃ j, x = nI j ∧ 1 ≤ j ∧ j ≤ 60) ∨ (w9.1 = 0 ∧ ∃ j, x = nI j ∧ 1 ≤ j ∧ j ≤ 60 ∧ ∃ v t, simQ sx j u v t ∧ r = nI 1000 * t + nI v.cnt)) (fun w9 => [(mA, cMo w9.1 mscr msz mspot mgood mleft mread mnow mtri mdia macts mkept misk qp), (qp, aI (cT 0) 16 w9.2.1), (mnow, aI (cT 0) 104 f), (mtri, aI (cT 0) 104 w9.2.2)]) 0 0 := by
  refine m_Wi [(0, .ref mA), (1, .long sx), (3, .int x)] (by decide +kernel) rfl (Nat.le_of_ble_eq_true rfl) rfl ?_
  intro p e s m args below meth c A hAe C hA hr hk hnm_
  generalize hQ : MQ below (va_Qi _ _ A) args s 0 0 A = Q
  have hB := bd_of hJ
  obtain ⟨hF, hW, hM, hL, hPa, hBr, hCn, hFL, hE⟩ := id hB
  have hFW1 := mul44 hF hW
  have hLW1 := mul44 hL hW
  refine r_aln (pc := 0) C 0 rfl dX5_simulate_0 ?_
  refine r_iln (pc := 1) C 2 rfl dX5_simulate_1 ?_
  refine r_i2l (pc := 2) C rfl dX5_simulate_2 ?_
  refine r_lc (pc := 3) (v := 1) C rfl dX5_simulate_3 ?_
  refine r_lc2 (pc := 4) C (mw 1 rfl) dX5_simulate_4 ?_
  refine c_RS (pc := 7) (As := [.long x.toInt64, .long 1, .long (60)]) (wc := [])  C (k_X5_in l D cT x.toInt64 1 (60)) (va_cwS 3 C.1.2.2.2.2 gX5_simulate_X5_in rfl rfl rfl n_X5_in ⟨Nat.le_of_ble_eq_true rfl, Nat.le_of_ble_eq_true rfl⟩) [] rfl rfl rfl (Nat.le_of_ble_eq_true rfl) ⟨Nat.zero_le _, Nat.zero_le _⟩ dX5_simulate_7 (fun r7 h1 => ?_)
  rcases h1 with ⟨rfl, h1⟩ | ⟨rfl, h1⟩
  · obtain ⟨h1j, rfl, h1l, h1m⟩ := (in_rng (n := 60) (by decide) (by decide)).mp h1
    refine r_zeqN (pc := 10) (tgt := 17) C (by omega) dX5_simulate_10 (by decide) (fun h => absurd h (by decide)) (fun _ => ?_)
    refine r_ic (pc := 13) (v := nI 0) C rfl dX5_simulate_13 ?_
    refine r_goto (pc := 14) (tgt := 18) C dX5_simulate_14 (by decide) ?_
    refine c_WVi (pc := 18) (As := [.int (nI 0)]) (wc := [(mA, cMo mref mscr msz mspot mgood mleft mread mnow mtri mdia macts mkept misk qp)]) (wr := [(qp, aI (cT 0) 16 pl), (mnow, aI (cT 0) 104 f), (mtri, aI (cT 0) 104 ft)]) (qr := 0) C hA (k_X5_refused l D cT mA mref mscr msz mspot mgood mleft mread mnow mtri mdia macts mkept misk qp 0 (by first | assumption | omega)) (cwV 1 C.1.2.2.2.2 gX5_simulate_X5_refused rfl rfl rfl n_X5_refused ⟨Nat.le_of_ble_eq_true rfl, Nat.le_of_ble_eq_true rfl⟩) rfl rfl [0] [1, 2, 3] rfl rfl ⟨by decide, by decide⟩ (by decide) [3, 0, 1, 2] (fun u3 => [(mA, cMo u3 mscr msz mspot mgood mleft mread mnow mtri mdia macts mkept misk qp), (qp, aI (cT 0) 16 pl), (mnow, aI (cT 0) 104 f), (mtri, aI (cT 0) 104 ft)]) (fun _ => rfl) (by decide) rfl rfl (Nat.le_of_ble_eq_true rfl) ⟨Nat.zero_le _, Nat.zero_le _⟩ dX5_simulate_18 (fun r18 u3 h2 => ?_)
    obtain ⟨h2, h2m⟩ := h2
    have h2 := h2.trans (if_pos rfl)
    subst h2
    subst h2m
    refine r_zeqN (pc := 21) (tgt := 26) C (by omega) dX5_simulate_21 (by decide) (fun _ => ?_) (fun h => absurd h (by decide))
    refine r_aln (pc := 26) C 0 rfl dX5_simulate_26 ?_
    refine c_WVv (pc := 27) (As := []) (wc := [(mA, cMo 0 mscr msz mspot mgood mleft mread mnow mtri mdia macts mkept misk qp), (mnow, aI (cT 0) 104 f), (mtri, aI (cT 0) 104 ft)]) (wr := [(qp, aI (cT 0) 16 pl)]) (qr := 0) C hA (k_X5_tryIt l D cT mA 0 mscr msz mspot mgood mleft mread mnow mtri mdia macts mkept misk qp f ft) (cwV 0 C.1.2.2.2.2 gX5_simulate_X5_tryIt rfl rfl rfl n_X5_tryIt ⟨Nat.le_of_ble_eq_true rfl, Nat.le_of_ble_eq_true rfl⟩) rfl rfl [0, 2, 3] [1] rfl rfl ⟨by decide, by decide⟩ (by decide) [1, 0, 2, 3] (fun u5 => [(mA, cMo 0 mscr msz mspot mgood mleft mread mnow mtri mdia macts mkept misk qp), (qp, aI (cT 0) 16 pl), (mnow, aI (cT 0) 104 f), (mtri, aI (cT 0) 104 u5)]) (fun _ => rfl) (by decide) rfl rfl (Nat.le_of_ble_eq_true rfl) ⟨Nat.zero_le _, Nat.zero_le _⟩ dX5_simulate_27 (fun u5 h4 => ?_)
    obtain ⟨m6, rfl⟩ : ∃ z, z = u5 := ⟨_, rfl⟩
    try dsimp only at h4
    subst h4
    refine r_lln (pc := 30) C 1 rfl dX5_simulate_30 ?_
    refine r_lst (pc := 31) C [1, 2, 3, 0] [(0, .ref mA), (1, .long sx), (3, .int (nI h1j)), (4, .long sx)] (by decide) rfl dX5_simulate_31 ?_
    refine r_ic (pc := 33) (v := nI 0) C rfl dX5_simulate_33 ?_
    refine r_is (pc := 34) C [1, 2, 3, 4, 0] [(0, .ref mA), (1, .long sx), (3, .int (nI h1j)), (4, .long sx), (6, .int (nI 0))] (by decide) rfl dX5_simulate_34 ?_
    have L36 : ∀ (n36 : Nat) (k : Nat) (pl1 : Nat → Int32) (f1 : Nat → Int32) (v : SS) (t : Int32) (hkk : k ≤ h1j) (hQs : simQ sx k u v t) (hRv : RowQ f1 v) (hJv : JQ v), h1j - k < n36 → RW p l e (headSpec wsX5_simulate rmX5_simulate).room s m args below meth c (IW s D A) 7 0 0 Q [(mA, cMo 0 mscr msz mspot mgood mleft mread mnow mtri mdia macts mkept misk qp), (qp, aI (cT 0) 16 pl1), (mnow, aI (cT 0) 104 f), (mtri, aI (cT 0) 104 f1)] 36 [(0, .ref mA), (1, .long sx), (3, .int (nI h1j)), (4, .long (lcgs sx k)), (6, .int (nI k))] [] := by
      intro n36
      induction n36 with
      | zero => intro k pl1 f1 v t hkk hQs hRv hJv hn36; exact absurd hn36 (Nat.not_lt_zero _)
      | succ n36 ih36 =>
        intro k pl1 f1 v t hkk hQs hRv hJv hn36
        refine r_il (pc := 36) C 4 rfl dX5_simulate_36 ?_
        refine r_iln (pc := 38) C 2 rfl dX5_simulate_38 ?_
        refine r_cgeN (pc := 39) (tgt := 70) C (by omega) (by omega) dX5_simulate_39 (by decide) (fun c39 => ?_) (fun c39 => ?_)
        · refine r_si (pc := 70) (v := nI 1000) C rfl dX5_simulate_70 ?_
          refine r_aln (pc := 73) C 0 rfl dX5_simulate_73 ?_
          refine r_get (pc := 74) C iX5_simulate_X5 0 rfl rfl 8 (by decide) (mw 4 rfl) rfl rfl dX5_simulate_74 ?_
          refine r_bi (pc := 77) (v := nI 6) C rfl dX5_simulate_77 ?_
          refine r_ialI (pc := 79) C 3 rfl (by omega) (by decide) dX5_simulate_79 ?_
          refine r_v (y := nI v.mov) hRv.1.2.2.2.2.2.2.1 ?_
          refine r_aln (pc := 80) C 0 rfl dX5_simulate_80 ?_
          refine r_get (pc := 81) C iX5_simulate_X5 0 rfl rfl 7 (by decide) (mw 5 rfl) rfl rfl dX5_simulate_81 ?_
          refine r_bi (pc := 84) (v := nI 6) C rfl dX5_simulate_84 ?_
          refine r_ialI (pc := 86) C 2 rfl (by omega) (by decide) dX5_simulate_86 ?_
          refine r_v (y := nI u.mov) hR.1.2.2.2.2.2.2.1 ?_
          refine r_isub (pc := 87) C dX5_simulate_87 ?_
          refine r_v (y := t) (sub_of (simQ_mov hJ hQs)) ?_
          refine r_imul (pc := 88) C dX5_simulate_88 ?_
          refine r_aln (pc := 89) C 0 rfl dX5_simulate_89 ?_
          refine r_get (pc := 90) C iX5_simulate_X5 0 rfl rfl 8 (by decide) (mw 4 rfl) rfl rfl dX5_simulate_90 ?_
          refine r_ic (pc := 93) (v := nI 4) C rfl dX5_simulate_93 ?_
          refine r_ialI (pc := 94) C 3 rfl (by omega) (by decide) dX5_simulate_94 ?_
          refine r_v (y := nI v.cnt) hRv.1.2.2.2.2.1 ?_
          refine r_iadd (pc := 95) C dX5_simulate_95 ?_
          subst hQ
          exact e_iW C hr hk (Nat.le_refl _) (Nat.le_refl _) ⟨0, pl1, f1⟩ rfl (Or.inr ⟨rfl, h1j, rfl, h1l, h1m, v, t, (show k = h1j by omega) ▸ hQs, rfl⟩) dX5_simulate_96
        · refine r_ll (pc := 42) C 3 rfl dX5_simulate_42 ?_
          refine r_lc2 (pc := 44) C (mw 2 rfl) dX5_simulate_44 ?_
          refine r_lmul (pc := 47) C dX5_simulate_47 ?_
          refine r_lc2 (pc := 48) C (mw 3 rfl) dX5_simulate_48 ?_
          refine r_ladd (pc := 51) C dX5_simulate_51 ?_
          refine r_vl (y := lcgs sx (k + 1)) rfl ?_
          refine r_lst (pc := 52) C [1, 2, 3, 0, 4] [(0, .ref mA), (1, .long sx), (3, .int (nI h1j)), (4, .long (lcgs sx (k + 1))), (6, .int (nI k))] (by decide) rfl dX5_simulate_52 ?_
          refine r_aln (pc := 54) C 0 rfl dX5_simulate_54 ?_
          refine r_ll (pc := 55) C 3 rfl dX5_simulate_55 ?_
          refine r_bi (pc := 57) (v := nI 33) C rfl dX5_simulate_57 ?_
          refine r_lushr (pc := 59) C rfl dX5_simulate_59 ?_
          refine r_l2i (pc := 60) C rfl dX5_simulate_60 ?_
          refine r_v (y := nI ((lcgs sx (k + 1)).toUInt64.toNat / 2 ^ 33)) (ush_i _) ?_
          refine c_WVv (pc := 61) (As := [.int (nI ((lcgs sx (k + 1)).toUInt64.toNat / 2 ^ 33))]) (wc := [(mA, cMo 0 mscr msz mspot mgood mleft mread mnow mtri mdia macts mkept misk qp), (qp, aI (cT 0) 16 pl1), (mtri, aI (cT 0) 104 f1)]) (wr := [(mnow, aI (cT 0) 104 f)]) (qr := 0) C hA (k_X5_stir l D cT mA 0 mscr msz mspot mgood mleft mread mnow mtri mdia macts mkept misk qp pl1 f1 ((lcgs sx (k + 1)).toUInt64.toNat / 2 ^ 33) v hRv hJv (ush_lt _)) (cwV 1 C.1.2.2.2.2 gX5_simulate_X5_stir rfl rfl rfl n_X5_stir ⟨Nat.le_of_ble_eq_true rfl, Nat.le_of_ble_eq_true rfl⟩) rfl rfl [0, 1, 3] [2] rfl rfl ⟨by decide, by decide⟩ (by decide) [1, 2, 0, 3] (fun u8 => [(mA, cMo 0 mscr msz mspot mgood mleft mread mnow mtri mdia macts mkept misk qp), (qp, aI (cT 0) 16 u8.1), (mnow, aI (cT 0) 104 f), (mtri, aI (cT 0) 104 u8.2)]) (fun _ => rfl) (by decide) rfl rfl (Nat.le_of_ble_eq_true rfl) ⟨Nat.zero_le _, Nat.zero_le _⟩ dX5_simulate_61 (fun u8 h7 => ?_)
          obtain ⟨h7v, h7r, h7, h7R⟩ := h7
          refine r_incN (pc := 64) C 4 [1, 2, 3, 4, 0] [(0, .ref mA), (1, .long sx), (3, .int (nI h1j)), (4, .long (lcgs sx (k + 1))), (6, .int (nI (k + 1)))] rfl (by decide) rfl dX5_simulate_64 ?_
          refine r_goto (pc := 67) (tgt := 36) C dX5_simulate_67 (by decide) ?_
          exact ih36 (k + 1) u8.1 u8.2 h7v (t + h7r) (by omega) ⟨v, t, h7r, hQs, h7, rfl⟩ h7R (jq_mt hJv h7) (by omega)
    exact L36 _ 0 pl (cpF f ft 0 0 104) u (nI 0) (Nat.zero_le _) ⟨rfl, rfl⟩ (rq_cp hJ hR) hJ (Nat.lt_succ_self _)
  · have h1 := fun g => h1 ((in_rng (n := 60) (by decide) (by decide)).mpr g)
    refine r_zeqN (pc := 10) (tgt := 17) C (by omega) dX5_simulate_10 (by decide) (fun _ => ?_) (fun h => absurd h (by decide))
    refine r_ic (pc := 17) (v := nI 1) C rfl dX5_simulate_17 ?_
    refine c_WVi (pc := 18) (As := [.int (nI 1)]) (wc := [(mA, cMo mref mscr msz mspot mgood mleft mread mnow mtri mdia macts mkept misk qp)]) (wr := [(qp, aI (cT 0) 16 pl), (mnow, aI (cT 0) 104 f), (mtri, aI (cT 0) 104 ft)]) (qr := 0) C hA (k_X5_refused l D cT mA mref mscr msz mspot mgood mleft mread mnow mtri mdia macts mkept misk qp 1 (by first | assumption | omega)) (cwV 1 C.1.2.2.2.2 gX5_simulate_X5_refused rfl rfl rfl n_X5_refused ⟨Nat.le_of_ble_eq_true rfl, Nat.le_of_ble_eq_true rfl⟩) rfl rfl [0] [1, 2, 3] rfl rfl ⟨by decide, by decide⟩ (by decide) [3, 0, 1, 2] (fun u10 => [(mA, cMo u10 mscr msz mspot mgood mleft mread mnow mtri mdia macts mkept misk qp), (qp, aI (cT 0) 16 pl), (mnow, aI (cT 0) 104 f), (mtri, aI (cT 0) 104 ft)]) (fun _ => rfl) (by decide) rfl rfl (Nat.le_of_ble_eq_true rfl) ⟨Nat.zero_le _, Nat.zero_le _⟩ dX5_simulate_18 (fun r18 u10 h9 => ?_)
    obtain ⟨h9, h9m⟩ := h9
    have h9 := h9.trans (if_neg (by decide))
    subst h9
    subst h9m
    refine r_zeqN (pc := 21) (tgt := 26) C (by omega) dX5_simulate_21 (by decide) (fun h => absurd h (by decide)) (fun _ => ?_)
    refine r_ic (pc := 24) (v := nI 0) C rfl dX5_simulate_24 ?_
    subst hQ
    exact e_iW C hr hk (Nat.le_refl _) (Nat.le_refl _) ⟨1, pl, ft⟩ rfl (Or.inl ⟨rfl, h1⟩) dX5_simulate_25

