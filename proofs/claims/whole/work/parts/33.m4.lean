/-! the model reads a whole text -/
theorem pb4_0 {len : Nat} {sg : Nat → Nat} (h : ¬ (0 < len ∧ sg 0 = 67)) : PB4 len sg = (false, 0, 0, 0, 0, 0) := if_neg h
theorem ld_pos {fw mid lw len : Nat} {sg : Nat → Nat} {u0 : SS} (hl : len ≤ 120) : ∀ {i p : Nat} {v : SS} {k : Nat}, 5 ≤ len → ldQ fw mid lw len sg u0 i p v k → 5 + 2 * i ≤ p ∧ p ≤ len
  | 0, p, v, k, h5, h => by
    obtain ⟨rfl, -, -⟩ := h; omega
  | i + 1, p, v, k, h5, h => by
    obtain ⟨p0, w, k0, lt, a, b, ro, r, h, hP, -⟩ := h
    have := ld_pos hl h5 h
    have := pc_ok hl (by omega) hP
    omega
theorem ld_pe {fw mid lw len : Nat} {sg : Nat → Nat} {u0 : SS} (hl : len ≤ 120) (h5 : 5 ≤ len) : ∀ {i p : Nat} {v : SS} {k : Nat}, ldQ fw mid lw len sg u0 i p v k → PE fw mid lw len sg 120 5 = PE fw mid lw len sg (120 - i) p
  | 0, p, v, k, h => by
    obtain ⟨rfl, -, -⟩ := h; rfl
  | i + 1, p, v, k, h => by
    have hp := ld_pos hl h5 h
    obtain ⟨p0, w, k0, lt, a, b, ro, r, h, hP, -⟩ := h
    have hp0 := ld_pos hl h5 h
    have q := pc_ok hl (by omega) hP
    rw [ld_pe hl h5 h, show 120 - i = (120 - (i + 1)) + 1 by omega]
    exact pe_go q.1 hP
theorem ld_bad {fw mid lw len : Nat} {sg : Nat → Nat} {u0 v : SS} {i p k e : Nat} (hl : len ≤ 120) (h5 : 5 ≤ len) (h : ldQ fw mid lw len sg u0 i p v k) (hp : p < len) (hP : PC fw mid lw len sg p = (false, e, 0, 0, 0)) : PE fw mid lw len sg 120 5 = some e := by
  have := ld_pos hl h5 h
  rw [ld_pe hl h5 h, show 120 - i = (120 - i - 1) + 1 by omega]
  exact pe_bad hp hP
theorem ld_end {fw mid lw len : Nat} {sg : Nat → Nat} {u0 v : SS} {i p k : Nat} (hl : len ≤ 120) (h5 : 5 ≤ len) (h : ldQ fw mid lw len sg u0 i p v k) (hp : len ≤ p) : PE fw mid lw len sg 120 5 = none := by
  rw [ld_pe hl h5 h]
  exact pe_end (by omega)
/-- what reading the whole text answers and leaves -/
def RTq (len : Nat) (sg : Nat → Nat) (r : Int32) (lo' : Nat) (f' : Nat → Int32) : Prop :=
  FEq len sg r ∧ (r = -1 → ∃ a b c d i p v, PB4 len sg = (true, 5, a, b, c, d) ∧ ldQ (a * b) c (d * b) len sg (newS a b c d) i p v lo' ∧ len ≤ p ∧ RowQ f' v ∧ JQ v)
theorem rt_h {len e lo' : Nat} {sg : Nat → Nat} {f' : Nat → Int32} (h : PB4 len sg = (false, e, 0, 0, 0, 0)) : RTq len sg (nI e) lo' f' :=
  ⟨Or.inl ⟨e, h, rfl⟩, fun q => absurd q (nI_m1 (by have := pb4_f h; omega))⟩
theorem rt_b {len e lo' a b c d : Nat} {sg : Nat → Nat} {f' : Nat → Int32} (h : PB4 len sg = (true, 5, a, b, c, d)) (g : PE (a * b) c (d * b) len sg 120 5 = some e) (he : e ≤ 200) : RTq len sg (nI e) lo' f' :=
  ⟨Or.inr ⟨a, b, c, d, h, Or.inl ⟨e, g, rfl⟩⟩, fun q => absurd q (nI_m1 (by omega))⟩
theorem rt_ok {len lo' a b c d i p : Nat} {v : SS} {sg : Nat → Nat} {f' : Nat → Int32} (hl : len ≤ 120) (h : PB4 len sg = (true, 5, a, b, c, d)) (g : ldQ (a * b) c (d * b) len sg (newS a b c d) i p v lo') (hp : len ≤ p) (hR : RowQ f' v) (hJ : JQ v) : RTq len sg (-1) lo' f' :=
  ⟨Or.inr ⟨a, b, c, d, h, Or.inr ⟨ld_end hl (pb4_bd h).2.2.2.2 g hp, rfl⟩⟩, fun _ => ⟨a, b, c, d, i, p, v, h, g, hp, hR, hJ⟩⟩
def LDm (len : Nat) (sg : Nat → Nat) (r : Int32) (rf' lo' : Nat) (fn fn' : Nat → Int32) (ac ac' : Nat) (sk sk' : Nat → Nat) : Prop :=
  (rf' = 1 ∧ (∃ r0, FEq len sg r0 ∧ ¬ r0 = -1) ∧ fn' = fn ∧ ac' = ac ∧ sk' = sk) ∨
  (rf' = 0 ∧ r = nI lo' ∧ FEq len sg (-1) ∧ ac' = 0 ∧ (∀ x, x < 2 → sk' x = 0) ∧ ∃ a b c d i p v, PB4 len sg = (true, 5, a, b, c, d) ∧ ldQ (a * b) c (d * b) len sg (newS a b c d) i p v lo' ∧ len ≤ p ∧ RowQ fn' v ∧ JQ v)
theorem rq_cp {f g : Nat → Int32} {u : SS} (hJ : JQ u) (h : RowQ f u) : RowQ (cpF f g 0 0 104) u := rq_of (bd_of hJ).2.2.2.2.2.2.1 h (fun k hk => by unfold cpF; rw [if_pos (by omega)]; rfl)

theorem iX5_readText_X5 : ∀ w ∈ u_ws RX5 TX5 14, w ∈ wsX5_readText := by decide +kernel
abbrev rmX5_readText : Room := { frames := 10, cells := 0, slots := 0, locals := 236 }
theorem n_X5_readText : yX5_readText.cls = RX5 ∧ yX5_readText.cls ≠ "java/lang/invoke/MethodHandle" ∧ yX5_readText.cls ≠ "java/lang/invoke/VarHandle" ∧ (parseMethodDescriptor yX5_readText.desc).map (fun d => d.parameters.length) = some 0 := by decide +kernel
set_option maxHeartbeats 4000000 in
set_option maxRecDepth 100000 in
theorem k_X5_readText (l : Launch) (D : va_G) (cT : Nat → ClassId) (mA mref mscr msz mspot mgood mleft mread mnow mtri mdia macts mkept misk qp : Nat) (sg : Nat → Nat) (pl f : Nat → Int32) (hz : msz ≤ 120) (hsg : ∀ k, k < 120 → sg k < 256) : MWi (S := Nat × Nat × Nat × (Nat → Int32) × (Nat → Int32)) l D cT yX5_readText wsX5_readText rmX5_readText [.ref mA] [(mA, cMo mref mscr msz mspot mgood mleft mread mnow mtri mdia macts mkept misk qp), (mscr, aN (cT 0) 120 sg), (qp, aI (cT 0) 16 pl), (mread, aI (cT 0) 104 f)] (fun r w9 => RTq msz sg r w9.2.2.1 w9.2.2.2.2) (fun w9 => [(mA, cMo mref mscr msz w9.2.1 w9.1 w9.2.2.1 mread mnow mtri mdia macts mkept misk qp), (mscr, aN (cT 0) 120 sg), (qp, aI (cT 0) 16 w9.2.2.2.1), (mread, aI (cT 0) 104 w9.2.2.2.2)]) 0 0 := by
  refine m_Wi [(0, .ref mA)] (by decide +kernel) rfl (Nat.le_of_ble_eq_true rfl) rfl ?_
  intro p e s m args below meth c A hAe C hA hr hk hnm_
  generalize hQ : MQ below (va_Qi _ _ A) args s 0 0 A = Q
  refine r_aln (pc := 0) C 0 rfl dX5_readText_0 ?_
  refine r_ic (pc := 1) (v := nI 0) C rfl dX5_readText_1 ?_
  refine r_put (pc := 2) (ws2 := [(mA, cMo mref mscr msz 0 mgood mleft mread mnow mtri mdia macts mkept misk qp), (mscr, aN (cT 0) 120 sg), (qp, aI (cT 0) 16 pl), (mread, aI (cT 0) 104 f)]) C iX5_readText_X5 tyX5_ok nmX5 0 rfl rfl 3 (by decide) (mw 1 rfl) rfl rfl rfl rfl (Nat.le_of_ble_eq_true rfl) rfl dX5_readText_2 ?_
  refine r_aln (pc := 5) C 0 rfl dX5_readText_5 ?_
  refine r_ic (pc := 6) (v := nI 1) C rfl dX5_readText_6 ?_
  refine r_put (pc := 7) (ws2 := [(mA, cMo mref mscr msz 0 1 mleft mread mnow mtri mdia macts mkept misk qp), (mscr, aN (cT 0) 120 sg), (qp, aI (cT 0) 16 pl), (mread, aI (cT 0) 104 f)]) C iX5_readText_X5 tyX5_ok nmX5 0 rfl rfl 4 (by decide) (mw 2 rfl) rfl rfl rfl rfl (Nat.le_of_ble_eq_true rfl) rfl dX5_readText_7 ?_
  refine r_aln (pc := 10) C 0 rfl dX5_readText_10 ?_
  refine r_ic (pc := 11) (v := nI 0) C rfl dX5_readText_11 ?_
  refine r_put (pc := 12) (ws2 := [(mA, cMo mref mscr msz 0 1 0 mread mnow mtri mdia macts mkept misk qp), (mscr, aN (cT 0) 120 sg), (qp, aI (cT 0) 16 pl), (mread, aI (cT 0) 104 f)]) C iX5_readText_X5 tyX5_ok nmX5 0 rfl rfl 5 (by decide) (mw 3 rfl) rfl rfl rfl rfl (Nat.le_of_ble_eq_true rfl) rfl dX5_readText_12 ?_
  refine r_aln (pc := 15) C 0 rfl dX5_readText_15 ?_
  refine r_aln (pc := 16) C 0 rfl dX5_readText_16 ?_
  refine r_bi (pc := 17) (v := nI 67) C rfl dX5_readText_17 ?_
  refine c_RV (pc := 19) (As := [.int (nI 67)]) (wc := [(mA, cMo mref mscr msz 0 1 0 mread mnow mtri mdia macts mkept misk qp), (mscr, aN (cT 0) 120 sg)]) (qr := 0) C (k_X5_isNext l D cT mA mref mscr msz 0 1 0 mread mnow mtri mdia macts mkept misk qp sg 67 (by first | assumption | omega) (by first | assumption | omega) (by first | assumption | omega) (by first | assumption | omega)) (cwV 1 C.1.2.2.2.2 gX5_readText_X5_isNext rfl rfl rfl n_X5_isNext ⟨Nat.le_of_ble_eq_true rfl, Nat.le_of_ble_eq_true rfl⟩) [0, 1] rfl rfl rfl rfl rfl (Nat.le_of_ble_eq_true rfl) ⟨Nat.zero_le _, Nat.zero_le _⟩ dX5_readText_19 (fun r19 h1 => ?_)
  rcases h1 with ⟨rfl, h1⟩ | ⟨rfl, h1⟩
  · refine c_WVv (pc := 22) (As := [.int (nI 1)]) (wc := [(mA, cMo mref mscr msz 0 1 0 mread mnow mtri mdia macts mkept misk qp)]) (wr := [(mscr, aN (cT 0) 120 sg), (qp, aI (cT 0) 16 pl), (mread, aI (cT 0) 104 f)]) (qr := 0) C hA (k_X5_accept l D cT mA mref mscr msz 0 1 0 mread mnow mtri mdia macts mkept misk qp 1 (by first | assumption | omega) (by first | assumption | omega)) (cwV 1 C.1.2.2.2.2 gX5_readText_X5_accept rfl rfl rfl n_X5_accept ⟨Nat.le_of_ble_eq_true rfl, Nat.le_of_ble_eq_true rfl⟩) rfl rfl [0] [1, 2, 3] rfl rfl ⟨by decide, by decide⟩ (by decide) [3, 0, 1, 2] (fun u3 => [(mA, cMo mref mscr msz u3.2 u3.1 0 mread mnow mtri mdia macts mkept misk qp), (mscr, aN (cT 0) 120 sg), (qp, aI (cT 0) 16 pl), (mread, aI (cT 0) 104 f)]) (fun _ => rfl) (by decide) rfl rfl (Nat.le_of_ble_eq_true rfl) ⟨Nat.zero_le _, Nat.zero_le _⟩ dX5_readText_22 (fun u3 h2 => ?_)
    obtain ⟨m4, m5⟩ := u3
    try dsimp only at h2 ⊢
    obtain ⟨h2a, h2b, rfl, rfl⟩ := h2.resolve_right (fun q => q.1 ⟨rfl, rfl⟩)
    refine r_aln (pc := 25) C 0 rfl dX5_readText_25 ?_
    refine r_ic (pc := 26) (v := nI 1) C rfl dX5_readText_26 ?_
    refine r_ic (pc := 27) (v := nI 4) C rfl dX5_readText_27 ?_
    refine c_WVi (pc := 28) (As := [.int (nI 1), .int (nI 4)]) (wc := [(mA, cMo mref mscr msz (0 + 1) 1 0 mread mnow mtri mdia macts mkept misk qp), (mscr, aN (cT 0) 120 sg)]) (wr := [(qp, aI (cT 0) 16 pl), (mread, aI (cT 0) 104 f)]) (qr := 0) C hA (k_X5_digit l D cT mA mref mscr msz (0 + 1) 1 0 mread mnow mtri mdia macts mkept misk qp sg 1 4 (by first | assumption | omega) (by first | assumption | omega) (by first | assumption | omega) (by first | assumption | omega) (by first | assumption | omega) (by first | assumption | omega)) (cwV 2 C.1.2.2.2.2 gX5_readText_X5_digit rfl rfl rfl n_X5_digit ⟨Nat.le_of_ble_eq_true rfl, Nat.le_of_ble_eq_true rfl⟩) rfl rfl [0, 1] [2, 3] rfl rfl ⟨by decide, by decide⟩ (by decide) [2, 3, 0, 1] (fun u7 => [(mA, cMo mref mscr msz u7.2 u7.1 0 mread mnow mtri mdia macts mkept misk qp), (mscr, aN (cT 0) 120 sg), (qp, aI (cT 0) 16 pl), (mread, aI (cT 0) 104 f)]) (fun _ => rfl) (by decide) rfl rfl (Nat.le_of_ble_eq_true rfl) ⟨Nat.zero_le _, Nat.zero_le _⟩ dX5_readText_28 (fun r28 u7 h6 => ?_)
    obtain ⟨m8, m9⟩ := u7
    try dsimp only at h6 ⊢
    rcases h6 with ⟨-, h6d, h6, rfl, rfl, rfl⟩ | ⟨h6, rfl, rfl, rfl⟩
    · have h6b := pd_some h6
      refine r_isn (pc := 31) C [1, 0] [(0, .ref mA), (1, .int (nI h6d))] rfl (by decide) rfl dX5_readText_31 ?_
      refine r_aln (pc := 32) C 0 rfl dX5_readText_32 ?_
      refine r_ic (pc := 33) (v := nI 1) C rfl dX5_readText_33 ?_
      refine r_ic (pc := 34) (v := nI 4) C rfl dX5_readText_34 ?_
      refine c_WVi (pc := 35) (As := [.int (nI 1), .int (nI 4)]) (wc := [(mA, cMo mref mscr msz ((0 + 1) + 1) 1 0 mread mnow mtri mdia macts mkept misk qp), (mscr, aN (cT 0) 120 sg)]) (wr := [(qp, aI (cT 0) 16 pl), (mread, aI (cT 0) 104 f)]) (qr := 0) C hA (k_X5_digit l D cT mA mref mscr msz ((0 + 1) + 1) 1 0 mread mnow mtri mdia macts mkept misk qp sg 1 4 (by first | assumption | omega) (by first | assumption | omega) (by first | assumption | omega) (by first | assumption | omega) (by first | assumption | omega) (by first | assumption | omega)) (cwV 2 C.1.2.2.2.2 gX5_readText_X5_digit rfl rfl rfl n_X5_digit ⟨Nat.le_of_ble_eq_true rfl, Nat.le_of_ble_eq_true rfl⟩) rfl rfl [0, 1] [2, 3] rfl rfl ⟨by decide, by decide⟩ (by decide) [2, 3, 0, 1] (fun u11 => [(mA, cMo mref mscr msz u11.2 u11.1 0 mread mnow mtri mdia macts mkept misk qp), (mscr, aN (cT 0) 120 sg), (qp, aI (cT 0) 16 pl), (mread, aI (cT 0) 104 f)]) (fun _ => rfl) (by decide) rfl rfl (Nat.le_of_ble_eq_true rfl) ⟨Nat.zero_le _, Nat.zero_le _⟩ dX5_readText_35 (fun r35 u11 h10 => ?_)
      obtain ⟨m12, m13⟩ := u11
      try dsimp only at h10 ⊢
      rcases h10 with ⟨-, h10d, h10, rfl, rfl, rfl⟩ | ⟨h10, rfl, rfl, rfl⟩
      · have h10b := pd_some h10
        refine r_isn (pc := 38) C [1, 2, 0] [(0, .ref mA), (1, .int (nI h6d)), (2, .int (nI h10d))] rfl (by decide) rfl dX5_readText_38 ?_
        refine r_aln (pc := 39) C 0 rfl dX5_readText_39 ?_
        refine r_ic (pc := 40) (v := nI 1) C rfl dX5_readText_40 ?_
        refine r_ic (pc := 41) (v := nI 4) C rfl dX5_readText_41 ?_
        refine c_WVi (pc := 42) (As := [.int (nI 1), .int (nI 4)]) (wc := [(mA, cMo mref mscr msz (((0 + 1) + 1) + 1) 1 0 mread mnow mtri mdia macts mkept misk qp), (mscr, aN (cT 0) 120 sg)]) (wr := [(qp, aI (cT 0) 16 pl), (mread, aI (cT 0) 104 f)]) (qr := 0) C hA (k_X5_digit l D cT mA mref mscr msz (((0 + 1) + 1) + 1) 1 0 mread mnow mtri mdia macts mkept misk qp sg 1 4 (by first | assumption | omega) (by first | assumption | omega) (by first | assumption | omega) (by first | assumption | omega) (by first | assumption | omega) (by first | assumption | omega)) (cwV 2 C.1.2.2.2.2 gX5_readText_X5_digit rfl rfl rfl n_X5_digit ⟨Nat.le_of_ble_eq_true rfl, Nat.le_of_ble_eq_true rfl⟩) rfl rfl [0, 1] [2, 3] rfl rfl ⟨by decide, by decide⟩ (by decide) [2, 3, 0, 1] (fun u15 => [(mA, cMo mref mscr msz u15.2 u15.1 0 mread mnow mtri mdia macts mkept misk qp), (mscr, aN (cT 0) 120 sg), (qp, aI (cT 0) 16 pl), (mread, aI (cT 0) 104 f)]) (fun _ => rfl) (by decide) rfl rfl (Nat.le_of_ble_eq_true rfl) ⟨Nat.zero_le _, Nat.zero_le _⟩ dX5_readText_42 (fun r42 u15 h14 => ?_)
        obtain ⟨m16, m17⟩ := u15
        try dsimp only at h14 ⊢
        rcases h14 with ⟨-, h14d, h14, rfl, rfl, rfl⟩ | ⟨h14, rfl, rfl, rfl⟩
        · have h14b := pd_some h14
          refine r_isn (pc := 45) C [1, 2, 3, 0] [(0, .ref mA), (1, .int (nI h6d)), (2, .int (nI h10d)), (3, .int (nI h14d))] rfl (by decide) rfl dX5_readText_45 ?_
          refine r_aln (pc := 46) C 0 rfl dX5_readText_46 ?_
          refine r_get (pc := 47) C iX5_readText_X5 0 rfl rfl 6 (by decide) (mw 4 rfl) rfl rfl dX5_readText_47 ?_
          refine r_iln (pc := 50) C 1 rfl dX5_readText_50 ?_
          refine r_iln (pc := 51) C 2 rfl dX5_readText_51 ?_
          refine r_iln (pc := 52) C 3 rfl dX5_readText_52 ?_
          refine r_aln (pc := 53) C 0 rfl dX5_readText_53 ?_
          refine r_ic (pc := 54) (v := nI 1) C rfl dX5_readText_54 ?_
          refine r_ic (pc := 55) (v := nI 4) C rfl dX5_readText_55 ?_
          refine c_WVi (pc := 56) (As := [.int (nI 1), .int (nI 4)]) (wc := [(mA, cMo mref mscr msz ((((0 + 1) + 1) + 1) + 1) 1 0 mread mnow mtri mdia macts mkept misk qp), (mscr, aN (cT 0) 120 sg)]) (wr := [(qp, aI (cT 0) 16 pl), (mread, aI (cT 0) 104 f)]) (qr := 0) C hA (k_X5_digit l D cT mA mref mscr msz ((((0 + 1) + 1) + 1) + 1) 1 0 mread mnow mtri mdia macts mkept misk qp sg 1 4 (by first | assumption | omega) (by first | assumption | omega) (by first | assumption | omega) (by first | assumption | omega) (by first | assumption | omega) (by first | assumption | omega)) (cwV 2 C.1.2.2.2.2 gX5_readText_X5_digit rfl rfl rfl n_X5_digit ⟨Nat.le_of_ble_eq_true rfl, Nat.le_of_ble_eq_true rfl⟩) rfl rfl [0, 1] [2, 3] rfl rfl ⟨by decide, by decide⟩ (by decide) [2, 3, 0, 1] (fun u19 => [(mA, cMo mref mscr msz u19.2 u19.1 0 mread mnow mtri mdia macts mkept misk qp), (mscr, aN (cT 0) 120 sg), (qp, aI (cT 0) 16 pl), (mread, aI (cT 0) 104 f)]) (fun _ => rfl) (by decide) rfl rfl (Nat.le_of_ble_eq_true rfl) ⟨Nat.zero_le _, Nat.zero_le _⟩ dX5_readText_56 (fun r56 u19 h18 => ?_)
          obtain ⟨m20, m21⟩ := u19
          try dsimp only at h18 ⊢
          rcases h18 with ⟨-, h18d, h18, rfl, rfl, rfl⟩ | ⟨h18, rfl, rfl, rfl⟩
          · have h18b := pd_some h18
            refine c_WSv (pc := 59) (As := [.ref mread, .int (nI h6d), .int (nI h10d), .int (nI h14d), .int (nI h18d)]) (wc := [(mread, aI (cT 0) 104 f)]) (wr := [(mA, cMo mref mscr msz (((((0 + 1) + 1) + 1) + 1) + 1) 1 0 mread mnow mtri mdia macts mkept misk qp), (mscr, aN (cT 0) 120 sg), (qp, aI (cT 0) 16 pl)])  C hA (k_X5_clean l D cT mread f h6d h10d h14d h18d) (va_cwS 5 C.1.2.2.2.2 gX5_readText_X5_clean rfl rfl rfl n_X5_clean ⟨Nat.le_of_ble_eq_true rfl, Nat.le_of_ble_eq_true rfl⟩) [3] [0, 1, 2] rfl rfl ⟨by decide, by decide⟩ (by decide) [0, 1, 2, 3] (fun u23 => [(mA, cMo mref mscr msz (((((0 + 1) + 1) + 1) + 1) + 1) 1 0 mread mnow mtri mdia macts mkept misk qp), (mscr, aN (cT 0) 120 sg), (qp, aI (cT 0) 16 pl), (mread, aI (cT 0) 104 u23)]) (fun _ => rfl) (by decide) rfl rfl (Nat.le_of_ble_eq_true rfl) ⟨Nat.zero_le _, Nat.zero_le _⟩ dX5_readText_59 (fun u23 h22 => ?_)
            have hPB : PB4 msz sg = (true, 5, h6d, h10d, h14d, h18d) := pb4_5 h1 h6 h10 h14 h18
            have h5 := (pb4_bd hPB).2.2.2.2
            have L62 : ∀ (n62 : Nat) (gd : Nat) (p1 : Nat) (lo1 : Nat) (pl1 : Nat → Int32) (f1 : Nat → Int32) (i : Nat) (v : SS) (hgd : gd < 2) (hp1 : p1 ≤ 125) (hq : (gd = 1 ∧ ldQ (h6d * h10d) h14d (h18d * h10d) msz sg (newS h6d h10d h14d h18d) i p1 v lo1 ∧ RowQ f1 v ∧ JQ v ∧ v.fst = h6d ∧ v.wid = h10d ∧ v.mid = h14d ∧ v.las = h18d) ∨ (gd = 0 ∧ PE (h6d * h10d) h14d (h18d * h10d) msz sg 120 5 = some p1)), gd * (msz + 1 - p1) < n62 → RW p l e (headSpec wsX5_readText rmX5_readText).room s m args below meth c (IW s D A) 4 0 0 Q [(mA, cMo mref mscr msz p1 gd lo1 mread mnow mtri mdia macts mkept misk qp), (mscr, aN (cT 0) 120 sg), (qp, aI (cT 0) 16 pl1), (mread, aI (cT 0) 104 f1)] 62 [(0, .ref mA), (1, .int (nI h6d)), (2, .int (nI h10d)), (3, .int (nI h14d))] [] := by
              intro n62
              induction n62 with
              | zero => intro gd p1 lo1 pl1 f1 i v hgd hp1 hq hn62; exact absurd hn62 (Nat.not_lt_zero _)
              | succ n62 ih62 =>
                intro gd p1 lo1 pl1 f1 i v hgd hp1 hq hn62
                refine r_aln (pc := 62) C 0 rfl dX5_readText_62 ?_
                refine r_get (pc := 63) C iX5_readText_X5 0 rfl rfl 4 (by decide) (mw 2 rfl) rfl rfl dX5_readText_63 ?_
                refine r_zeqN (pc := 66) (tgt := 87) C (by first | omega) dX5_readText_66 (by decide) (fun c66 => ?_) (fun c66 => ?_)
                · subst c66
                  refine r_aln (pc := 87) C 0 rfl dX5_readText_87 ?_
                  refine r_get (pc := 88) C iX5_readText_X5 0 rfl rfl 4 (by decide) (mw 2 rfl) rfl rfl dX5_readText_88 ?_
                  refine r_zeqN (pc := 91) (tgt := 98) C (by first | omega) dX5_readText_91 (by decide) (fun _ => ?_) (fun h => absurd h (by decide))
                  refine r_aln (pc := 98) C 0 rfl dX5_readText_98 ?_
                  refine r_get (pc := 99) C iX5_readText_X5 0 rfl rfl 3 (by decide) (mw 1 rfl) rfl rfl dX5_readText_99 ?_
                  subst hQ
                  exact e_iW C hr hk (Nat.le_refl _) (Nat.le_refl _) ⟨0, p1, lo1, pl1, f1⟩ rfl (rt_b hPB (hq.resolve_left (fun q => absurd q.1 (by decide))).2 (by omega)) dX5_readText_102
                · obtain rfl : gd = 1 := by omega
                  obtain ⟨-, hL, hR1, hJ1, hD1⟩ := hq.resolve_right (fun q => absurd q.1 (by decide))
                  have hp2 := ld_pos hz h5 hL
                  refine r_aln (pc := 69) C 0 rfl dX5_readText_69 ?_
                  refine r_get (pc := 70) C iX5_readText_X5 0 rfl rfl 3 (by decide) (mw 1 rfl) rfl rfl dX5_readText_70 ?_
                  refine r_aln (pc := 73) C 0 rfl dX5_readText_73 ?_
                  refine r_get (pc := 74) C iX5_readText_X5 0 rfl rfl 2 (by decide) (mw 5 rfl) rfl rfl dX5_readText_74 ?_
                  refine r_cgeN (pc := 77) (tgt := 87) C (by first | omega) (by first | omega) dX5_readText_77 (by decide) (fun c77 => ?_) (fun c77 => ?_)
                  · refine r_aln (pc := 87) C 0 rfl dX5_readText_87 ?_
                    refine r_get (pc := 88) C iX5_readText_X5 0 rfl rfl 4 (by decide) (mw 2 rfl) rfl rfl dX5_readText_88 ?_
                    refine r_zeqN (pc := 91) (tgt := 98) C (by first | omega) dX5_readText_91 (by decide) (fun h => absurd h (by decide)) (fun _ => ?_)
                    refine r_ic (pc := 94) (v := (-1)) C rfl dX5_readText_94 ?_
                    refine r_goto (pc := 95) (tgt := 102) C dX5_readText_95 (by decide) ?_
                    subst hQ
                    exact e_iW C hr hk (Nat.le_refl _) (Nat.le_refl _) ⟨1, p1, lo1, pl1, f1⟩ rfl (rt_ok hz hPB hL c77 hR1 hJ1) dX5_readText_102
                  · refine r_aln (pc := 80) C 0 rfl dX5_readText_80 ?_
                    refine c_WVv (pc := 81) (As := []) (wc := [(mA, cMo mref mscr msz p1 1 lo1 mread mnow mtri mdia macts mkept misk qp), (mscr, aN (cT 0) 120 sg), (qp, aI (cT 0) 16 pl1), (mread, aI (cT 0) 104 f1)]) (wr := []) (qr := 0) C hA (k_X5_readCommand l D cT mA mref mscr msz p1 lo1 mread mnow mtri mdia macts mkept misk qp sg pl1 f1 v hR1 hJ1 hz (by omega) hsg (by omega)) (cwV 0 C.1.2.2.2.2 gX5_readText_X5_readCommand rfl rfl rfl n_X5_readCommand ⟨Nat.le_of_ble_eq_true rfl, Nat.le_of_ble_eq_true rfl⟩) rfl rfl [0, 1, 2, 3] [] rfl rfl ⟨by decide, by decide⟩ (by decide) [0, 1, 2, 3] (fun u25 => [(mA, cMo mref mscr msz u25.2.1 u25.1 u25.2.2.1 mread mnow mtri mdia macts mkept misk qp), (mscr, aN (cT 0) 120 sg), (qp, aI (cT 0) 16 u25.2.2.2.1), (mread, aI (cT 0) 104 u25.2.2.2.2)]) (fun _ => rfl) (by decide) rfl rfl (Nat.le_of_ble_eq_true rfl) ⟨Nat.zero_le _, Nat.zero_le _⟩ dX5_readText_81 (fun u25 h24 => ?_)
                    obtain ⟨m26, m27, m28, m29, m30⟩ := u25
                    try dsimp only at h24 ⊢
                    rcases h24 with ⟨h24e, h24, rfl, rfl⟩ | ⟨h24e, h24l, h24a, h24b, h24o, h24r, h24v, h24, h241, h242, h243, h244, rfl, rfl, rfl⟩
                    · refine r_goto (pc := 84) (tgt := 62) C dX5_readText_84 (by decide) ?_
                      rw [hD1.1, hD1.2.1, hD1.2.2.1, hD1.2.2.2] at h24
                      have he := pc_f h24
                      exact ih62 0 h24e m28 m29 m30 i v (by decide) (by omega) (Or.inr ⟨rfl, ld_bad hz h5 hL c77 h24⟩) (by omega)
                    · refine r_goto (pc := 84) (tgt := 62) C dX5_readText_84 (by decide) ?_
                      rw [hD1.1, hD1.2.1, hD1.2.2.1, hD1.2.2.2] at h24
                      have hx := pc_ok hz (by omega) h24
                      exact ih62 1 h24e (lo1 + LO h24r) m29 m30 (i + 1) h24v (by decide) (by omega) (Or.inl ⟨rfl, ⟨p1, v, lo1, h24l, h24a, h24b, h24o, h24r, hL, h24, h241, h242, rfl⟩, h243, h244, h242.2.1.trans hD1.1, h242.2.2.1.trans hD1.2.1, h242.2.2.2.1.trans hD1.2.2.1, h242.2.2.2.2.trans hD1.2.2.2⟩) (by omega)
            exact L62 _ 1 5 0 pl u23 0 (newS h6d h10d h14d h18d) (by decide) (by decide) (Or.inl ⟨rfl, ⟨rfl, rfl, rfl⟩, h22, jq_new (pb4_bd hPB).1 (pb4_bd hPB).2.1 (pb4_bd hPB).2.2.1 (pb4_bd hPB).2.2.2.1, rfl, rfl, rfl, rfl⟩) (Nat.lt_succ_self _)
          · have h18 := h18.resolve_left (by decide)
            refine c_WSv (pc := 59) (As := [.ref mread, .int (nI h6d), .int (nI h10d), .int (nI h14d), .int (nI 1)]) (wc := [(mread, aI (cT 0) 104 f)]) (wr := [(mA, cMo mref mscr msz ((((0 + 1) + 1) + 1) + 1) 0 0 mread mnow mtri mdia macts mkept misk qp), (mscr, aN (cT 0) 120 sg), (qp, aI (cT 0) 16 pl)])  C hA (k_X5_clean l D cT mread f h6d h10d h14d 1) (va_cwS 5 C.1.2.2.2.2 gX5_readText_X5_clean rfl rfl rfl n_X5_clean ⟨Nat.le_of_ble_eq_true rfl, Nat.le_of_ble_eq_true rfl⟩) [3] [0, 1, 2] rfl rfl ⟨by decide, by decide⟩ (by decide) [0, 1, 2, 3] (fun u32 => [(mA, cMo mref mscr msz ((((0 + 1) + 1) + 1) + 1) 0 0 mread mnow mtri mdia macts mkept misk qp), (mscr, aN (cT 0) 120 sg), (qp, aI (cT 0) 16 pl), (mread, aI (cT 0) 104 u32)]) (fun _ => rfl) (by decide) rfl rfl (Nat.le_of_ble_eq_true rfl) ⟨Nat.zero_le _, Nat.zero_le _⟩ dX5_readText_59 (fun u32 h31 => ?_)
            refine r_aln (pc := 62) C 0 rfl dX5_readText_62 ?_
            refine r_get (pc := 63) C iX5_readText_X5 0 rfl rfl 4 (by decide) (mw 2 rfl) rfl rfl dX5_readText_63 ?_
            refine r_zeqN (pc := 66) (tgt := 87) C (by first | omega) dX5_readText_66 (by decide) (fun _ => ?_) (fun h => absurd h (by decide))
            refine r_aln (pc := 87) C 0 rfl dX5_readText_87 ?_
            refine r_get (pc := 88) C iX5_readText_X5 0 rfl rfl 4 (by decide) (mw 2 rfl) rfl rfl dX5_readText_88 ?_
            refine r_zeqN (pc := 91) (tgt := 98) C (by first | omega) dX5_readText_91 (by decide) (fun _ => ?_) (fun h => absurd h (by decide))
            refine r_aln (pc := 98) C 0 rfl dX5_readText_98 ?_
            refine r_get (pc := 99) C iX5_readText_X5 0 rfl rfl 3 (by decide) (mw 1 rfl) rfl rfl dX5_readText_99 ?_
            subst hQ
            exact e_iW C hr hk (Nat.le_refl _) (Nat.le_refl _) ⟨0, (((0 + 1) + 1) + 1) + 1, 0, pl, u32⟩ rfl (rt_h (pb4_4 h1 h6 h10 h14 h18)) dX5_readText_102
        · have h14 := h14.resolve_left (by decide)
          refine r_isn (pc := 45) C [1, 2, 3, 0] [(0, .ref mA), (1, .int (nI h6d)), (2, .int (nI h10d)), (3, .int (nI 1))] rfl (by decide) rfl dX5_readText_45 ?_
          refine r_aln (pc := 46) C 0 rfl dX5_readText_46 ?_
          refine r_get (pc := 47) C iX5_readText_X5 0 rfl rfl 6 (by decide) (mw 4 rfl) rfl rfl dX5_readText_47 ?_
          refine r_iln (pc := 50) C 1 rfl dX5_readText_50 ?_
          refine r_iln (pc := 51) C 2 rfl dX5_readText_51 ?_
          refine r_iln (pc := 52) C 3 rfl dX5_readText_52 ?_
          refine r_aln (pc := 53) C 0 rfl dX5_readText_53 ?_
          refine r_ic (pc := 54) (v := nI 1) C rfl dX5_readText_54 ?_
          refine r_ic (pc := 55) (v := nI 4) C rfl dX5_readText_55 ?_
          refine c_WVi (pc := 56) (As := [.int (nI 1), .int (nI 4)]) (wc := [(mA, cMo mref mscr msz (((0 + 1) + 1) + 1) 0 0 mread mnow mtri mdia macts mkept misk qp), (mscr, aN (cT 0) 120 sg)]) (wr := [(qp, aI (cT 0) 16 pl), (mread, aI (cT 0) 104 f)]) (qr := 0) C hA (k_X5_digit l D cT mA mref mscr msz (((0 + 1) + 1) + 1) 0 0 mread mnow mtri mdia macts mkept misk qp sg 1 4 (by first | assumption | omega) (by first | assumption | omega) (by first | assumption | omega) (by first | assumption | omega) (by first | assumption | omega) (by first | assumption | omega)) (cwV 2 C.1.2.2.2.2 gX5_readText_X5_digit rfl rfl rfl n_X5_digit ⟨Nat.le_of_ble_eq_true rfl, Nat.le_of_ble_eq_true rfl⟩) rfl rfl [0, 1] [2, 3] rfl rfl ⟨by decide, by decide⟩ (by decide) [2, 3, 0, 1] (fun u34 => [(mA, cMo mref mscr msz u34.2 u34.1 0 mread mnow mtri mdia macts mkept misk qp), (mscr, aN (cT 0) 120 sg), (qp, aI (cT 0) 16 pl), (mread, aI (cT 0) 104 f)]) (fun _ => rfl) (by decide) rfl rfl (Nat.le_of_ble_eq_true rfl) ⟨Nat.zero_le _, Nat.zero_le _⟩ dX5_readText_56 (fun r56 u34 h33 => ?_)
          obtain ⟨m35, m36⟩ := u34
          try dsimp only at h33 ⊢
          obtain ⟨-, rfl, rfl, rfl⟩ := h33.resolve_left (fun q => absurd q.1 (by decide))
          refine c_WSv (pc := 59) (As := [.ref mread, .int (nI h6d), .int (nI h10d), .int (nI 1), .int (nI 1)]) (wc := [(mread, aI (cT 0) 104 f)]) (wr := [(mA, cMo mref mscr msz (((0 + 1) + 1) + 1) 0 0 mread mnow mtri mdia macts mkept misk qp), (mscr, aN (cT 0) 120 sg), (qp, aI (cT 0) 16 pl)])  C hA (k_X5_clean l D cT mread f h6d h10d 1 1) (va_cwS 5 C.1.2.2.2.2 gX5_readText_X5_clean rfl rfl rfl n_X5_clean ⟨Nat.le_of_ble_eq_true rfl, Nat.le_of_ble_eq_true rfl⟩) [3] [0, 1, 2] rfl rfl ⟨by decide, by decide⟩ (by decide) [0, 1, 2, 3] (fun u38 => [(mA, cMo mref mscr msz (((0 + 1) + 1) + 1) 0 0 mread mnow mtri mdia macts mkept misk qp), (mscr, aN (cT 0) 120 sg), (qp, aI (cT 0) 16 pl), (mread, aI (cT 0) 104 u38)]) (fun _ => rfl) (by decide) rfl rfl (Nat.le_of_ble_eq_true rfl) ⟨Nat.zero_le _, Nat.zero_le _⟩ dX5_readText_59 (fun u38 h37 => ?_)
          refine r_aln (pc := 62) C 0 rfl dX5_readText_62 ?_
          refine r_get (pc := 63) C iX5_readText_X5 0 rfl rfl 4 (by decide) (mw 2 rfl) rfl rfl dX5_readText_63 ?_
          refine r_zeqN (pc := 66) (tgt := 87) C (by first | omega) dX5_readText_66 (by decide) (fun _ => ?_) (fun h => absurd h (by decide))
          refine r_aln (pc := 87) C 0 rfl dX5_readText_87 ?_
          refine r_get (pc := 88) C iX5_readText_X5 0 rfl rfl 4 (by decide) (mw 2 rfl) rfl rfl dX5_readText_88 ?_
          refine r_zeqN (pc := 91) (tgt := 98) C (by first | omega) dX5_readText_91 (by decide) (fun _ => ?_) (fun h => absurd h (by decide))
          refine r_aln (pc := 98) C 0 rfl dX5_readText_98 ?_
          refine r_get (pc := 99) C iX5_readText_X5 0 rfl rfl 3 (by decide) (mw 1 rfl) rfl rfl dX5_readText_99 ?_
          subst hQ
          exact e_iW C hr hk (Nat.le_refl _) (Nat.le_refl _) ⟨0, ((0 + 1) + 1) + 1, 0, pl, u38⟩ rfl (rt_h (pb4_3 h1 h6 h10 h14)) dX5_readText_102
      · have h10 := h10.resolve_left (by decide)
        refine r_isn (pc := 38) C [1, 2, 0] [(0, .ref mA), (1, .int (nI h6d)), (2, .int (nI 1))] rfl (by decide) rfl dX5_readText_38 ?_
        refine r_aln (pc := 39) C 0 rfl dX5_readText_39 ?_
        refine r_ic (pc := 40) (v := nI 1) C rfl dX5_readText_40 ?_
        refine r_ic (pc := 41) (v := nI 4) C rfl dX5_readText_41 ?_
        refine c_WVi (pc := 42) (As := [.int (nI 1), .int (nI 4)]) (wc := [(mA, cMo mref mscr msz ((0 + 1) + 1) 0 0 mread mnow mtri mdia macts mkept misk qp), (mscr, aN (cT 0) 120 sg)]) (wr := [(qp, aI (cT 0) 16 pl), (mread, aI (cT 0) 104 f)]) (qr := 0) C hA (k_X5_digit l D cT mA mref mscr msz ((0 + 1) + 1) 0 0 mread mnow mtri mdia macts mkept misk qp sg 1 4 (by first | assumption | omega) (by first | assumption | omega) (by first | assumption | omega) (by first | assumption | omega) (by first | assumption | omega) (by first | assumption | omega)) (cwV 2 C.1.2.2.2.2 gX5_readText_X5_digit rfl rfl rfl n_X5_digit ⟨Nat.le_of_ble_eq_true rfl, Nat.le_of_ble_eq_true rfl⟩) rfl rfl [0, 1] [2, 3] rfl rfl ⟨by decide, by decide⟩ (by decide) [2, 3, 0, 1] (fun u40 => [(mA, cMo mref mscr msz u40.2 u40.1 0 mread mnow mtri mdia macts mkept misk qp), (mscr, aN (cT 0) 120 sg), (qp, aI (cT 0) 16 pl), (mread, aI (cT 0) 104 f)]) (fun _ => rfl) (by decide) rfl rfl (Nat.le_of_ble_eq_true rfl) ⟨Nat.zero_le _, Nat.zero_le _⟩ dX5_readText_42 (fun r42 u40 h39 => ?_)
        obtain ⟨m41, m42⟩ := u40
        try dsimp only at h39 ⊢
        obtain ⟨-, rfl, rfl, rfl⟩ := h39.resolve_left (fun q => absurd q.1 (by decide))
        refine r_isn (pc := 45) C [1, 2, 3, 0] [(0, .ref mA), (1, .int (nI h6d)), (2, .int (nI 1)), (3, .int (nI 1))] rfl (by decide) rfl dX5_readText_45 ?_
        refine r_aln (pc := 46) C 0 rfl dX5_readText_46 ?_
        refine r_get (pc := 47) C iX5_readText_X5 0 rfl rfl 6 (by decide) (mw 4 rfl) rfl rfl dX5_readText_47 ?_
        refine r_iln (pc := 50) C 1 rfl dX5_readText_50 ?_
        refine r_iln (pc := 51) C 2 rfl dX5_readText_51 ?_
        refine r_iln (pc := 52) C 3 rfl dX5_readText_52 ?_
        refine r_aln (pc := 53) C 0 rfl dX5_readText_53 ?_
        refine r_ic (pc := 54) (v := nI 1) C rfl dX5_readText_54 ?_
        refine r_ic (pc := 55) (v := nI 4) C rfl dX5_readText_55 ?_
        refine c_WVi (pc := 56) (As := [.int (nI 1), .int (nI 4)]) (wc := [(mA, cMo mref mscr msz ((0 + 1) + 1) 0 0 mread mnow mtri mdia macts mkept misk qp), (mscr, aN (cT 0) 120 sg)]) (wr := [(qp, aI (cT 0) 16 pl), (mread, aI (cT 0) 104 f)]) (qr := 0) C hA (k_X5_digit l D cT mA mref mscr msz ((0 + 1) + 1) 0 0 mread mnow mtri mdia macts mkept misk qp sg 1 4 (by first | assumption | omega) (by first | assumption | omega) (by first | assumption | omega) (by first | assumption | omega) (by first | assumption | omega) (by first | assumption | omega)) (cwV 2 C.1.2.2.2.2 gX5_readText_X5_digit rfl rfl rfl n_X5_digit ⟨Nat.le_of_ble_eq_true rfl, Nat.le_of_ble_eq_true rfl⟩) rfl rfl [0, 1] [2, 3] rfl rfl ⟨by decide, by decide⟩ (by decide) [2, 3, 0, 1] (fun u44 => [(mA, cMo mref mscr msz u44.2 u44.1 0 mread mnow mtri mdia macts mkept misk qp), (mscr, aN (cT 0) 120 sg), (qp, aI (cT 0) 16 pl), (mread, aI (cT 0) 104 f)]) (fun _ => rfl) (by decide) rfl rfl (Nat.le_of_ble_eq_true rfl) ⟨Nat.zero_le _, Nat.zero_le _⟩ dX5_readText_56 (fun r56 u44 h43 => ?_)
        obtain ⟨m45, m46⟩ := u44
        try dsimp only at h43 ⊢
        obtain ⟨-, rfl, rfl, rfl⟩ := h43.resolve_left (fun q => absurd q.1 (by decide))
        refine c_WSv (pc := 59) (As := [.ref mread, .int (nI h6d), .int (nI 1), .int (nI 1), .int (nI 1)]) (wc := [(mread, aI (cT 0) 104 f)]) (wr := [(mA, cMo mref mscr msz ((0 + 1) + 1) 0 0 mread mnow mtri mdia macts mkept misk qp), (mscr, aN (cT 0) 120 sg), (qp, aI (cT 0) 16 pl)])  C hA (k_X5_clean l D cT mread f h6d 1 1 1) (va_cwS 5 C.1.2.2.2.2 gX5_readText_X5_clean rfl rfl rfl n_X5_clean ⟨Nat.le_of_ble_eq_true rfl, Nat.le_of_ble_eq_true rfl⟩) [3] [0, 1, 2] rfl rfl ⟨by decide, by decide⟩ (by decide) [0, 1, 2, 3] (fun u48 => [(mA, cMo mref mscr msz ((0 + 1) + 1) 0 0 mread mnow mtri mdia macts mkept misk qp), (mscr, aN (cT 0) 120 sg), (qp, aI (cT 0) 16 pl), (mread, aI (cT 0) 104 u48)]) (fun _ => rfl) (by decide) rfl rfl (Nat.le_of_ble_eq_true rfl) ⟨Nat.zero_le _, Nat.zero_le _⟩ dX5_readText_59 (fun u48 h47 => ?_)
        refine r_aln (pc := 62) C 0 rfl dX5_readText_62 ?_
        refine r_get (pc := 63) C iX5_readText_X5 0 rfl rfl 4 (by decide) (mw 2 rfl) rfl rfl dX5_readText_63 ?_
        refine r_zeqN (pc := 66) (tgt := 87) C (by first | omega) dX5_readText_66 (by decide) (fun _ => ?_) (fun h => absurd h (by decide))
        refine r_aln (pc := 87) C 0 rfl dX5_readText_87 ?_
        refine r_get (pc := 88) C iX5_readText_X5 0 rfl rfl 4 (by decide) (mw 2 rfl) rfl rfl dX5_readText_88 ?_
        refine r_zeqN (pc := 91) (tgt := 98) C (by first | omega) dX5_readText_91 (by decide) (fun _ => ?_) (fun h => absurd h (by decide))
        refine r_aln (pc := 98) C 0 rfl dX5_readText_98 ?_
        refine r_get (pc := 99) C iX5_readText_X5 0 rfl rfl 3 (by decide) (mw 1 rfl) rfl rfl dX5_readText_99 ?_
        subst hQ
        exact e_iW C hr hk (Nat.le_refl _) (Nat.le_refl _) ⟨0, (0 + 1) + 1, 0, pl, u48⟩ rfl (rt_h (pb4_2 h1 h6 h10)) dX5_readText_102
    · have h6 := h6.resolve_left (by decide)
      refine r_isn (pc := 31) C [1, 0] [(0, .ref mA), (1, .int (nI 1))] rfl (by decide) rfl dX5_readText_31 ?_
      refine r_aln (pc := 32) C 0 rfl dX5_readText_32 ?_
      refine r_ic (pc := 33) (v := nI 1) C rfl dX5_readText_33 ?_
      refine r_ic (pc := 34) (v := nI 4) C rfl dX5_readText_34 ?_
      refine c_WVi (pc := 35) (As := [.int (nI 1), .int (nI 4)]) (wc := [(mA, cMo mref mscr msz (0 + 1) 0 0 mread mnow mtri mdia macts mkept misk qp), (mscr, aN (cT 0) 120 sg)]) (wr := [(qp, aI (cT 0) 16 pl), (mread, aI (cT 0) 104 f)]) (qr := 0) C hA (k_X5_digit l D cT mA mref mscr msz (0 + 1) 0 0 mread mnow mtri mdia macts mkept misk qp sg 1 4 (by first | assumption | omega) (by first | assumption | omega) (by first | assumption | omega) (by first | assumption | omega) (by first | assumption | omega) (by first | assumption | omega)) (cwV 2 C.1.2.2.2.2 gX5_readText_X5_digit rfl rfl rfl n_X5_digit ⟨Nat.le_of_ble_eq_true rfl, Nat.le_of_ble_eq_true rfl⟩) rfl rfl [0, 1] [2, 3] rfl rfl ⟨by decide, by decide⟩ (by decide) [2, 3, 0, 1] (fun u50 => [(mA, cMo mref mscr msz u50.2 u50.1 0 mread mnow mtri mdia macts mkept misk qp), (mscr, aN (cT 0) 120 sg), (qp, aI (cT 0) 16 pl), (mread, aI (cT 0) 104 f)]) (fun _ => rfl) (by decide) rfl rfl (Nat.le_of_ble_eq_true rfl) ⟨Nat.zero_le _, Nat.zero_le _⟩ dX5_readText_35 (fun r35 u50 h49 => ?_)
      obtain ⟨m51, m52⟩ := u50
      try dsimp only at h49 ⊢
      obtain ⟨-, rfl, rfl, rfl⟩ := h49.resolve_left (fun q => absurd q.1 (by decide))
      refine r_isn (pc := 38) C [1, 2, 0] [(0, .ref mA), (1, .int (nI 1)), (2, .int (nI 1))] rfl (by decide) rfl dX5_readText_38 ?_
      refine r_aln (pc := 39) C 0 rfl dX5_readText_39 ?_
      refine r_ic (pc := 40) (v := nI 1) C rfl dX5_readText_40 ?_
      refine r_ic (pc := 41) (v := nI 4) C rfl dX5_readText_41 ?_
      refine c_WVi (pc := 42) (As := [.int (nI 1), .int (nI 4)]) (wc := [(mA, cMo mref mscr msz (0 + 1) 0 0 mread mnow mtri mdia macts mkept misk qp), (mscr, aN (cT 0) 120 sg)]) (wr := [(qp, aI (cT 0) 16 pl), (mread, aI (cT 0) 104 f)]) (qr := 0) C hA (k_X5_digit l D cT mA mref mscr msz (0 + 1) 0 0 mread mnow mtri mdia macts mkept misk qp sg 1 4 (by first | assumption | omega) (by first | assumption | omega) (by first | assumption | omega) (by first | assumption | omega) (by first | assumption | omega) (by first | assumption | omega)) (cwV 2 C.1.2.2.2.2 gX5_readText_X5_digit rfl rfl rfl n_X5_digit ⟨Nat.le_of_ble_eq_true rfl, Nat.le_of_ble_eq_true rfl⟩) rfl rfl [0, 1] [2, 3] rfl rfl ⟨by decide, by decide⟩ (by decide) [2, 3, 0, 1] (fun u54 => [(mA, cMo mref mscr msz u54.2 u54.1 0 mread mnow mtri mdia macts mkept misk qp), (mscr, aN (cT 0) 120 sg), (qp, aI (cT 0) 16 pl), (mread, aI (cT 0) 104 f)]) (fun _ => rfl) (by decide) rfl rfl (Nat.le_of_ble_eq_true rfl) ⟨Nat.zero_le _, Nat.zero_le _⟩ dX5_readText_42 (fun r42 u54 h53 => ?_)
      obtain ⟨m55, m56⟩ := u54
      try dsimp only at h53 ⊢
      obtain ⟨-, rfl, rfl, rfl⟩ := h53.resolve_left (fun q => absurd q.1 (by decide))
      refine r_isn (pc := 45) C [1, 2, 3, 0] [(0, .ref mA), (1, .int (nI 1)), (2, .int (nI 1)), (3, .int (nI 1))] rfl (by decide) rfl dX5_readText_45 ?_
      refine r_aln (pc := 46) C 0 rfl dX5_readText_46 ?_
      refine r_get (pc := 47) C iX5_readText_X5 0 rfl rfl 6 (by decide) (mw 4 rfl) rfl rfl dX5_readText_47 ?_
      refine r_iln (pc := 50) C 1 rfl dX5_readText_50 ?_
      refine r_iln (pc := 51) C 2 rfl dX5_readText_51 ?_
      refine r_iln (pc := 52) C 3 rfl dX5_readText_52 ?_
      refine r_aln (pc := 53) C 0 rfl dX5_readText_53 ?_
      refine r_ic (pc := 54) (v := nI 1) C rfl dX5_readText_54 ?_
      refine r_ic (pc := 55) (v := nI 4) C rfl dX5_readText_55 ?_
      refine c_WVi (pc := 56) (As := [.int (nI 1), .int (nI 4)]) (wc := [(mA, cMo mref mscr msz (0 + 1) 0 0 mread mnow mtri mdia macts mkept misk qp), (mscr, aN (cT 0) 120 sg)]) (wr := [(qp, aI (cT 0) 16 pl), (mread, aI (cT 0) 104 f)]) (qr := 0) C hA (k_X5_digit l D cT mA mref mscr msz (0 + 1) 0 0 mread mnow mtri mdia macts mkept misk qp sg 1 4 (by first | assumption | omega) (by first | assumption | omega) (by first | assumption | omega) (by first | assumption | omega) (by first | assumption | omega) (by first | assumption | omega)) (cwV 2 C.1.2.2.2.2 gX5_readText_X5_digit rfl rfl rfl n_X5_digit ⟨Nat.le_of_ble_eq_true rfl, Nat.le_of_ble_eq_true rfl⟩) rfl rfl [0, 1] [2, 3] rfl rfl ⟨by decide, by decide⟩ (by decide) [2, 3, 0, 1] (fun u58 => [(mA, cMo mref mscr msz u58.2 u58.1 0 mread mnow mtri mdia macts mkept misk qp), (mscr, aN (cT 0) 120 sg), (qp, aI (cT 0) 16 pl), (mread, aI (cT 0) 104 f)]) (fun _ => rfl) (by decide) rfl rfl (Nat.le_of_ble_eq_true rfl) ⟨Nat.zero_le _, Nat.zero_le _⟩ dX5_readText_56 (fun r56 u58 h57 => ?_)
      obtain ⟨m59, m60⟩ := u58
      try dsimp only at h57 ⊢
      obtain ⟨-, rfl, rfl, rfl⟩ := h57.resolve_left (fun q => absurd q.1 (by decide))
      refine c_WSv (pc := 59) (As := [.ref mread, .int (nI 1), .int (nI 1), .int (nI 1), .int (nI 1)]) (wc := [(mread, aI (cT 0) 104 f)]) (wr := [(mA, cMo mref mscr msz (0 + 1) 0 0 mread mnow mtri mdia macts mkept misk qp), (mscr, aN (cT 0) 120 sg), (qp, aI (cT 0) 16 pl)])  C hA (k_X5_clean l D cT mread f 1 1 1 1) (va_cwS 5 C.1.2.2.2.2 gX5_readText_X5_clean rfl rfl rfl n_X5_clean ⟨Nat.le_of_ble_eq_true rfl, Nat.le_of_ble_eq_true rfl⟩) [3] [0, 1, 2] rfl rfl ⟨by decide, by decide⟩ (by decide) [0, 1, 2, 3] (fun u62 => [(mA, cMo mref mscr msz (0 + 1) 0 0 mread mnow mtri mdia macts mkept misk qp), (mscr, aN (cT 0) 120 sg), (qp, aI (cT 0) 16 pl), (mread, aI (cT 0) 104 u62)]) (fun _ => rfl) (by decide) rfl rfl (Nat.le_of_ble_eq_true rfl) ⟨Nat.zero_le _, Nat.zero_le _⟩ dX5_readText_59 (fun u62 h61 => ?_)
      refine r_aln (pc := 62) C 0 rfl dX5_readText_62 ?_
      refine r_get (pc := 63) C iX5_readText_X5 0 rfl rfl 4 (by decide) (mw 2 rfl) rfl rfl dX5_readText_63 ?_
      refine r_zeqN (pc := 66) (tgt := 87) C (by first | omega) dX5_readText_66 (by decide) (fun _ => ?_) (fun h => absurd h (by decide))
      refine r_aln (pc := 87) C 0 rfl dX5_readText_87 ?_
      refine r_get (pc := 88) C iX5_readText_X5 0 rfl rfl 4 (by decide) (mw 2 rfl) rfl rfl dX5_readText_88 ?_
      refine r_zeqN (pc := 91) (tgt := 98) C (by first | omega) dX5_readText_91 (by decide) (fun _ => ?_) (fun h => absurd h (by decide))
      refine r_aln (pc := 98) C 0 rfl dX5_readText_98 ?_
      refine r_get (pc := 99) C iX5_readText_X5 0 rfl rfl 3 (by decide) (mw 1 rfl) rfl rfl dX5_readText_99 ?_
      subst hQ
      exact e_iW C hr hk (Nat.le_refl _) (Nat.le_refl _) ⟨0, 0 + 1, 0, pl, u62⟩ rfl (rt_h (pb4_1 h1 h6)) dX5_readText_102
  · refine c_WVv (pc := 22) (As := [.int (nI 0)]) (wc := [(mA, cMo mref mscr msz 0 1 0 mread mnow mtri mdia macts mkept misk qp)]) (wr := [(mscr, aN (cT 0) 120 sg), (qp, aI (cT 0) 16 pl), (mread, aI (cT 0) 104 f)]) (qr := 0) C hA (k_X5_accept l D cT mA mref mscr msz 0 1 0 mread mnow mtri mdia macts mkept misk qp 0 (by first | assumption | omega) (by first | assumption | omega)) (cwV 1 C.1.2.2.2.2 gX5_readText_X5_accept rfl rfl rfl n_X5_accept ⟨Nat.le_of_ble_eq_true rfl, Nat.le_of_ble_eq_true rfl⟩) rfl rfl [0] [1, 2, 3] rfl rfl ⟨by decide, by decide⟩ (by decide) [3, 0, 1, 2] (fun u64 => [(mA, cMo mref mscr msz u64.2 u64.1 0 mread mnow mtri mdia macts mkept misk qp), (mscr, aN (cT 0) 120 sg), (qp, aI (cT 0) 16 pl), (mread, aI (cT 0) 104 f)]) (fun _ => rfl) (by decide) rfl rfl (Nat.le_of_ble_eq_true rfl) ⟨Nat.zero_le _, Nat.zero_le _⟩ dX5_readText_22 (fun u64 h63 => ?_)
    obtain ⟨m65, m66⟩ := u64
    try dsimp only at h63 ⊢
    obtain ⟨h63c, rfl, rfl⟩ := h63.resolve_left (fun q => absurd q.2.1 (by decide))
    refine r_aln (pc := 25) C 0 rfl dX5_readText_25 ?_
    refine r_ic (pc := 26) (v := nI 1) C rfl dX5_readText_26 ?_
    refine r_ic (pc := 27) (v := nI 4) C rfl dX5_readText_27 ?_
    refine c_WVi (pc := 28) (As := [.int (nI 1), .int (nI 4)]) (wc := [(mA, cMo mref mscr msz 0 0 0 mread mnow mtri mdia macts mkept misk qp), (mscr, aN (cT 0) 120 sg)]) (wr := [(qp, aI (cT 0) 16 pl), (mread, aI (cT 0) 104 f)]) (qr := 0) C hA (k_X5_digit l D cT mA mref mscr msz 0 0 0 mread mnow mtri mdia macts mkept misk qp sg 1 4 (by first | assumption | omega) (by first | assumption | omega) (by first | assumption | omega) (by first | assumption | omega) (by first | assumption | omega) (by first | assumption | omega)) (cwV 2 C.1.2.2.2.2 gX5_readText_X5_digit rfl rfl rfl n_X5_digit ⟨Nat.le_of_ble_eq_true rfl, Nat.le_of_ble_eq_true rfl⟩) rfl rfl [0, 1] [2, 3] rfl rfl ⟨by decide, by decide⟩ (by decide) [2, 3, 0, 1] (fun u68 => [(mA, cMo mref mscr msz u68.2 u68.1 0 mread mnow mtri mdia macts mkept misk qp), (mscr, aN (cT 0) 120 sg), (qp, aI (cT 0) 16 pl), (mread, aI (cT 0) 104 f)]) (fun _ => rfl) (by decide) rfl rfl (Nat.le_of_ble_eq_true rfl) ⟨Nat.zero_le _, Nat.zero_le _⟩ dX5_readText_28 (fun r28 u68 h67 => ?_)
    obtain ⟨m69, m70⟩ := u68
    try dsimp only at h67 ⊢
    obtain ⟨-, rfl, rfl, rfl⟩ := h67.resolve_left (fun q => absurd q.1 (by decide))
    refine r_isn (pc := 31) C [1, 0] [(0, .ref mA), (1, .int (nI 1))] rfl (by decide) rfl dX5_readText_31 ?_
    refine r_aln (pc := 32) C 0 rfl dX5_readText_32 ?_
    refine r_ic (pc := 33) (v := nI 1) C rfl dX5_readText_33 ?_
    refine r_ic (pc := 34) (v := nI 4) C rfl dX5_readText_34 ?_
    refine c_WVi (pc := 35) (As := [.int (nI 1), .int (nI 4)]) (wc := [(mA, cMo mref mscr msz 0 0 0 mread mnow mtri mdia macts mkept misk qp), (mscr, aN (cT 0) 120 sg)]) (wr := [(qp, aI (cT 0) 16 pl), (mread, aI (cT 0) 104 f)]) (qr := 0) C hA (k_X5_digit l D cT mA mref mscr msz 0 0 0 mread mnow mtri mdia macts mkept misk qp sg 1 4 (by first | assumption | omega) (by first | assumption | omega) (by first | assumption | omega) (by first | assumption | omega) (by first | assumption | omega) (by first | assumption | omega)) (cwV 2 C.1.2.2.2.2 gX5_readText_X5_digit rfl rfl rfl n_X5_digit ⟨Nat.le_of_ble_eq_true rfl, Nat.le_of_ble_eq_true rfl⟩) rfl rfl [0, 1] [2, 3] rfl rfl ⟨by decide, by decide⟩ (by decide) [2, 3, 0, 1] (fun u72 => [(mA, cMo mref mscr msz u72.2 u72.1 0 mread mnow mtri mdia macts mkept misk qp), (mscr, aN (cT 0) 120 sg), (qp, aI (cT 0) 16 pl), (mread, aI (cT 0) 104 f)]) (fun _ => rfl) (by decide) rfl rfl (Nat.le_of_ble_eq_true rfl) ⟨Nat.zero_le _, Nat.zero_le _⟩ dX5_readText_35 (fun r35 u72 h71 => ?_)
    obtain ⟨m73, m74⟩ := u72
    try dsimp only at h71 ⊢
    obtain ⟨-, rfl, rfl, rfl⟩ := h71.resolve_left (fun q => absurd q.1 (by decide))
    refine r_isn (pc := 38) C [1, 2, 0] [(0, .ref mA), (1, .int (nI 1)), (2, .int (nI 1))] rfl (by decide) rfl dX5_readText_38 ?_
    refine r_aln (pc := 39) C 0 rfl dX5_readText_39 ?_
    refine r_ic (pc := 40) (v := nI 1) C rfl dX5_readText_40 ?_
    refine r_ic (pc := 41) (v := nI 4) C rfl dX5_readText_41 ?_
    refine c_WVi (pc := 42) (As := [.int (nI 1), .int (nI 4)]) (wc := [(mA, cMo mref mscr msz 0 0 0 mread mnow mtri mdia macts mkept misk qp), (mscr, aN (cT 0) 120 sg)]) (wr := [(qp, aI (cT 0) 16 pl), (mread, aI (cT 0) 104 f)]) (qr := 0) C hA (k_X5_digit l D cT mA mref mscr msz 0 0 0 mread mnow mtri mdia macts mkept misk qp sg 1 4 (by first | assumption | omega) (by first | assumption | omega) (by first | assumption | omega) (by first | assumption | omega) (by first | assumption | omega) (by first | assumption | omega)) (cwV 2 C.1.2.2.2.2 gX5_readText_X5_digit rfl rfl rfl n_X5_digit ⟨Nat.le_of_ble_eq_true rfl, Nat.le_of_ble_eq_true rfl⟩) rfl rfl [0, 1] [2, 3] rfl rfl ⟨by decide, by decide⟩ (by decide) [2, 3, 0, 1] (fun u76 => [(mA, cMo mref mscr msz u76.2 u76.1 0 mread mnow mtri mdia macts mkept misk qp), (mscr, aN (cT 0) 120 sg), (qp, aI (cT 0) 16 pl), (mread, aI (cT 0) 104 f)]) (fun _ => rfl) (by decide) rfl rfl (Nat.le_of_ble_eq_true rfl) ⟨Nat.zero_le _, Nat.zero_le _⟩ dX5_readText_42 (fun r42 u76 h75 => ?_)
    obtain ⟨m77, m78⟩ := u76
    try dsimp only at h75 ⊢
    obtain ⟨-, rfl, rfl, rfl⟩ := h75.resolve_left (fun q => absurd q.1 (by decide))
    refine r_isn (pc := 45) C [1, 2, 3, 0] [(0, .ref mA), (1, .int (nI 1)), (2, .int (nI 1)), (3, .int (nI 1))] rfl (by decide) rfl dX5_readText_45 ?_
    refine r_aln (pc := 46) C 0 rfl dX5_readText_46 ?_
    refine r_get (pc := 47) C iX5_readText_X5 0 rfl rfl 6 (by decide) (mw 4 rfl) rfl rfl dX5_readText_47 ?_
    refine r_iln (pc := 50) C 1 rfl dX5_readText_50 ?_
    refine r_iln (pc := 51) C 2 rfl dX5_readText_51 ?_
    refine r_iln (pc := 52) C 3 rfl dX5_readText_52 ?_
    refine r_aln (pc := 53) C 0 rfl dX5_readText_53 ?_
    refine r_ic (pc := 54) (v := nI 1) C rfl dX5_readText_54 ?_
    refine r_ic (pc := 55) (v := nI 4) C rfl dX5_readText_55 ?_
    refine c_WVi (pc := 56) (As := [.int (nI 1), .int (nI 4)]) (wc := [(mA, cMo mref mscr msz 0 0 0 mread mnow mtri mdia macts mkept misk qp), (mscr, aN (cT 0) 120 sg)]) (wr := [(qp, aI (cT 0) 16 pl), (mread, aI (cT 0) 104 f)]) (qr := 0) C hA (k_X5_digit l D cT mA mref mscr msz 0 0 0 mread mnow mtri mdia macts mkept misk qp sg 1 4 (by first | assumption | omega) (by first | assumption | omega) (by first | assumption | omega) (by first | assumption | omega) (by first | assumption | omega) (by first | assumption | omega)) (cwV 2 C.1.2.2.2.2 gX5_readText_X5_digit rfl rfl rfl n_X5_digit ⟨Nat.le_of_ble_eq_true rfl, Nat.le_of_ble_eq_true rfl⟩) rfl rfl [0, 1] [2, 3] rfl rfl ⟨by decide, by decide⟩ (by decide) [2, 3, 0, 1] (fun u80 => [(mA, cMo mref mscr msz u80.2 u80.1 0 mread mnow mtri mdia macts mkept misk qp), (mscr, aN (cT 0) 120 sg), (qp, aI (cT 0) 16 pl), (mread, aI (cT 0) 104 f)]) (fun _ => rfl) (by decide) rfl rfl (Nat.le_of_ble_eq_true rfl) ⟨Nat.zero_le _, Nat.zero_le _⟩ dX5_readText_56 (fun r56 u80 h79 => ?_)
    obtain ⟨m81, m82⟩ := u80
    try dsimp only at h79 ⊢
    obtain ⟨-, rfl, rfl, rfl⟩ := h79.resolve_left (fun q => absurd q.1 (by decide))
    refine c_WSv (pc := 59) (As := [.ref mread, .int (nI 1), .int (nI 1), .int (nI 1), .int (nI 1)]) (wc := [(mread, aI (cT 0) 104 f)]) (wr := [(mA, cMo mref mscr msz 0 0 0 mread mnow mtri mdia macts mkept misk qp), (mscr, aN (cT 0) 120 sg), (qp, aI (cT 0) 16 pl)])  C hA (k_X5_clean l D cT mread f 1 1 1 1) (va_cwS 5 C.1.2.2.2.2 gX5_readText_X5_clean rfl rfl rfl n_X5_clean ⟨Nat.le_of_ble_eq_true rfl, Nat.le_of_ble_eq_true rfl⟩) [3] [0, 1, 2] rfl rfl ⟨by decide, by decide⟩ (by decide) [0, 1, 2, 3] (fun u84 => [(mA, cMo mref mscr msz 0 0 0 mread mnow mtri mdia macts mkept misk qp), (mscr, aN (cT 0) 120 sg), (qp, aI (cT 0) 16 pl), (mread, aI (cT 0) 104 u84)]) (fun _ => rfl) (by decide) rfl rfl (Nat.le_of_ble_eq_true rfl) ⟨Nat.zero_le _, Nat.zero_le _⟩ dX5_readText_59 (fun u84 h83 => ?_)
    refine r_aln (pc := 62) C 0 rfl dX5_readText_62 ?_
    refine r_get (pc := 63) C iX5_readText_X5 0 rfl rfl 4 (by decide) (mw 2 rfl) rfl rfl dX5_readText_63 ?_
    refine r_zeqN (pc := 66) (tgt := 87) C (by first | omega) dX5_readText_66 (by decide) (fun _ => ?_) (fun h => absurd h (by decide))
    refine r_aln (pc := 87) C 0 rfl dX5_readText_87 ?_
    refine r_get (pc := 88) C iX5_readText_X5 0 rfl rfl 4 (by decide) (mw 2 rfl) rfl rfl dX5_readText_88 ?_
    refine r_zeqN (pc := 91) (tgt := 98) C (by first | omega) dX5_readText_91 (by decide) (fun _ => ?_) (fun h => absurd h (by decide))
    refine r_aln (pc := 98) C 0 rfl dX5_readText_98 ?_
    refine r_get (pc := 99) C iX5_readText_X5 0 rfl rfl 3 (by decide) (mw 1 rfl) rfl rfl dX5_readText_99 ?_
    subst hQ
    exact e_iW C hr hk (Nat.le_refl _) (Nat.le_refl _) ⟨0, 0, 0, pl, u84⟩ rfl (rt_h (pb4_0 h1)) dX5_readText_102

