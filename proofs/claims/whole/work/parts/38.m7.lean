/-! the model: how few boards, which board; scripts and simulations -/
theorem nI_prd {m : Nat} (h : 1 ≤ m) : nI (m - 1) = nI m + (-1) := by
  conv => rhs; rw [show m = (m - 1) + 1 by omega]
  rw [nI_m11]
theorem zm_lt {z : Nat} (h : z ≤ 4) : nI z + (-1) < 0 ↔ z = 0 := by
  rcases z with _ | z
  · exact ⟨fun _ => rfl, fun _ => by decide⟩
  · rw [nI_m11]; exact ⟨fun q => absurd q (nI_pos (by omega)), fun q => by omega⟩
theorem rk_le {b m : Nat} : rkB b m ≤ m := by
  have := sumTo_le (f := fun i => (!b.testBit i).toNat) (b := 1) (n := m) (fun i _ => by cases b.testBit i <;> decide)
  unfold rkB; omega
theorem b01_r0 {r0 r : Int32} (h : RRq r0 r) (e : r = -1) : nI 0 = B01 r0 := by
  rcases h with ⟨h1, -⟩ | ⟨k, h1, h2, hk⟩
  · rw [h1]; exact b01_0 (by decide)
  · rw [h2] at e; exact absurd e (nI_m1 (by omega))
theorem b01_r1 {r0 r : Int32} (h : RRq r0 r) (e : ¬ r = -1) : nI 1 = B01 r0 := by
  rcases h with ⟨-, h1⟩ | ⟨k, h1, h2, hk⟩
  · exact absurd h1 e
  · rw [h1]; exact b01_1 (nI_pos (by omega))
theorem cin_no {n j : Nat} (h : n ≤ j) (hj : j < 2147483648) : ¬ CIn n (nI j) := fun ⟨k, e, hk⟩ => by
  have := nI_inj4 hj (by omega) e; omega
section SuOne
variable {u v : SS} {g : Nat} {r0 r : Int32}
theorem su_1 (k : g / 10000 = 1) (h : ACs u (nI (g / 100 % 100)) (nI (g % 100)) r0 v) (e : r = B01 r0) : SUs u g r v := by
  obtain ⟨h, e1, e2, e3, e4, e5, e6⟩ := h
  exact ⟨Or.inl ⟨k, r0, h, e5, e6, e⟩, e1, e2, e3, e4⟩
theorem su_2 (k : g / 10000 = 2) (h : AOs u (nI (g / 100 % 100)) (nI (g % 100)) r0 v) (e : r = B01 r0) : SUs u g r v := by
  obtain ⟨h, e1, e2, e3, e4, e5, e6⟩ := h
  exact ⟨Or.inr (Or.inl ⟨k, r0, h, e5, e6, e⟩), e1, e2, e3, e4⟩
theorem su_3 (k : g / 10000 = 3) (hl : g % 100 = 0) (h : HGs u (nI (g / 100 % 100)) r0 v) (e : r = B01 r0) : SUs u g r v := by
  obtain ⟨h, a1, a2, a3, e1, e2, e3, e4, e5, e6⟩ := h
  exact ⟨Or.inr (Or.inr (Or.inl ⟨k, hl, r0, h, a1, a2, a3, e5, e6, e⟩)), e1, e2, e3, e4⟩
theorem su_4 (k : g / 10000 = 4) (hh : g / 100 % 100 = 0) (h : DRs u (nI (g % 100)) r0 v) (e : r = B01 r0) : SUs u g r v := by
  obtain ⟨h, a, e1, e2, e3, e4, e5, e6⟩ := h
  exact ⟨Or.inr (Or.inr (Or.inr (Or.inl ⟨k, hh, r0, h, a, e5, e6, e⟩))), e1, e2, e3, e4⟩
theorem su_5 (k : g / 10000 = 5) (hl : g % 100 = 0) (hb : g / 100 % 100 % 10 ≤ 1) (h : BKs u (nI (g / 100 % 100 / 10)) (g / 100 % 100 % 10) r0 v) (e : r = B01 r0) : SUs u g r v := by
  obtain ⟨h, a, e1, e2, e3, e4, e5⟩ := h
  exact ⟨Or.inr (Or.inr (Or.inr (Or.inr (Or.inl ⟨k, hl, hb, r0, h, a, e5, e⟩)))), e1, e2, e3, e4⟩
theorem su_6 {p : Nat} (k : g / 10000 = 6) (hh : g / 100 % 100 = 0) (hp : g % 100 = p) (h3 : p ≤ 3) : SUs u g (nI 1) (patU u p) := by
  subst hp
  exact ⟨Or.inr (Or.inr (Or.inr (Or.inr (Or.inr (Or.inl ⟨k, hh, h3, rfl, rfl, sameq u, rfl⟩))))), rfl, rfl, rfl, rfl⟩
theorem su_7 (h : C7 u (g / 10000) (g / 100 % 100) (g % 100)) : SUs u g (nI 1) u :=
  ⟨Or.inr (Or.inr (Or.inr (Or.inr (Or.inr (Or.inr (Or.inl ⟨⟨sameq u, rfl, rfl⟩, rfl, h⟩)))))), rfl, rfl, rfl, rfl⟩
theorem su_8 (h : C8 u (g / 10000) (g / 100 % 100) (g % 100)) : SUs u g (nI 0) u :=
  ⟨Or.inr (Or.inr (Or.inr (Or.inr (Or.inr (Or.inr (Or.inr ⟨⟨sameq u, rfl, rfl⟩, rfl, h⟩)))))), rfl, rfl, rfl, rfl⟩
end SuOne
def DOq (u : SS) (g : Nat) (r : Int32) (f' : Nat → Int32) : Prop := ∃ v, SUs u g r v ∧ RowQ f' v
def BRq (u : SS) (mb b : Nat) (r : Int32) (f' : Nat → Int32) : Prop := (b ≤ 1 ∧ ∃ r0 v, BKs u (nI mb) b r0 v ∧ RowQ f' v ∧ r = B01 r0) ∨ (1 < b ∧ r = nI 0 ∧ RowQ f' u)
def TUq (u : SS) (rr : Nat) (f' : Nat → Int32) : Prop := ∃ v r, MTs u rr r v ∧ RowQ f' v
section MtOne
variable {u v : SS} {g : Nat} {r0 : Int32} {f' : Nat → Int32}
theorem mt_4 (k : g % 8 = 4) (h : AOs u (nI (rst (g / 8) u.cnt)) (nI (rst (g / 128) (u.las * u.wid))) r0 v) (hR : RowQ f' v) : TUq u g f' := by
  obtain ⟨h, e1, e2, e3, e4, e5, e6⟩ := h
  exact ⟨v, mx0 r0, ⟨Or.inl ⟨k, r0, h, rfl⟩, e1, e2, e3, e4, e5, e6⟩, hR⟩
theorem mt_5 (k : g % 8 = 5 ∨ g % 8 = 6) (h : HGs u (nI (rst (g / 8) u.cnt)) r0 v) (hR : RowQ f' v) : TUq u g f' := by
  obtain ⟨h, a1, a2, a3, e1, e2, e3, e4, e5, e6⟩ := h
  exact ⟨v, nI 0, ⟨Or.inr (Or.inl ⟨k, r0, h, a1, a2, a3, rfl⟩), e1, e2, e3, e4, e5, e6⟩, hR⟩
theorem mt_7 (k : g % 8 = 7) (h : DRs u (nI (rst (g / 128) (u.las * u.wid))) r0 v) (hR : RowQ f' v) : TUq u g f' := by
  obtain ⟨h, a, e1, e2, e3, e4, e5, e6⟩ := h
  exact ⟨v, nI 0, ⟨Or.inr (Or.inr (Or.inl ⟨k, r0, h, a, rfl⟩)), e1, e2, e3, e4, e5, e6⟩, hR⟩
theorem mt_0 (k : g % 8 < 4) (h : ACs u (nI (rst (g / 8) (u.fst * u.wid))) (nI (rst (g / 128) (u.las * u.wid))) r0 v) (hR : RowQ f' v) : TUq u g f' := by
  obtain ⟨h, e1, e2, e3, e4, e5, e6⟩ := h
  exact ⟨v, mx0 r0, ⟨Or.inr (Or.inr (Or.inr ⟨k, r0, h, rfl⟩)), e1, e2, e3, e4, e5, e6⟩, hR⟩
end MtOne
theorem rst_p {a b : Nat} (h : 0 < b) : a % b = rst a b := (if_pos h).symm
theorem rst_0 {a b : Nat} (h : b ≤ 0) : a % 1 = rst a b := by rw [Nat.mod_one]; exact (if_neg (by omega)).symm

theorem iX5_fewest_X5 : ∀ w ∈ u_ws RX5 TX5 14, w ∈ wsX5_fewest := by decide +kernel
abbrev rmX5_fewest : Room := { frames := 5, cells := 0, slots := 0, locals := 118 }
theorem n_X5_fewest : yX5_fewest.cls = RX5 ∧ yX5_fewest.cls ≠ "java/lang/invoke/MethodHandle" ∧ yX5_fewest.cls ≠ "java/lang/invoke/VarHandle" ∧ (parseMethodDescriptor yX5_fewest.desc).map (fun d => d.parameters.length) = some 0 := by decide +kernel
set_option maxHeartbeats 4000000 in
set_option maxRecDepth 100000 in
theorem k_X5_fewest (l : Launch) (D : va_G) (cT : Nat → ClassId) (mA mref mscr msz mspot mgood mleft mread mnow mtri mdia macts mkept misk qp : Nat) (pl f : Nat → Int32) (u : SS) (hR : RowQ f u) (hJ : JQ u) : MWi (S := Nat × (Nat → Int32)) l D cT yX5_fewest wsX5_fewest rmX5_fewest [.ref mA] [(mA, cMo mref mscr msz mspot mgood mleft mread mnow mtri mdia macts mkept misk qp), (qp, aI (cT 0) 16 pl), (mnow, aI (cT 0) 104 f)] (fun r w9 => w9.1 = 0 ∧ ((∃ k, r = nI k ∧ k < u.mid ∧ HPn u k ∧ ∀ d, d < k → ¬ HPn u d) ∨ (r = nI u.mid ∧ ∀ d, d < u.mid → ¬ HPn u d))) (fun w9 => [(mA, cMo w9.1 mscr msz mspot mgood mleft mread mnow mtri mdia macts mkept misk qp), (qp, aI (cT 0) 16 w9.2), (mnow, aI (cT 0) 104 f)]) 0 0 := by
  refine m_Wi [(0, .ref mA)] (by decide +kernel) rfl (Nat.le_of_ble_eq_true rfl) rfl ?_
  intro p e s m args below meth c A hAe C hA hr hk hnm_
  generalize hQ : MQ below (va_Qi _ _ A) args s 0 0 A = Q
  have hB := bd_of hJ
  obtain ⟨hF, hW, hM, hL, hPa, hBr, hCn, hFL, hE⟩ := id hB
  have hFW1 := mul44 hF hW
  have hLW1 := mul44 hL hW
  have hbm := hJ.1.2.2.2.2.2.1
  refine r_aln (pc := 0) C 0 rfl dX5_fewest_0 ?_
  refine r_ic (pc := 1) (v := nI 0) C rfl dX5_fewest_1 ?_
  refine r_put (pc := 2) (ws2 := [(mA, cMo 0 mscr msz mspot mgood mleft mread mnow mtri mdia macts mkept misk qp), (qp, aI (cT 0) 16 pl), (mnow, aI (cT 0) 104 f)]) C iX5_fewest_X5 tyX5_ok nmX5 0 rfl rfl 0 (by decide) (mw 1 rfl) rfl rfl rfl rfl (Nat.le_of_ble_eq_true rfl) rfl dX5_fewest_2 ?_
  refine r_ic (pc := 5) (v := nI 0) C rfl dX5_fewest_5 ?_
  refine r_isn (pc := 6) C [1, 0] [(0, .ref mA), (1, .int (nI 0))] rfl (by decide) rfl dX5_fewest_6 ?_
  have L7 : ∀ (n7 : Nat) (n1 : Nat) (pl1 : Nat → Int32) (hn1 : n1 ≤ u.mid) (hq : ∀ d, d < n1 → ¬ HPn u d), u.mid - n1 < n7 → RW p l e (headSpec wsX5_fewest rmX5_fewest).room s m args below meth c (IW s D A) 6 0 0 Q [(mA, cMo 0 mscr msz mspot mgood mleft mread mnow mtri mdia macts mkept misk qp), (qp, aI (cT 0) 16 pl1), (mnow, aI (cT 0) 104 f)] 7 [(0, .ref mA), (1, .int (nI n1))] [] := by
    intro n7
    induction n7 with
    | zero => intro n1 pl1 hn1 hq hn7; exact absurd hn7 (Nat.not_lt_zero _)
    | succ n7 ih7 =>
      intro n1 pl1 hn1 hq hn7
      refine r_iln (pc := 7) C 1 rfl dX5_fewest_7 ?_
      refine r_aln (pc := 8) C 0 rfl dX5_fewest_8 ?_
      refine r_get (pc := 9) C iX5_fewest_X5 0 rfl rfl 7 (by decide) (mw 2 rfl) rfl rfl dX5_fewest_9 ?_
      refine r_ic (pc := 12) (v := nI 2) C rfl dX5_fewest_12 ?_
      refine r_ialI (pc := 13) C 2 rfl (by first | omega | (have := whole_n hM.2 hbm; omega) | (have := rk_s1 c64; omega) | (have := rk_le (b := u.bro) (m := z2 + 1); omega) | (have := rk_s1 c64; have := rk_le (b := u.bro) (m := z2 + 1); omega)) (by decide) dX5_fewest_13 ?_
      refine r_v (y := nI u.mid) hR.1.2.2.1 ?_
      refine r_cgeN (pc := 14) (tgt := 140) C (by first | omega | (have := whole_n hM.2 hbm; omega) | (have := rk_s1 c64; omega) | (have := rk_le (b := u.bro) (m := z2 + 1); omega) | (have := rk_s1 c64; have := rk_le (b := u.bro) (m := z2 + 1); omega)) (by first | omega | (have := whole_n hM.2 hbm; omega) | (have := rk_s1 c64; omega) | (have := rk_le (b := u.bro) (m := z2 + 1); omega) | (have := rk_s1 c64; have := rk_le (b := u.bro) (m := z2 + 1); omega)) dX5_fewest_14 (by decide) (fun c14 => ?_) (fun c14 => ?_)
      · refine r_aln (pc := 140) C 0 rfl dX5_fewest_140 ?_
        refine r_get (pc := 141) C iX5_fewest_X5 0 rfl rfl 7 (by decide) (mw 2 rfl) rfl rfl dX5_fewest_141 ?_
        refine r_ic (pc := 144) (v := nI 2) C rfl dX5_fewest_144 ?_
        refine r_ialI (pc := 145) C 2 rfl (by first | omega | (have := whole_n hM.2 hbm; omega) | (have := rk_s1 c64; omega) | (have := rk_le (b := u.bro) (m := z2 + 1); omega) | (have := rk_s1 c64; have := rk_le (b := u.bro) (m := z2 + 1); omega)) (by decide) dX5_fewest_145 ?_
        refine r_v (y := nI u.mid) hR.1.2.2.1 ?_
        subst hQ
        exact e_iW C hr hk (Nat.le_refl _) (Nat.le_refl _) ⟨0, pl1⟩ rfl (⟨rfl, Or.inr ⟨rfl, fun d hd => hq d (by omega)⟩⟩) dX5_fewest_146
      · refine r_ic (pc := 17) (v := nI 0) C rfl dX5_fewest_17 ?_
        refine r_isn (pc := 18) C [1, 2, 0] [(0, .ref mA), (1, .int (nI n1)), (2, .int (nI 0))] rfl (by decide) rfl dX5_fewest_18 ?_
        refine r_aln (pc := 19) C 0 rfl dX5_fewest_19 ?_
        refine r_get (pc := 20) C iX5_fewest_X5 0 rfl rfl 7 (by decide) (mw 2 rfl) rfl rfl dX5_fewest_20 ?_
        refine r_ic (pc := 23) (v := nI 2) C rfl dX5_fewest_23 ?_
        refine r_ialI (pc := 24) C 2 rfl (by first | omega | (have := whole_n hM.2 hbm; omega) | (have := rk_s1 c64; omega) | (have := rk_le (b := u.bro) (m := z2 + 1); omega) | (have := rk_s1 c64; have := rk_le (b := u.bro) (m := z2 + 1); omega)) (by decide) dX5_fewest_24 ?_
        refine r_v (y := nI u.mid) hR.1.2.2.1 ?_
        refine r_aln (pc := 25) C 0 rfl dX5_fewest_25 ?_
        refine r_get (pc := 26) C iX5_fewest_X5 0 rfl rfl 7 (by decide) (mw 2 rfl) rfl rfl dX5_fewest_26 ?_
        refine r_bi (pc := 29) (v := nI 7) C rfl dX5_fewest_29 ?_
        refine r_ialI (pc := 31) C 2 rfl (by first | omega | (have := whole_n hM.2 hbm; omega) | (have := rk_s1 c64; omega) | (have := rk_le (b := u.bro) (m := z2 + 1); omega) | (have := rk_s1 c64; have := rk_le (b := u.bro) (m := z2 + 1); omega)) (by decide) dX5_fewest_31 ?_
        refine r_v (y := nI u.bro) hR.1.2.2.2.2.2.2.2 ?_
        refine c_RS (pc := 32) (As := [.int (nI u.bro)]) (wc := [])  C (k_X5_bits l D cT u.bro (by omega)) (va_cwS 1 C.1.2.2.2.2 gX5_fewest_X5_bits rfl rfl rfl n_X5_bits ⟨Nat.le_of_ble_eq_true rfl, Nat.le_of_ble_eq_true rfl⟩) [] rfl rfl rfl (Nat.le_of_ble_eq_true rfl) ⟨Nat.zero_le _, Nat.zero_le _⟩ dX5_fewest_32 (fun r32 h1 => ?_)
        subst h1
        refine r_isubN (pc := 35) C (by first | omega | (have := whole_n hM.2 hbm; omega) | (have := rk_s1 c64; omega) | (have := rk_le (b := u.bro) (m := z2 + 1); omega) | (have := rk_s1 c64; have := rk_le (b := u.bro) (m := z2 + 1); omega)) dX5_fewest_35 ?_
        refine r_v (y := nI (rkB u.bro u.mid)) (congrArg nI (rk_m hM.2 hbm)) ?_
        refine r_isn (pc := 36) C [1, 2, 3, 0] [(0, .ref mA), (1, .int (nI n1)), (2, .int (nI 0)), (3, .int (nI (rkB u.bro u.mid)))] rfl (by decide) rfl dX5_fewest_36 ?_
        refine r_aln (pc := 37) C 0 rfl dX5_fewest_37 ?_
        refine r_get (pc := 38) C iX5_fewest_X5 0 rfl rfl 7 (by decide) (mw 2 rfl) rfl rfl dX5_fewest_38 ?_
        refine r_ic (pc := 41) (v := nI 2) C rfl dX5_fewest_41 ?_
        refine r_ialI (pc := 42) C 2 rfl (by first | omega | (have := whole_n hM.2 hbm; omega) | (have := rk_s1 c64; omega) | (have := rk_le (b := u.bro) (m := z2 + 1); omega) | (have := rk_s1 c64; have := rk_le (b := u.bro) (m := z2 + 1); omega)) (by decide) dX5_fewest_42 ?_
        refine r_v (y := nI u.mid) hR.1.2.2.1 ?_
        refine r_ic (pc := 43) (v := nI 1) C rfl dX5_fewest_43 ?_
        refine r_isubN (pc := 44) C (by first | omega | (have := whole_n hM.2 hbm; omega) | (have := rk_s1 c64; omega) | (have := rk_le (b := u.bro) (m := z2 + 1); omega) | (have := rk_s1 c64; have := rk_le (b := u.bro) (m := z2 + 1); omega)) dX5_fewest_44 ?_
        refine r_v (y := nI u.mid + (-1)) (nI_prd hM.1) ?_
        refine r_is (pc := 45) C [1, 2, 3, 4, 0] [(0, .ref mA), (1, .int (nI n1)), (2, .int (nI 0)), (3, .int (nI (rkB u.bro u.mid))), (4, .int (nI u.mid + (-1)))] (by decide) rfl dX5_fewest_45 ?_
        have L47 : ∀ (n47 : Nat) (z : Nat) (gone : Nat) (hz : z ≤ u.mid) (hg : GNp u n1 z gone), z < n47 → RW p l e (headSpec wsX5_fewest rmX5_fewest).room s m args below meth c (IW s D A) 6 0 0 Q [(mA, cMo 0 mscr msz mspot mgood mleft mread mnow mtri mdia macts mkept misk qp), (qp, aI (cT 0) 16 pl1), (mnow, aI (cT 0) 104 f)] 47 [(0, .ref mA), (1, .int (nI n1)), (2, .int (nI gone)), (3, .int (nI (rkB u.bro z))), (4, .int (nI z + (-1)))] [] := by
          intro n47
          induction n47 with
          | zero => intro z gone hz hg hn47; exact absurd hn47 (Nat.not_lt_zero _)
          | succ n47 ih47 =>
            intro z gone hz hg hn47
            refine r_il (pc := 47) C 4 rfl dX5_fewest_47 ?_
            refine r_zlt (pc := 49) (tgt := 114) C dX5_fewest_49 (by decide) (fun c49 => ?_) (fun c49 => ?_)
            · have z0 := (zm_lt (by omega)).mp c49
              subst z0
              refine r_aln (pc := 114) C 0 rfl dX5_fewest_114 ?_
              refine r_aln (pc := 115) C 0 rfl dX5_fewest_115 ?_
              refine r_get (pc := 116) C iX5_fewest_X5 0 rfl rfl 7 (by decide) (mw 2 rfl) rfl rfl dX5_fewest_116 ?_
              refine r_iln (pc := 119) C 2 rfl dX5_fewest_119 ?_
              refine r_aln (pc := 120) C 0 rfl dX5_fewest_120 ?_
              refine r_get (pc := 121) C iX5_fewest_X5 0 rfl rfl 7 (by decide) (mw 2 rfl) rfl rfl dX5_fewest_121 ?_
              refine r_ic (pc := 124) (v := nI 4) C rfl dX5_fewest_124 ?_
              refine r_ialI (pc := 125) C 2 rfl (by first | omega | (have := whole_n hM.2 hbm; omega) | (have := rk_s1 c64; omega) | (have := rk_le (b := u.bro) (m := z2 + 1); omega) | (have := rk_s1 c64; have := rk_le (b := u.bro) (m := z2 + 1); omega)) (by decide) dX5_fewest_125 ?_
              refine r_v (y := nI u.cnt) hR.1.2.2.2.2.1 ?_
              refine c_WVi (pc := 126) (As := [.ref mnow, .int (nI gone), .int (nI u.cnt)]) (wc := [(mA, cMo 0 mscr msz mspot mgood mleft mread mnow mtri mdia macts mkept misk qp), (qp, aI (cT 0) 16 pl1), (mnow, aI (cT 0) 104 f)]) (wr := []) (qr := 0) C hA (k_X5_hasPlan l D cT mA 0 mscr msz mspot mgood mleft mread mnow mtri mdia macts mkept misk qp pl1 mnow f gone u.cnt u hR hB hg.1 hCn) (cwV 3 C.1.2.2.2.2 gX5_fewest_X5_hasPlan rfl rfl rfl n_X5_hasPlan ⟨Nat.le_of_ble_eq_true rfl, Nat.le_of_ble_eq_true rfl⟩) rfl rfl [0, 1, 2] [] rfl rfl ⟨by decide, by decide⟩ (by decide) [0, 1, 2] (fun u3 => [(mA, cMo 0 mscr msz mspot mgood mleft mread mnow mtri mdia macts mkept misk qp), (qp, aI (cT 0) 16 u3), (mnow, aI (cT 0) 104 f)]) (fun _ => rfl) (by decide) rfl rfl (Nat.le_of_ble_eq_true rfl) ⟨Nat.zero_le _, Nat.zero_le _⟩ dX5_fewest_126 (fun r126 u3 h2 => ?_)
              have h2h := h2
              rcases h2 with ⟨rfl, h2⟩ | ⟨rfl, h2⟩
              · refine r_zeqN (pc := 129) (tgt := 134) C (by first | omega | (have := whole_n hM.2 hbm; omega) | (have := rk_s1 c64; omega) | (have := rk_le (b := u.bro) (m := z2 + 1); omega) | (have := rk_s1 c64; have := rk_le (b := u.bro) (m := z2 + 1); omega)) dX5_fewest_129 (by decide) (fun h => absurd h (by decide)) (fun _ => ?_)
                refine r_iln (pc := 132) C 1 rfl dX5_fewest_132 ?_
                subst hQ
                exact e_iW C hr hk (Nat.le_refl _) (Nat.le_refl _) ⟨0, u3⟩ rfl (⟨rfl, Or.inl ⟨n1, rfl, by omega, hp_yes h2h rfl hg, hq⟩⟩) dX5_fewest_133
              · refine r_zeqN (pc := 129) (tgt := 134) C (by first | omega | (have := whole_n hM.2 hbm; omega) | (have := rk_s1 c64; omega) | (have := rk_le (b := u.bro) (m := z2 + 1); omega) | (have := rk_s1 c64; have := rk_le (b := u.bro) (m := z2 + 1); omega)) dX5_fewest_129 (by decide) (fun _ => ?_) (fun h => absurd h (by decide))
                refine r_incN (pc := 134) C 1 [1, 0, 2, 3, 4] [(0, .ref mA), (1, .int (nI (n1 + 1))), (2, .int (nI gone)), (3, .int (nI (rkB u.bro 0))), (4, .int (nI 0 + (-1)))] rfl (by decide) rfl dX5_fewest_134 ?_
                refine r_goto (pc := 137) (tgt := 7) C dX5_fewest_137 (by decide) ?_
                refine r_lv [0, 1] (lv2 := [(0, .ref mA), (1, .int (nI (n1 + 1)))]) rfl ?_
                exact ih7 (n1 + 1) u3 (by omega) (fun d hd => by rcases Nat.lt_succ_iff_lt_or_eq.mp hd with q | q; exact hq d q; subst q; exact hp_no h2h rfl hg) (by omega)
            · have hz0 : ¬ z = 0 := fun q => c49 ((zm_lt (by omega)).mpr q)
              obtain ⟨z2, rfl⟩ : ∃ z2, z = z2 + 1 := ⟨z - 1, by omega⟩
              refine r_aln (pc := 52) C 0 rfl dX5_fewest_52 ?_
              refine r_get (pc := 53) C iX5_fewest_X5 0 rfl rfl 7 (by decide) (mw 2 rfl) rfl rfl dX5_fewest_53 ?_
              refine r_bi (pc := 56) (v := nI 7) C rfl dX5_fewest_56 ?_
              refine r_ialI (pc := 58) C 2 rfl (by first | omega | (have := whole_n hM.2 hbm; omega) | (have := rk_s1 c64; omega) | (have := rk_le (b := u.bro) (m := z2 + 1); omega) | (have := rk_s1 c64; have := rk_le (b := u.bro) (m := z2 + 1); omega)) (by decide) dX5_fewest_58 ?_
              refine r_v (y := nI u.bro) hR.1.2.2.2.2.2.2.2 ?_
              refine r_il (pc := 59) C 4 rfl dX5_fewest_59 ?_
              refine r_v (y := nI z2) nI_m11 ?_
              refine r_ishrN (pc := 61) C (by omega) (by first | omega | (have := whole_n hM.2 hbm; omega) | (have := rk_s1 c64; omega) | (have := rk_le (b := u.bro) (m := z2 + 1); omega) | (have := rk_s1 c64; have := rk_le (b := u.bro) (m := z2 + 1); omega)) dX5_fewest_61 ?_
              refine r_ic (pc := 62) (v := nI 1) C rfl dX5_fewest_62 ?_
              refine r_iandN (pc := 63) C dX5_fewest_63 ?_
              refine r_v (y := nI (u.bro.testBit z2).toNat) (congrArg nI (rw_bit _ _)) ?_
              refine r_zneN (pc := 64) (tgt := 71) C bool_lt dX5_fewest_64 (by decide) (fun c64 => ?_) (fun c64 => ?_)
              · have c64 := bool_1.mp c64
                refine r_ic (pc := 71) (v := nI 0) C rfl dX5_fewest_71 ?_
                refine r_is (pc := 72) C [1, 2, 3, 4, 5, 0] [(0, .ref mA), (1, .int (nI n1)), (2, .int (nI gone)), (3, .int (nI (rkB u.bro (z2 + 1)))), (4, .int (nI (z2 + 1) + (-1))), (5, .int (nI 0))] (by decide) rfl dX5_fewest_72 ?_
                refine r_iln (pc := 74) C 2 rfl dX5_fewest_74 ?_
                refine r_il (pc := 75) C 5 rfl dX5_fewest_75 ?_
                refine r_zeqN (pc := 77) (tgt := 92) C (by first | omega | (have := whole_n hM.2 hbm; omega) | (have := rk_s1 c64; omega) | (have := rk_le (b := u.bro) (m := z2 + 1); omega) | (have := rk_s1 c64; have := rk_le (b := u.bro) (m := z2 + 1); omega)) dX5_fewest_77 (by decide) (fun _ => ?_) (fun h => absurd h (by decide))
                refine r_ic (pc := 92) (v := nI 0) C rfl dX5_fewest_92 ?_
                refine r_iorN (pc := 93) C dX5_fewest_93 ?_
                refine r_isn (pc := 94) C [1, 2, 0, 3, 4, 5] [(0, .ref mA), (1, .int (nI n1)), (2, .int (nI (gone ||| 0))), (3, .int (nI (rkB u.bro (z2 + 1)))), (4, .int (nI (z2 + 1) + (-1))), (5, .int (nI 0))] rfl (by decide) rfl dX5_fewest_94 ?_
                refine r_iln (pc := 95) C 3 rfl dX5_fewest_95 ?_
                refine r_il (pc := 96) C 5 rfl dX5_fewest_96 ?_
                refine r_zeqN (pc := 98) (tgt := 105) C (by first | omega | (have := whole_n hM.2 hbm; omega) | (have := rk_s1 c64; omega) | (have := rk_le (b := u.bro) (m := z2 + 1); omega) | (have := rk_s1 c64; have := rk_le (b := u.bro) (m := z2 + 1); omega)) dX5_fewest_98 (by decide) (fun _ => ?_) (fun h => absurd h (by decide))
                refine r_ic (pc := 105) (v := nI 0) C rfl dX5_fewest_105 ?_
                refine r_isubN (pc := 106) C (by first | omega | (have := whole_n hM.2 hbm; omega) | (have := rk_s1 c64; omega) | (have := rk_le (b := u.bro) (m := z2 + 1); omega) | (have := rk_s1 c64; have := rk_le (b := u.bro) (m := z2 + 1); omega)) dX5_fewest_106 ?_
                refine r_v (y := nI (rkB u.bro z2)) (congrArg nI (by rw [rk_s0 c64]; omega)) ?_
                refine r_isn (pc := 107) C [1, 2, 3, 0, 4, 5] [(0, .ref mA), (1, .int (nI n1)), (2, .int (nI (gone ||| 0))), (3, .int (nI (rkB u.bro z2))), (4, .int (nI (z2 + 1) + (-1))), (5, .int (nI 0))] rfl (by decide) rfl dX5_fewest_107 ?_
                refine r_inc (pc := 108) C 4 [1, 2, 3, 4, 0, 5] [(0, .ref mA), (1, .int (nI n1)), (2, .int (nI (gone ||| 0))), (3, .int (nI (rkB u.bro z2))), (4, .int (nI z2 + (-1))), (5, .int (nI 0))] rfl ((congrArg (· + Int32.ofInt (-1)) nI_m11).trans (congrArg (nI z2 + ·) (by decide))) (by decide) rfl dX5_fewest_108 ?_
                refine r_goto (pc := 111) (tgt := 47) C dX5_fewest_111 (by decide) ?_
                refine r_lv [0, 1, 2, 3, 4] (lv2 := [(0, .ref mA), (1, .int (nI n1)), (2, .int (nI (gone ||| 0))), (3, .int (nI (rkB u.bro z2))), (4, .int (nI z2 + (-1)))]) rfl ?_
                exact ih47 z2 (gone ||| 0) (by omega) (gn_keep hg (Or.inl c64)) (by omega)
              · have c64 := bool_0.mp c64
                refine r_ic (pc := 67) (v := nI 1) C rfl dX5_fewest_67 ?_
                refine r_goto (pc := 68) (tgt := 72) C dX5_fewest_68 (by decide) ?_
                refine r_is (pc := 72) C [1, 2, 3, 4, 5, 0] [(0, .ref mA), (1, .int (nI n1)), (2, .int (nI gone)), (3, .int (nI (rkB u.bro (z2 + 1)))), (4, .int (nI (z2 + 1) + (-1))), (5, .int (nI 1))] (by decide) rfl dX5_fewest_72 ?_
                refine r_iln (pc := 74) C 2 rfl dX5_fewest_74 ?_
                refine r_il (pc := 75) C 5 rfl dX5_fewest_75 ?_
                refine r_zeqN (pc := 77) (tgt := 92) C (by first | omega | (have := whole_n hM.2 hbm; omega) | (have := rk_s1 c64; omega) | (have := rk_le (b := u.bro) (m := z2 + 1); omega) | (have := rk_s1 c64; have := rk_le (b := u.bro) (m := z2 + 1); omega)) dX5_fewest_77 (by decide) (fun h => absurd h (by decide)) (fun _ => ?_)
                refine r_iln (pc := 80) C 3 rfl dX5_fewest_80 ?_
                refine r_iln (pc := 81) C 1 rfl dX5_fewest_81 ?_
                refine r_cleN (pc := 82) (tgt := 92) C (by first | omega | (have := whole_n hM.2 hbm; omega) | (have := rk_s1 c64; omega) | (have := rk_le (b := u.bro) (m := z2 + 1); omega) | (have := rk_s1 c64; have := rk_le (b := u.bro) (m := z2 + 1); omega)) (by first | omega | (have := whole_n hM.2 hbm; omega) | (have := rk_s1 c64; omega) | (have := rk_le (b := u.bro) (m := z2 + 1); omega) | (have := rk_s1 c64; have := rk_le (b := u.bro) (m := z2 + 1); omega)) dX5_fewest_82 (by decide) (fun c82 => ?_) (fun c82 => ?_)
                · refine r_ic (pc := 92) (v := nI 0) C rfl dX5_fewest_92 ?_
                  refine r_iorN (pc := 93) C dX5_fewest_93 ?_
                  refine r_isn (pc := 94) C [1, 2, 0, 3, 4, 5] [(0, .ref mA), (1, .int (nI n1)), (2, .int (nI (gone ||| 0))), (3, .int (nI (rkB u.bro (z2 + 1)))), (4, .int (nI (z2 + 1) + (-1))), (5, .int (nI 1))] rfl (by decide) rfl dX5_fewest_94 ?_
                  refine r_iln (pc := 95) C 3 rfl dX5_fewest_95 ?_
                  refine r_il (pc := 96) C 5 rfl dX5_fewest_96 ?_
                  refine r_zeqN (pc := 98) (tgt := 105) C (by first | omega | (have := whole_n hM.2 hbm; omega) | (have := rk_s1 c64; omega) | (have := rk_le (b := u.bro) (m := z2 + 1); omega) | (have := rk_s1 c64; have := rk_le (b := u.bro) (m := z2 + 1); omega)) dX5_fewest_98 (by decide) (fun h => absurd h (by decide)) (fun _ => ?_)
                  refine r_ic (pc := 101) (v := nI 1) C rfl dX5_fewest_101 ?_
                  refine r_goto (pc := 102) (tgt := 106) C dX5_fewest_102 (by decide) ?_
                  refine r_isubN (pc := 106) C (by first | omega | (have := whole_n hM.2 hbm; omega) | (have := rk_s1 c64; omega) | (have := rk_le (b := u.bro) (m := z2 + 1); omega) | (have := rk_s1 c64; have := rk_le (b := u.bro) (m := z2 + 1); omega)) dX5_fewest_106 ?_
                  refine r_v (y := nI (rkB u.bro z2)) (congrArg nI (by rw [rk_s1 c64]; omega)) ?_
                  refine r_isn (pc := 107) C [1, 2, 3, 0, 4, 5] [(0, .ref mA), (1, .int (nI n1)), (2, .int (nI (gone ||| 0))), (3, .int (nI (rkB u.bro z2))), (4, .int (nI (z2 + 1) + (-1))), (5, .int (nI 1))] rfl (by decide) rfl dX5_fewest_107 ?_
                  refine r_inc (pc := 108) C 4 [1, 2, 3, 4, 0, 5] [(0, .ref mA), (1, .int (nI n1)), (2, .int (nI (gone ||| 0))), (3, .int (nI (rkB u.bro z2))), (4, .int (nI z2 + (-1))), (5, .int (nI 1))] rfl ((congrArg (· + Int32.ofInt (-1)) nI_m11).trans (congrArg (nI z2 + ·) (by decide))) (by decide) rfl dX5_fewest_108 ?_
                  refine r_goto (pc := 111) (tgt := 47) C dX5_fewest_111 (by decide) ?_
                  refine r_lv [0, 1, 2, 3, 4] (lv2 := [(0, .ref mA), (1, .int (nI n1)), (2, .int (nI (gone ||| 0))), (3, .int (nI (rkB u.bro z2))), (4, .int (nI z2 + (-1)))]) rfl ?_
                  exact ih47 z2 (gone ||| 0) (by omega) (gn_keep hg (Or.inr (by have := rk_s1 c64; omega))) (by omega)
                · refine r_ic (pc := 85) (v := nI 1) C rfl dX5_fewest_85 ?_
                  refine r_il (pc := 86) C 4 rfl dX5_fewest_86 ?_
                  refine r_v (y := nI z2) nI_m11 ?_
                  refine r_ishlN (pc := 88) C (by first | omega | (have := whole_n hM.2 hbm; omega) | (have := rk_s1 c64; omega) | (have := rk_le (b := u.bro) (m := z2 + 1); omega) | (have := rk_s1 c64; have := rk_le (b := u.bro) (m := z2 + 1); omega)) (by rw [Nat.one_mul]; exact p2_lt31 (by first | omega | (have := whole_n hM.2 hbm; omega) | (have := rk_s1 c64; omega) | (have := rk_le (b := u.bro) (m := z2 + 1); omega) | (have := rk_s1 c64; have := rk_le (b := u.bro) (m := z2 + 1); omega))) dX5_fewest_88 ?_
                  refine r_v (y := nI (2 ^ z2)) (congrArg nI (Nat.one_mul _)) ?_
                  refine r_goto (pc := 89) (tgt := 93) C dX5_fewest_89 (by decide) ?_
                  refine r_iorN (pc := 93) C dX5_fewest_93 ?_
                  refine r_isn (pc := 94) C [1, 2, 0, 3, 4, 5] [(0, .ref mA), (1, .int (nI n1)), (2, .int (nI (gone ||| (2 ^ z2)))), (3, .int (nI (rkB u.bro (z2 + 1)))), (4, .int (nI (z2 + 1) + (-1))), (5, .int (nI 1))] rfl (by decide) rfl dX5_fewest_94 ?_
                  refine r_iln (pc := 95) C 3 rfl dX5_fewest_95 ?_
                  refine r_il (pc := 96) C 5 rfl dX5_fewest_96 ?_
                  refine r_zeqN (pc := 98) (tgt := 105) C (by first | omega | (have := whole_n hM.2 hbm; omega) | (have := rk_s1 c64; omega) | (have := rk_le (b := u.bro) (m := z2 + 1); omega) | (have := rk_s1 c64; have := rk_le (b := u.bro) (m := z2 + 1); omega)) dX5_fewest_98 (by decide) (fun h => absurd h (by decide)) (fun _ => ?_)
                  refine r_ic (pc := 101) (v := nI 1) C rfl dX5_fewest_101 ?_
                  refine r_goto (pc := 102) (tgt := 106) C dX5_fewest_102 (by decide) ?_
                  refine r_isubN (pc := 106) C (by first | omega | (have := whole_n hM.2 hbm; omega) | (have := rk_s1 c64; omega) | (have := rk_le (b := u.bro) (m := z2 + 1); omega) | (have := rk_s1 c64; have := rk_le (b := u.bro) (m := z2 + 1); omega)) dX5_fewest_106 ?_
                  refine r_v (y := nI (rkB u.bro z2)) (congrArg nI (by rw [rk_s1 c64]; omega)) ?_
                  refine r_isn (pc := 107) C [1, 2, 3, 0, 4, 5] [(0, .ref mA), (1, .int (nI n1)), (2, .int (nI (gone ||| (2 ^ z2)))), (3, .int (nI (rkB u.bro z2))), (4, .int (nI (z2 + 1) + (-1))), (5, .int (nI 1))] rfl (by decide) rfl dX5_fewest_107 ?_
                  refine r_inc (pc := 108) C 4 [1, 2, 3, 4, 0, 5] [(0, .ref mA), (1, .int (nI n1)), (2, .int (nI (gone ||| (2 ^ z2)))), (3, .int (nI (rkB u.bro z2))), (4, .int (nI z2 + (-1))), (5, .int (nI 1))] rfl ((congrArg (· + Int32.ofInt (-1)) nI_m11).trans (congrArg (nI z2 + ·) (by decide))) (by decide) rfl dX5_fewest_108 ?_
                  refine r_goto (pc := 111) (tgt := 47) C dX5_fewest_111 (by decide) ?_
                  refine r_lv [0, 1, 2, 3, 4] (lv2 := [(0, .ref mA), (1, .int (nI n1)), (2, .int (nI (gone ||| (2 ^ z2)))), (3, .int (nI (rkB u.bro z2))), (4, .int (nI z2 + (-1)))]) rfl ?_
                  exact ih47 z2 (gone ||| (2 ^ z2)) (by omega) (gn_drop hM.2 hg (by omega) c64 (by have := rk_s1 c64; omega)) (by omega)
        exact L47 _ u.mid 0 (Nat.le_refl _) gn_0 (Nat.lt_succ_self _)
  exact L7 _ 0 pl (Nat.zero_le _) (fun d hd => absurd hd (Nat.not_lt_zero _)) (Nat.lt_succ_self _)

theorem iX5_weakest_X5 : ∀ w ∈ u_ws RX5 TX5 14, w ∈ wsX5_weakest := by decide +kernel
abbrev rmX5_weakest : Room := { frames := 6, cells := 0, slots := 0, locals := 142 }
theorem n_X5_weakest : yX5_weakest.cls = RX5 ∧ yX5_weakest.cls ≠ "java/lang/invoke/MethodHandle" ∧ yX5_weakest.cls ≠ "java/lang/invoke/VarHandle" ∧ (parseMethodDescriptor yX5_weakest.desc).map (fun d => d.parameters.length) = some 0 := by decide +kernel
set_option maxHeartbeats 4000000 in
set_option maxRecDepth 100000 in
theorem k_X5_weakest (l : Launch) (D : va_G) (cT : Nat → ClassId) (mA mref mscr msz mspot mgood mleft mread mnow mtri mdia macts mkept misk qp : Nat) (pl f : Nat → Int32) (u : SS) (hR : RowQ f u) (hJ : JQ u) : MWi (S := Nat × (Nat → Int32)) l D cT yX5_weakest wsX5_weakest rmX5_weakest [.ref mA] [(mA, cMo mref mscr msz mspot mgood mleft mread mnow mtri mdia macts mkept misk qp), (qp, aI (cT 0) 16 pl), (mnow, aI (cT 0) 104 f)] (fun r w9 => w9.1 = 0 ∧ ∃ fm wm, WKI u.wid u.mid u.bro u.cnt u.inp u.outs u.brd u.mid fm wm ∧ ((wm = -1 ∧ r = -1) ∨ (¬ wm = -1 ∧ r = nI 10 * fm + wm))) (fun w9 => [(mA, cMo w9.1 mscr msz mspot mgood mleft mread mnow mtri mdia macts mkept misk qp), (qp, aI (cT 0) 16 w9.2), (mnow, aI (cT 0) 104 f)]) 0 0 := by
  refine m_Wi [(0, .ref mA)] (by decide +kernel) rfl (Nat.le_of_ble_eq_true rfl) rfl ?_
  intro p e s m args below meth c A hAe C hA hr hk hnm_
  generalize hQ : MQ below (va_Qi _ _ A) args s 0 0 A = Q
  have hB := bd_of hJ
  obtain ⟨hF, hW, hM, hL, hPa, hBr, hCn, hFL, hE⟩ := id hB
  have hFW1 := mul44 hF hW
  have hLW1 := mul44 hL hW
  refine r_aln (pc := 0) C 0 rfl dX5_weakest_0 ?_
  refine r_ic (pc := 1) (v := nI 0) C rfl dX5_weakest_1 ?_
  refine r_put (pc := 2) (ws2 := [(mA, cMo 0 mscr msz mspot mgood mleft mread mnow mtri mdia macts mkept misk qp), (qp, aI (cT 0) 16 pl), (mnow, aI (cT 0) 104 f)]) C iX5_weakest_X5 tyX5_ok nmX5 0 rfl rfl 0 (by decide) (mw 1 rfl) rfl rfl rfl rfl (Nat.le_of_ble_eq_true rfl) rfl dX5_weakest_2 ?_
  refine r_ic (pc := 5) (v := (-1)) C rfl dX5_weakest_5 ?_
  refine r_isn (pc := 6) C [1, 0] [(0, .ref mA), (1, .int (-1))] rfl (by decide) rfl dX5_weakest_6 ?_
  refine r_ic (pc := 7) (v := nI 0) C rfl dX5_weakest_7 ?_
  refine r_isn (pc := 8) C [1, 2, 0] [(0, .ref mA), (1, .int (-1)), (2, .int (nI 0))] rfl (by decide) rfl dX5_weakest_8 ?_
  have L9 : ∀ (n9 : Nat) (m1 : Nat) (fd : Int32) (fm : Int32) (wm : Int32) (pl1 : Nat → Int32) (hm1 : m1 ≤ u.mid) (hq : WKf u m1 fd fm wm), u.mid - m1 < n9 → RW p l e (headSpec wsX5_weakest rmX5_weakest).room s m args below meth c (IW s D A) 4 0 0 Q [(mA, cMo 0 mscr msz mspot mgood mleft mread mnow mtri mdia macts mkept misk qp), (qp, aI (cT 0) 16 pl1), (mnow, aI (cT 0) 104 f)] 9 [(0, .ref mA), (1, .int fd), (2, .int (nI m1))] [] := by
    intro n9
    induction n9 with
    | zero => intro m1 fd fm wm pl1 hm1 hq hn9; exact absurd hn9 (Nat.not_lt_zero _)
    | succ n9 ih9 =>
      intro m1 fd fm wm pl1 hm1 hq hn9
      refine r_iln (pc := 9) C 2 rfl dX5_weakest_9 ?_
      refine r_aln (pc := 10) C 0 rfl dX5_weakest_10 ?_
      refine r_get (pc := 11) C iX5_weakest_X5 0 rfl rfl 7 (by decide) (mw 2 rfl) rfl rfl dX5_weakest_11 ?_
      refine r_ic (pc := 14) (v := nI 2) C rfl dX5_weakest_14 ?_
      refine r_ialI (pc := 15) C 2 rfl (by first | omega | exact Nat.lt_of_lt_of_le (Nat.pow_lt_pow_right (by decide) (show m1 < 4 by omega)) (by decide)) (by decide) dX5_weakest_15 ?_
      refine r_v (y := nI u.mid) hR.1.2.2.1 ?_
      refine r_cgeN (pc := 16) (tgt := 90) C (by first | omega | exact Nat.lt_of_lt_of_le (Nat.pow_lt_pow_right (by decide) (show m1 < 4 by omega)) (by decide)) (by first | omega | exact Nat.lt_of_lt_of_le (Nat.pow_lt_pow_right (by decide) (show m1 < 4 by omega)) (by decide)) dX5_weakest_16 (by decide) (fun c16 => ?_) (fun c16 => ?_)
      · refine r_iln (pc := 90) C 1 rfl dX5_weakest_90 ?_
        subst hQ
        exact e_iW C hr hk (Nat.le_refl _) (Nat.le_refl _) ⟨0, pl1⟩ rfl (⟨rfl, wf_end hq (by omega)⟩) dX5_weakest_91
      · refine r_aln (pc := 19) C 0 rfl dX5_weakest_19 ?_
        refine r_get (pc := 20) C iX5_weakest_X5 0 rfl rfl 7 (by decide) (mw 2 rfl) rfl rfl dX5_weakest_20 ?_
        refine r_bi (pc := 23) (v := nI 7) C rfl dX5_weakest_23 ?_
        refine r_ialI (pc := 25) C 2 rfl (by first | omega | exact Nat.lt_of_lt_of_le (Nat.pow_lt_pow_right (by decide) (show m1 < 4 by omega)) (by decide)) (by decide) dX5_weakest_25 ?_
        refine r_v (y := nI u.bro) hR.1.2.2.2.2.2.2.2 ?_
        refine r_iln (pc := 26) C 2 rfl dX5_weakest_26 ?_
        refine r_ishrN (pc := 27) C (by omega) (by first | omega | exact Nat.lt_of_lt_of_le (Nat.pow_lt_pow_right (by decide) (show m1 < 4 by omega)) (by decide)) dX5_weakest_27 ?_
        refine r_ic (pc := 28) (v := nI 1) C rfl dX5_weakest_28 ?_
        refine r_iandN (pc := 29) C dX5_weakest_29 ?_
        refine r_v (y := nI (u.bro.testBit m1).toNat) (congrArg nI (rw_bit _ _)) ?_
        refine r_zneN (pc := 30) (tgt := 53) C bool_lt dX5_weakest_30 (by decide) (fun c30 => ?_) (fun c30 => ?_)
        · have c30 := bool_1.mp c30
          refine r_ic (pc := 53) (v := (-1)) C rfl dX5_weakest_53 ?_
          refine r_isn (pc := 54) C [1, 2, 3, 0] [(0, .ref mA), (1, .int fd), (2, .int (nI m1)), (3, .int (-1))] rfl (by decide) rfl dX5_weakest_54 ?_
          refine r_iln (pc := 55) C 3 rfl dX5_weakest_55 ?_
          refine r_ic (pc := 56) (v := (-1)) C rfl dX5_weakest_56 ?_
          refine r_ceq (pc := 57) (tgt := 82) C dX5_weakest_57 (by decide) (fun c57 => ?_) (fun c57 => absurd c57 (by exact fun h => h rfl))
          refine r_iln (pc := 82) C 1 rfl dX5_weakest_82 ?_
          refine r_isn (pc := 83) C [1, 0, 2, 3] [(0, .ref mA), (1, .int fd), (2, .int (nI m1)), (3, .int (-1))] rfl (by decide) rfl dX5_weakest_83 ?_
          refine r_incN (pc := 84) C 2 [1, 2, 0, 3] [(0, .ref mA), (1, .int fd), (2, .int (nI (m1 + 1))), (3, .int (-1))] rfl (by decide) rfl dX5_weakest_84 ?_
          refine r_goto (pc := 87) (tgt := 9) C dX5_weakest_87 (by decide) ?_
          refine r_lv [0, 1, 2] (lv2 := [(0, .ref mA), (1, .int fd), (2, .int (nI (m1 + 1)))]) rfl ?_
          exact ih9 (m1 + 1) fd fm wm pl1 (by omega) (wf_keep hq (fun h => wk_skip h c30)) (by omega)
        · have c30 := bool_0.mp c30
          refine r_aln (pc := 33) C 0 rfl dX5_weakest_33 ?_
          refine r_aln (pc := 34) C 0 rfl dX5_weakest_34 ?_
          refine r_get (pc := 35) C iX5_weakest_X5 0 rfl rfl 7 (by decide) (mw 2 rfl) rfl rfl dX5_weakest_35 ?_
          refine r_ic (pc := 38) (v := nI 1) C rfl dX5_weakest_38 ?_
          refine r_iln (pc := 39) C 2 rfl dX5_weakest_39 ?_
          refine r_ishlN (pc := 40) C (by first | omega | exact Nat.lt_of_lt_of_le (Nat.pow_lt_pow_right (by decide) (show m1 < 4 by omega)) (by decide)) (by rw [Nat.one_mul]; exact p2_lt31 (by first | omega | exact Nat.lt_of_lt_of_le (Nat.pow_lt_pow_right (by decide) (show m1 < 4 by omega)) (by decide))) dX5_weakest_40 ?_
          refine r_v (y := nI (2 ^ m1)) (congrArg nI (Nat.one_mul _)) ?_
          refine r_aln (pc := 41) C 0 rfl dX5_weakest_41 ?_
          refine r_get (pc := 42) C iX5_weakest_X5 0 rfl rfl 7 (by decide) (mw 2 rfl) rfl rfl dX5_weakest_42 ?_
          refine r_ic (pc := 45) (v := nI 4) C rfl dX5_weakest_45 ?_
          refine r_ialI (pc := 46) C 2 rfl (by first | omega | exact Nat.lt_of_lt_of_le (Nat.pow_lt_pow_right (by decide) (show m1 < 4 by omega)) (by decide)) (by decide) dX5_weakest_46 ?_
          refine r_v (y := nI u.cnt) hR.1.2.2.2.2.1 ?_
          refine c_WVi (pc := 47) (As := [.ref mnow, .int (nI (2 ^ m1)), .int (nI u.cnt)]) (wc := [(mA, cMo 0 mscr msz mspot mgood mleft mread mnow mtri mdia macts mkept misk qp), (qp, aI (cT 0) 16 pl1), (mnow, aI (cT 0) 104 f)]) (wr := []) (qr := 0) C hA (k_X5_best l D cT mA 0 mscr msz mspot mgood mleft mread mnow mtri mdia macts mkept misk qp pl1 mnow f (2 ^ m1) u.cnt u hR hB (Nat.lt_of_lt_of_le (Nat.pow_lt_pow_right (by decide) (show m1 < 4 by omega)) (by decide)) hCn) (cwV 3 C.1.2.2.2.2 gX5_weakest_X5_best rfl rfl rfl n_X5_best ⟨Nat.le_of_ble_eq_true rfl, Nat.le_of_ble_eq_true rfl⟩) rfl rfl [0, 1, 2] [] rfl rfl ⟨by decide, by decide⟩ (by decide) [0, 1, 2] (fun u2 => [(mA, cMo 0 mscr msz mspot mgood mleft mread mnow mtri mdia macts mkept misk qp), (qp, aI (cT 0) 16 u2), (mnow, aI (cT 0) 104 f)]) (fun _ => rfl) (by decide) rfl rfl (Nat.le_of_ble_eq_true rfl) ⟨Nat.zero_le _, Nat.zero_le _⟩ dX5_weakest_47 (fun r47 u2 h1 => ?_)
          have h1h := h1
          rcases h1 with ⟨rfl, h1⟩ | ⟨h1k, h1π, rfl, h1a, h1b, h1c⟩
          · refine r_goto (pc := 50) (tgt := 54) C dX5_weakest_50 (by decide) ?_
            refine r_isn (pc := 54) C [1, 2, 3, 0] [(0, .ref mA), (1, .int fd), (2, .int (nI m1)), (3, .int (-1))] rfl (by decide) rfl dX5_weakest_54 ?_
            refine r_iln (pc := 55) C 3 rfl dX5_weakest_55 ?_
            refine r_ic (pc := 56) (v := (-1)) C rfl dX5_weakest_56 ?_
            refine r_ceq (pc := 57) (tgt := 82) C dX5_weakest_57 (by decide) (fun c57 => ?_) (fun c57 => absurd c57 (by exact fun h => h rfl))
            refine r_iln (pc := 82) C 1 rfl dX5_weakest_82 ?_
            refine r_isn (pc := 83) C [1, 0, 2, 3] [(0, .ref mA), (1, .int fd), (2, .int (nI m1)), (3, .int (-1))] rfl (by decide) rfl dX5_weakest_83 ?_
            refine r_incN (pc := 84) C 2 [1, 2, 0, 3] [(0, .ref mA), (1, .int fd), (2, .int (nI (m1 + 1))), (3, .int (-1))] rfl (by decide) rfl dX5_weakest_84 ?_
            refine r_goto (pc := 87) (tgt := 9) C dX5_weakest_87 (by decide) ?_
            refine r_lv [0, 1, 2] (lv2 := [(0, .ref mA), (1, .int fd), (2, .int (nI (m1 + 1)))]) rfl ?_
            exact ih9 (m1 + 1) fd fm wm u2 (by omega) (wf_keep hq (fun h => wk_none hCn h (pll_of hCn h1h) rfl)) (by omega)
          · refine r_goto (pc := 50) (tgt := 54) C dX5_weakest_50 (by decide) ?_
            refine r_isn (pc := 54) C [1, 2, 3, 0] [(0, .ref mA), (1, .int fd), (2, .int (nI m1)), (3, .int (nI h1k))] rfl (by decide) rfl dX5_weakest_54 ?_
            refine r_iln (pc := 55) C 3 rfl dX5_weakest_55 ?_
            refine r_ic (pc := 56) (v := (-1)) C rfl dX5_weakest_56 ?_
            refine r_ceq (pc := 57) (tgt := 82) C dX5_weakest_57 (by decide) (fun c57 => absurd c57 (by exact nI_m1 (by omega))) (fun c57 => ?_)
            refine r_iln (pc := 60) C 1 rfl dX5_weakest_60 ?_
            refine r_ic (pc := 61) (v := (-1)) C rfl dX5_weakest_61 ?_
            refine r_ceq (pc := 62) (tgt := 73) C dX5_weakest_62 (by decide) (fun c62 => ?_) (fun c62 => ?_)
            · refine r_bi (pc := 73) (v := nI 10) C rfl dX5_weakest_73 ?_
              refine r_iln (pc := 75) C 3 rfl dX5_weakest_75 ?_
              refine r_imulN (pc := 76) C dX5_weakest_76 ?_
              refine r_iln (pc := 77) C 2 rfl dX5_weakest_77 ?_
              refine r_iaddN (pc := 78) C dX5_weakest_78 ?_
              refine r_goto (pc := 79) (tgt := 83) C dX5_weakest_79 (by decide) ?_
              refine r_isn (pc := 83) C [1, 0, 2, 3] [(0, .ref mA), (1, .int (nI ((10 * h1k) + m1))), (2, .int (nI m1)), (3, .int (nI h1k))] rfl (by decide) rfl dX5_weakest_83 ?_
              refine r_incN (pc := 84) C 2 [1, 2, 0, 3] [(0, .ref mA), (1, .int (nI ((10 * h1k) + m1))), (2, .int (nI (m1 + 1))), (3, .int (nI h1k))] rfl (by decide) rfl dX5_weakest_84 ?_
              refine r_goto (pc := 87) (tgt := 9) C dX5_weakest_87 (by decide) ?_
              refine r_lv [0, 1, 2] (lv2 := [(0, .ref mA), (1, .int (nI ((10 * h1k) + m1))), (2, .int (nI (m1 + 1)))]) rfl ?_
              exact ih9 (m1 + 1) (nI ((10 * h1k) + m1)) (nI h1k) (nI m1) u2 (by omega) (wf_new hCn (by omega) hq c30 (by omega) h1h (Or.inl ((wf_m1 hq).mp c62))) (by omega)
            · obtain ⟨k1, w1, e1, e2, h1, h2⟩ := wf_div hq c62
              refine r_iln (pc := 65) C 3 rfl dX5_weakest_65 ?_
              refine r_iln (pc := 66) C 1 rfl dX5_weakest_66 ?_
              refine r_v (y := nI (10 * k1 + w1)) e1 ?_
              refine r_bi (pc := 67) (v := nI 10) C rfl dX5_weakest_67 ?_
              refine r_idivN (pc := 69) C (by first | omega | exact Nat.lt_of_lt_of_le (Nat.pow_lt_pow_right (by decide) (show m1 < 4 by omega)) (by decide)) (by omega) (by omega) dX5_weakest_69 ?_
              refine r_cgeN (pc := 70) (tgt := 82) C (by first | omega | exact Nat.lt_of_lt_of_le (Nat.pow_lt_pow_right (by decide) (show m1 < 4 by omega)) (by decide)) (by first | omega | exact Nat.lt_of_lt_of_le (Nat.pow_lt_pow_right (by decide) (show m1 < 4 by omega)) (by decide)) dX5_weakest_70 (by decide) (fun c70 => ?_) (fun c70 => ?_)
              · refine r_iln (pc := 82) C 1 rfl dX5_weakest_82 ?_
                refine r_isn (pc := 83) C [1, 0, 2, 3] [(0, .ref mA), (1, .int fd), (2, .int (nI m1)), (3, .int (nI h1k))] rfl (by decide) rfl dX5_weakest_83 ?_
                refine r_incN (pc := 84) C 2 [1, 2, 0, 3] [(0, .ref mA), (1, .int fd), (2, .int (nI (m1 + 1))), (3, .int (nI h1k))] rfl (by decide) rfl dX5_weakest_84 ?_
                refine r_goto (pc := 87) (tgt := 9) C dX5_weakest_87 (by decide) ?_
                refine r_lv [0, 1, 2] (lv2 := [(0, .ref mA), (1, .int fd), (2, .int (nI (m1 + 1)))]) rfl ?_
                exact ih9 (m1 + 1) fd fm wm u2 (by omega) (wf_keep hq (fun h => wk_ge hCn h (pll_of hCn h1h) (fun q => c62 ((wf_m1 hq).mpr q)) (by rw [e2, Int32.le_iff_toInt_le, nI_toInt (by omega), nI_toInt (by omega)]; omega))) (by omega)
              · refine r_bi (pc := 73) (v := nI 10) C rfl dX5_weakest_73 ?_
                refine r_iln (pc := 75) C 3 rfl dX5_weakest_75 ?_
                refine r_imulN (pc := 76) C dX5_weakest_76 ?_
                refine r_iln (pc := 77) C 2 rfl dX5_weakest_77 ?_
                refine r_iaddN (pc := 78) C dX5_weakest_78 ?_
                refine r_goto (pc := 79) (tgt := 83) C dX5_weakest_79 (by decide) ?_
                refine r_isn (pc := 83) C [1, 0, 2, 3] [(0, .ref mA), (1, .int (nI ((10 * h1k) + m1))), (2, .int (nI m1)), (3, .int (nI h1k))] rfl (by decide) rfl dX5_weakest_83 ?_
                refine r_incN (pc := 84) C 2 [1, 2, 0, 3] [(0, .ref mA), (1, .int (nI ((10 * h1k) + m1))), (2, .int (nI (m1 + 1))), (3, .int (nI h1k))] rfl (by decide) rfl dX5_weakest_84 ?_
                refine r_goto (pc := 87) (tgt := 9) C dX5_weakest_87 (by decide) ?_
                refine r_lv [0, 1, 2] (lv2 := [(0, .ref mA), (1, .int (nI ((10 * h1k) + m1))), (2, .int (nI (m1 + 1)))]) rfl ?_
                exact ih9 (m1 + 1) (nI ((10 * h1k) + m1)) (nI h1k) (nI m1) u2 (by omega) (wf_new hCn (by omega) hq c30 (by omega) h1h (Or.inr (by rw [e2, Int32.le_iff_toInt_le, nI_toInt (by omega), nI_toInt (by omega)]; omega))) (by omega)
  exact L9 _ 0 (-1) (-1) (-1) pl (Nat.zero_le _) wf_0 (Nat.lt_succ_self _)

theorem iX5_save_X5 : ∀ w ∈ u_ws RX5 TX5 14, w ∈ wsX5_save := by decide +kernel
abbrev rmX5_save : Room := { frames := 1, cells := 0, slots := 0, locals := 25 }
theorem n_X5_save : yX5_save.cls = RX5 ∧ yX5_save.cls ≠ "java/lang/invoke/MethodHandle" ∧ yX5_save.cls ≠ "java/lang/invoke/VarHandle" ∧ (parseMethodDescriptor yX5_save.desc).map (fun d => d.parameters.length) = some 1 := by decide +kernel
set_option maxHeartbeats 4000000 in
set_option maxRecDepth 100000 in
theorem k_X5_save (l : Launch) (D : va_G) (cT : Nat → ClassId) (mA mref mscr msz mspot mgood mleft mread mnow mtri mdia macts mkept misk qp : Nat) (f fk : Nat → Int32) (sk : Nat → Nat) (x : Int32) (u : SS) (hR : RowQ f u) (hJ : JQ u) : MWi (S := Nat × (Nat → Int32) × (Nat → Nat)) l D cT yX5_save wsX5_save rmX5_save [.ref mA, .int x] [(mA, cMo mref mscr msz mspot mgood mleft mread mnow mtri mdia macts mkept misk qp), (mnow, aI (cT 0) 104 f), (mkept, aI (cT 0) 208 fk), (misk, aN (cT 1) 2 sk)] (fun r w9 => (w9.1 = 1 ∧ ¬ CIn 2 x ∧ w9.2.1 = fk ∧ w9.2.2 = sk) ∨ (w9.1 = 0 ∧ ∃ j, x = nI j ∧ j < 2 ∧ r = nI u.cnt ∧ w9.2.1 = cpF f fk 0 (104 * j) 104 ∧ w9.2.2 = va_up sk j 1)) (fun w9 => [(mA, cMo w9.1 mscr msz mspot mgood mleft mread mnow mtri mdia macts mkept misk qp), (mnow, aI (cT 0) 104 f), (mkept, aI (cT 0) 208 w9.2.1), (misk, aN (cT 1) 2 w9.2.2)]) 0 0 := by
  refine m_Wi [(0, .ref mA), (1, .int x)] (by decide +kernel) rfl (Nat.le_of_ble_eq_true rfl) rfl ?_
  intro p e s m args below meth c A hAe C hA hr hk hnm_
  generalize hQ : MQ below (va_Qi _ _ A) args s 0 0 A = Q
  have hB := bd_of hJ
  obtain ⟨hF, hW, hM, hL, hPa, hBr, hCn, hFL, hE⟩ := id hB
  have hFW1 := mul44 hF hW
  have hLW1 := mul44 hL hW
  refine r_aln (pc := 0) C 0 rfl dX5_save_0 ?_
  refine r_iln (pc := 1) C 1 rfl dX5_save_1 ?_
  refine r_i2l (pc := 2) C rfl dX5_save_2 ?_
  refine r_lc (pc := 3) (v := 0) C rfl dX5_save_3 ?_
  refine r_lc (pc := 4) (v := 1) C rfl dX5_save_4 ?_
  refine c_RS (pc := 5) (As := [.long x.toInt64, .long 0, .long 1]) (wc := [])  C (k_X5_in l D cT x.toInt64 0 1) (va_cwS 3 C.1.2.2.2.2 gX5_save_X5_in rfl rfl rfl n_X5_in ⟨Nat.le_of_ble_eq_true rfl, Nat.le_of_ble_eq_true rfl⟩) [] rfl rfl rfl (Nat.le_of_ble_eq_true rfl) ⟨Nat.zero_le _, Nat.zero_le _⟩ dX5_save_5 (fun r5 h1 => ?_)
  rcases h1 with ⟨rfl, h1⟩ | ⟨rfl, h1⟩
  · obtain ⟨h1j, rfl, h1l⟩ := (in_lit (n := 1) (by decide) (by decide)).mp h1
    refine r_zeqN (pc := 8) (tgt := 15) C (by omega) dX5_save_8 (by decide) (fun h => absurd h (by decide)) (fun _ => ?_)
    refine r_ic (pc := 11) (v := nI 0) C rfl dX5_save_11 ?_
    refine r_goto (pc := 12) (tgt := 16) C dX5_save_12 (by decide) ?_
    refine c_WVi (pc := 16) (As := [.int (nI 0)]) (wc := [(mA, cMo mref mscr msz mspot mgood mleft mread mnow mtri mdia macts mkept misk qp)]) (wr := [(mnow, aI (cT 0) 104 f), (mkept, aI (cT 0) 208 fk), (misk, aN (cT 1) 2 sk)]) (qr := 0) C hA (k_X5_refused l D cT mA mref mscr msz mspot mgood mleft mread mnow mtri mdia macts mkept misk qp 0 (by first | assumption | omega)) (cwV 1 C.1.2.2.2.2 gX5_save_X5_refused rfl rfl rfl n_X5_refused ⟨Nat.le_of_ble_eq_true rfl, Nat.le_of_ble_eq_true rfl⟩) rfl rfl [0] [1, 2, 3] rfl rfl ⟨by decide, by decide⟩ (by decide) [3, 0, 1, 2] (fun u3 => [(mA, cMo u3 mscr msz mspot mgood mleft mread mnow mtri mdia macts mkept misk qp), (mnow, aI (cT 0) 104 f), (mkept, aI (cT 0) 208 fk), (misk, aN (cT 1) 2 sk)]) (fun _ => rfl) (by decide) rfl rfl (Nat.le_of_ble_eq_true rfl) ⟨Nat.zero_le _, Nat.zero_le _⟩ dX5_save_16 (fun r16 u3 h2 => ?_)
    obtain ⟨h2, h2m⟩ := h2
    have h2 := h2.trans (if_pos rfl)
    subst h2
    subst h2m
    refine r_zeqN (pc := 19) (tgt := 24) C (by omega) dX5_save_19 (by decide) (fun _ => ?_) (fun h => absurd h (by decide))
    refine r_aln (pc := 24) C 0 rfl dX5_save_24 ?_
    refine r_get (pc := 25) C iX5_save_X5 0 rfl rfl 7 (by decide) (mw 1 rfl) rfl rfl dX5_save_25 ?_
    refine r_ic (pc := 28) (v := nI 0) C rfl dX5_save_28 ?_
    refine r_aln (pc := 29) C 0 rfl dX5_save_29 ?_
    refine r_get (pc := 30) C iX5_save_X5 0 rfl rfl 11 (by decide) (mw 2 rfl) rfl rfl dX5_save_30 ?_
    refine r_bi (pc := 33) (v := nI 104) C rfl dX5_save_33 ?_
    refine r_iln (pc := 35) C 1 rfl dX5_save_35 ?_
    refine r_imulN (pc := 36) C dX5_save_36 ?_
    refine r_bi (pc := 37) (v := nI 104) C rfl dX5_save_37 ?_
    refine c_WSv (pc := 39) (As := [.ref mnow, .int (nI 0), .ref mkept, .int (nI (104 * h1j)), .int (nI 104)]) (wc := [(mnow, aI (cT 0) 104 f), (mkept, aI (cT 0) 208 fk)]) (wr := [(mA, cMo 0 mscr msz mspot mgood mleft mread mnow mtri mdia macts mkept misk qp), (misk, aN (cT 1) 2 sk)])  C hA (k_X5_copy l D cT mnow 104 f mkept 208 fk 0 (104 * h1j) 104 (⟨by decide, by decide⟩) (by decide) (by omega)) (va_cwS 5 C.1.2.2.2.2 gX5_save_X5_copy rfl rfl rfl n_X5_copy ⟨Nat.le_of_ble_eq_true rfl, Nat.le_of_ble_eq_true rfl⟩) [1, 2] [0, 3] rfl rfl ⟨by decide, by decide⟩ (by decide) [0, 2, 3, 1] (fun u5 => [(mA, cMo 0 mscr msz mspot mgood mleft mread mnow mtri mdia macts mkept misk qp), (mnow, aI (cT 0) 104 f), (mkept, aI (cT 0) 208 u5), (misk, aN (cT 1) 2 sk)]) (fun _ => rfl) (by decide) rfl rfl (Nat.le_of_ble_eq_true rfl) ⟨Nat.zero_le _, Nat.zero_le _⟩ dX5_save_39 (fun u5 h4 => ?_)
    obtain ⟨m6, rfl⟩ : ∃ z, z = u5 := ⟨_, rfl⟩
    try dsimp only at h4
    subst h4
    refine r_aln (pc := 42) C 0 rfl dX5_save_42 ?_
    refine r_get (pc := 43) C iX5_save_X5 0 rfl rfl 12 (by decide) (mw 3 rfl) rfl rfl dX5_save_43 ?_
    refine r_iln (pc := 46) C 1 rfl dX5_save_46 ?_
    refine r_ic (pc := 47) (v := nI 1) C rfl dX5_save_47 ?_
    refine r_zasN (pc := 48) (ws2 := [(mA, cMo 0 mscr msz mspot mgood mleft mread mnow mtri mdia macts mkept misk qp), (mnow, aI (cT 0) 104 f), (mkept, aI (cT 0) 208 (cpF f fk 0 (104 * h1j) 104)), (misk, aN (cT 1) 2 (va_up sk h1j 1))]) C (by omega) 3 rfl (by omega) (by decide) rfl dX5_save_48 ?_
    refine r_aln (pc := 49) C 0 rfl dX5_save_49 ?_
    refine r_get (pc := 50) C iX5_save_X5 0 rfl rfl 7 (by decide) (mw 1 rfl) rfl rfl dX5_save_50 ?_
    refine r_ic (pc := 53) (v := nI 4) C rfl dX5_save_53 ?_
    refine r_ialI (pc := 54) C 1 rfl (by omega) (by omega) dX5_save_54 ?_
    refine r_v (y := nI u.cnt) hR.1.2.2.2.2.1 ?_
    subst hQ
    exact e_iW C hr hk (Nat.le_refl _) (Nat.le_refl _) ⟨0, cpF f fk 0 (104 * h1j) 104, va_up sk h1j 1⟩ rfl (Or.inr ⟨rfl, _, rfl, h1l, rfl, rfl, rfl⟩) dX5_save_55
  · have h1 := fun g => h1 ((in_lit (n := 1) (by decide) (by decide)).mpr g)
    refine r_zeqN (pc := 8) (tgt := 15) C (by omega) dX5_save_8 (by decide) (fun _ => ?_) (fun h => absurd h (by decide))
    refine r_ic (pc := 15) (v := nI 1) C rfl dX5_save_15 ?_
    refine c_WVi (pc := 16) (As := [.int (nI 1)]) (wc := [(mA, cMo mref mscr msz mspot mgood mleft mread mnow mtri mdia macts mkept misk qp)]) (wr := [(mnow, aI (cT 0) 104 f), (mkept, aI (cT 0) 208 fk), (misk, aN (cT 1) 2 sk)]) (qr := 0) C hA (k_X5_refused l D cT mA mref mscr msz mspot mgood mleft mread mnow mtri mdia macts mkept misk qp 1 (by first | assumption | omega)) (cwV 1 C.1.2.2.2.2 gX5_save_X5_refused rfl rfl rfl n_X5_refused ⟨Nat.le_of_ble_eq_true rfl, Nat.le_of_ble_eq_true rfl⟩) rfl rfl [0] [1, 2, 3] rfl rfl ⟨by decide, by decide⟩ (by decide) [3, 0, 1, 2] (fun u8 => [(mA, cMo u8 mscr msz mspot mgood mleft mread mnow mtri mdia macts mkept misk qp), (mnow, aI (cT 0) 104 f), (mkept, aI (cT 0) 208 fk), (misk, aN (cT 1) 2 sk)]) (fun _ => rfl) (by decide) rfl rfl (Nat.le_of_ble_eq_true rfl) ⟨Nat.zero_le _, Nat.zero_le _⟩ dX5_save_16 (fun r16 u8 h7 => ?_)
    obtain ⟨h7, h7m⟩ := h7
    have h7 := h7.trans (if_neg (by decide))
    subst h7
    subst h7m
    refine r_zeqN (pc := 19) (tgt := 24) C (by omega) dX5_save_19 (by decide) (fun h => absurd h (by decide)) (fun _ => ?_)
    refine r_ic (pc := 22) (v := nI 0) C rfl dX5_save_22 ?_
    subst hQ
    exact e_iW C hr hk (Nat.le_refl _) (Nat.le_refl _) ⟨1, fk, sk⟩ rfl (Or.inl ⟨rfl, h1, rfl, rfl⟩) dX5_save_23

theorem iX5_restore_X5 : ∀ w ∈ u_ws RX5 TX5 14, w ∈ wsX5_restore := by decide +kernel
abbrev rmX5_restore : Room := { frames := 1, cells := 0, slots := 0, locals := 25 }
theorem n_X5_restore : yX5_restore.cls = RX5 ∧ yX5_restore.cls ≠ "java/lang/invoke/MethodHandle" ∧ yX5_restore.cls ≠ "java/lang/invoke/VarHandle" ∧ (parseMethodDescriptor yX5_restore.desc).map (fun d => d.parameters.length) = some 1 := by decide +kernel
set_option maxHeartbeats 4000000 in
set_option maxRecDepth 100000 in
theorem k_X5_restore (l : Launch) (D : va_G) (cT : Nat → ClassId) (mA mref mscr msz mspot mgood mleft mread mnow mtri mdia macts mkept misk qp : Nat) (fn fk : Nat → Int32) (sk : Nat → Nat) (x : Int32) (hsk : ∀ k, k < 2 → sk k < 2) : MWi (S := Nat × Nat × (Nat → Int32)) l D cT yX5_restore wsX5_restore rmX5_restore [.ref mA, .int x] [(mA, cMo mref mscr msz mspot mgood mleft mread mnow mtri mdia macts mkept misk qp), (mnow, aI (cT 0) 104 fn), (mkept, aI (cT 0) 208 fk), (misk, aN (cT 1) 2 sk)] (fun r w9 => (w9.1 = 1 ∧ ¬ CIn 2 x ∧ w9.2.1 = macts ∧ w9.2.2 = fn) ∨ (w9.1 = 2 ∧ (∃ j, x = nI j ∧ j < 2 ∧ sk j = 0) ∧ w9.2.1 = macts ∧ w9.2.2 = fn) ∨ (w9.1 = 0 ∧ ∃ j, x = nI j ∧ j < 2 ∧ ¬ sk j = 0 ∧ w9.2.1 = 0 ∧ w9.2.2 = cpF fk fn (104 * j) 0 104 ∧ r = w9.2.2 4)) (fun w9 => [(mA, cMo w9.1 mscr msz mspot mgood mleft mread mnow mtri mdia w9.2.1 mkept misk qp), (mnow, aI (cT 0) 104 w9.2.2), (mkept, aI (cT 0) 208 fk), (misk, aN (cT 1) 2 sk)]) 0 0 := by
  refine m_Wi [(0, .ref mA), (1, .int x)] (by decide +kernel) rfl (Nat.le_of_ble_eq_true rfl) rfl ?_
  intro p e s m args below meth c A hAe C hA hr hk hnm_
  generalize hQ : MQ below (va_Qi _ _ A) args s 0 0 A = Q
  refine r_aln (pc := 0) C 0 rfl dX5_restore_0 ?_
  refine r_iln (pc := 1) C 1 rfl dX5_restore_1 ?_
  refine r_i2l (pc := 2) C rfl dX5_restore_2 ?_
  refine r_lc (pc := 3) (v := 0) C rfl dX5_restore_3 ?_
  refine r_lc (pc := 4) (v := 1) C rfl dX5_restore_4 ?_
  refine c_RS (pc := 5) (As := [.long x.toInt64, .long 0, .long 1]) (wc := [])  C (k_X5_in l D cT x.toInt64 0 1) (va_cwS 3 C.1.2.2.2.2 gX5_restore_X5_in rfl rfl rfl n_X5_in ⟨Nat.le_of_ble_eq_true rfl, Nat.le_of_ble_eq_true rfl⟩) [] rfl rfl rfl (Nat.le_of_ble_eq_true rfl) ⟨Nat.zero_le _, Nat.zero_le _⟩ dX5_restore_5 (fun r5 h1 => ?_)
  rcases h1 with ⟨rfl, h1⟩ | ⟨rfl, h1⟩
  · obtain ⟨h1j, rfl, h1l⟩ := (in_lit (n := 1) (by decide) (by decide)).mp h1
    refine r_zneN (pc := 8) (tgt := 15) C (by first | omega | (have := hsk _ (by assumption); omega)) dX5_restore_8 (by decide) (fun _ => ?_) (fun h => absurd h (by decide))
    refine r_aln (pc := 15) C 0 rfl dX5_restore_15 ?_
    refine r_get (pc := 16) C iX5_restore_X5 0 rfl rfl 12 (by decide) (mw 1 rfl) rfl rfl dX5_restore_16 ?_
    refine r_iln (pc := 19) C 1 rfl dX5_restore_19 ?_
    refine r_zalN (pc := 20) C 3 rfl (by first | omega | (have := hsk _ (by assumption); omega)) (by decide) dX5_restore_20 ?_
    refine r_zeqN (pc := 21) (tgt := 28) C (by first | omega | (have := hsk _ (by assumption); omega)) dX5_restore_21 (by decide) (fun c21 => ?_) (fun c21 => ?_)
    · refine r_ic (pc := 28) (v := nI 2) C rfl dX5_restore_28 ?_
      refine c_WVi (pc := 29) (As := [.int (nI 2)]) (wc := [(mA, cMo mref mscr msz mspot mgood mleft mread mnow mtri mdia macts mkept misk qp)]) (wr := [(mnow, aI (cT 0) 104 fn), (mkept, aI (cT 0) 208 fk), (misk, aN (cT 1) 2 sk)]) (qr := 0) C hA (k_X5_refused l D cT mA mref mscr msz mspot mgood mleft mread mnow mtri mdia macts mkept misk qp 2 (by first | assumption | omega)) (cwV 1 C.1.2.2.2.2 gX5_restore_X5_refused rfl rfl rfl n_X5_refused ⟨Nat.le_of_ble_eq_true rfl, Nat.le_of_ble_eq_true rfl⟩) rfl rfl [0] [1, 2, 3] rfl rfl ⟨by decide, by decide⟩ (by decide) [3, 0, 1, 2] (fun u3 => [(mA, cMo u3 mscr msz mspot mgood mleft mread mnow mtri mdia macts mkept misk qp), (mnow, aI (cT 0) 104 fn), (mkept, aI (cT 0) 208 fk), (misk, aN (cT 1) 2 sk)]) (fun _ => rfl) (by decide) rfl rfl (Nat.le_of_ble_eq_true rfl) ⟨Nat.zero_le _, Nat.zero_le _⟩ dX5_restore_29 (fun r29 u3 h2 => ?_)
      obtain ⟨h2, h2m⟩ := h2
      have h2 := h2.trans (if_neg (by decide))
      subst h2
      subst h2m
      refine r_zeqN (pc := 32) (tgt := 37) C (by first | omega | (have := hsk _ (by assumption); omega)) dX5_restore_32 (by decide) (fun h => absurd h (by decide)) (fun _ => ?_)
      refine r_ic (pc := 35) (v := nI 0) C rfl dX5_restore_35 ?_
      subst hQ
      exact e_iW C hr hk (Nat.le_refl _) (Nat.le_refl _) ⟨2, macts, fn⟩ rfl (Or.inr (Or.inl ⟨rfl, ⟨_, rfl, h1l, c21⟩, rfl, rfl⟩)) dX5_restore_36
    · refine r_ic (pc := 24) (v := nI 0) C rfl dX5_restore_24 ?_
      refine r_goto (pc := 25) (tgt := 29) C dX5_restore_25 (by decide) ?_
      refine c_WVi (pc := 29) (As := [.int (nI 0)]) (wc := [(mA, cMo mref mscr msz mspot mgood mleft mread mnow mtri mdia macts mkept misk qp)]) (wr := [(mnow, aI (cT 0) 104 fn), (mkept, aI (cT 0) 208 fk), (misk, aN (cT 1) 2 sk)]) (qr := 0) C hA (k_X5_refused l D cT mA mref mscr msz mspot mgood mleft mread mnow mtri mdia macts mkept misk qp 0 (by first | assumption | omega)) (cwV 1 C.1.2.2.2.2 gX5_restore_X5_refused rfl rfl rfl n_X5_refused ⟨Nat.le_of_ble_eq_true rfl, Nat.le_of_ble_eq_true rfl⟩) rfl rfl [0] [1, 2, 3] rfl rfl ⟨by decide, by decide⟩ (by decide) [3, 0, 1, 2] (fun u5 => [(mA, cMo u5 mscr msz mspot mgood mleft mread mnow mtri mdia macts mkept misk qp), (mnow, aI (cT 0) 104 fn), (mkept, aI (cT 0) 208 fk), (misk, aN (cT 1) 2 sk)]) (fun _ => rfl) (by decide) rfl rfl (Nat.le_of_ble_eq_true rfl) ⟨Nat.zero_le _, Nat.zero_le _⟩ dX5_restore_29 (fun r29 u5 h4 => ?_)
      obtain ⟨h4, h4m⟩ := h4
      have h4 := h4.trans (if_pos rfl)
      subst h4
      subst h4m
      refine r_zeqN (pc := 32) (tgt := 37) C (by first | omega | (have := hsk _ (by assumption); omega)) dX5_restore_32 (by decide) (fun _ => ?_) (fun h => absurd h (by decide))
      refine r_aln (pc := 37) C 0 rfl dX5_restore_37 ?_
      refine r_get (pc := 38) C iX5_restore_X5 0 rfl rfl 11 (by decide) (mw 2 rfl) rfl rfl dX5_restore_38 ?_
      refine r_bi (pc := 41) (v := nI 104) C rfl dX5_restore_41 ?_
      refine r_iln (pc := 43) C 1 rfl dX5_restore_43 ?_
      refine r_imulN (pc := 44) C dX5_restore_44 ?_
      refine r_aln (pc := 45) C 0 rfl dX5_restore_45 ?_
      refine r_get (pc := 46) C iX5_restore_X5 0 rfl rfl 7 (by decide) (mw 3 rfl) rfl rfl dX5_restore_46 ?_
      refine r_ic (pc := 49) (v := nI 0) C rfl dX5_restore_49 ?_
      refine r_bi (pc := 50) (v := nI 104) C rfl dX5_restore_50 ?_
      refine c_WSv (pc := 52) (As := [.ref mkept, .int (nI (104 * h1j)), .ref mnow, .int (nI 0), .int (nI 104)]) (wc := [(mkept, aI (cT 0) 208 fk), (mnow, aI (cT 0) 104 fn)]) (wr := [(mA, cMo 0 mscr msz mspot mgood mleft mread mnow mtri mdia macts mkept misk qp), (misk, aN (cT 1) 2 sk)])  C hA (k_X5_copy l D cT mkept 208 fk mnow 104 fn (104 * h1j) 0 104 (⟨by decide, by decide⟩) (by omega) (by decide)) (va_cwS 5 C.1.2.2.2.2 gX5_restore_X5_copy rfl rfl rfl n_X5_copy ⟨Nat.le_of_ble_eq_true rfl, Nat.le_of_ble_eq_true rfl⟩) [2, 1] [0, 3] rfl rfl ⟨by decide, by decide⟩ (by decide) [0, 3, 2, 1] (fun u7 => [(mA, cMo 0 mscr msz mspot mgood mleft mread mnow mtri mdia macts mkept misk qp), (mnow, aI (cT 0) 104 u7), (mkept, aI (cT 0) 208 fk), (misk, aN (cT 1) 2 sk)]) (fun _ => rfl) (by decide) rfl rfl (Nat.le_of_ble_eq_true rfl) ⟨Nat.zero_le _, Nat.zero_le _⟩ dX5_restore_52 (fun u7 h6 => ?_)
      obtain ⟨m8, rfl⟩ : ∃ z, z = u7 := ⟨_, rfl⟩
      try dsimp only at h6
      subst h6
      refine r_aln (pc := 55) C 0 rfl dX5_restore_55 ?_
      refine r_ic (pc := 56) (v := nI 0) C rfl dX5_restore_56 ?_
      refine r_put (pc := 57) (ws2 := [(mA, cMo 0 mscr msz mspot mgood mleft mread mnow mtri mdia 0 mkept misk qp), (mnow, aI (cT 0) 104 (cpF fk fn (104 * h1j) 0 104)), (mkept, aI (cT 0) 208 fk), (misk, aN (cT 1) 2 sk)]) C iX5_restore_X5 tyX5_ok nmX5 0 rfl rfl 10 (by decide) (mw 4 rfl) rfl rfl rfl rfl (Nat.le_of_ble_eq_true rfl) rfl dX5_restore_57 ?_
      refine r_aln (pc := 60) C 0 rfl dX5_restore_60 ?_
      refine r_get (pc := 61) C iX5_restore_X5 0 rfl rfl 7 (by decide) (mw 3 rfl) rfl rfl dX5_restore_61 ?_
      refine r_ic (pc := 64) (v := nI 4) C rfl dX5_restore_64 ?_
      refine r_ialI (pc := 65) C 1 rfl (by first | omega | (have := hsk _ (by assumption); omega)) (by first | omega | (have := hsk _ (by assumption); omega)) dX5_restore_65 ?_
      subst hQ
      exact e_iW C hr hk (Nat.le_refl _) (Nat.le_refl _) ⟨0, 0, cpF fk fn (104 * h1j) 0 104⟩ rfl (Or.inr (Or.inr ⟨rfl, _, rfl, h1l, by omega, rfl, rfl, rfl⟩)) dX5_restore_66
  · have h1 := fun g => h1 ((in_lit (n := 1) (by decide) (by decide)).mpr g)
    refine r_zneN (pc := 8) (tgt := 15) C (by first | omega | (have := hsk _ (by assumption); omega)) dX5_restore_8 (by decide) (fun h => absurd h (by decide)) (fun _ => ?_)
    refine r_ic (pc := 11) (v := nI 1) C rfl dX5_restore_11 ?_
    refine r_goto (pc := 12) (tgt := 29) C dX5_restore_12 (by decide) ?_
    refine c_WVi (pc := 29) (As := [.int (nI 1)]) (wc := [(mA, cMo mref mscr msz mspot mgood mleft mread mnow mtri mdia macts mkept misk qp)]) (wr := [(mnow, aI (cT 0) 104 fn), (mkept, aI (cT 0) 208 fk), (misk, aN (cT 1) 2 sk)]) (qr := 0) C hA (k_X5_refused l D cT mA mref mscr msz mspot mgood mleft mread mnow mtri mdia macts mkept misk qp 1 (by first | assumption | omega)) (cwV 1 C.1.2.2.2.2 gX5_restore_X5_refused rfl rfl rfl n_X5_refused ⟨Nat.le_of_ble_eq_true rfl, Nat.le_of_ble_eq_true rfl⟩) rfl rfl [0] [1, 2, 3] rfl rfl ⟨by decide, by decide⟩ (by decide) [3, 0, 1, 2] (fun u10 => [(mA, cMo u10 mscr msz mspot mgood mleft mread mnow mtri mdia macts mkept misk qp), (mnow, aI (cT 0) 104 fn), (mkept, aI (cT 0) 208 fk), (misk, aN (cT 1) 2 sk)]) (fun _ => rfl) (by decide) rfl rfl (Nat.le_of_ble_eq_true rfl) ⟨Nat.zero_le _, Nat.zero_le _⟩ dX5_restore_29 (fun r29 u10 h9 => ?_)
    obtain ⟨h9, h9m⟩ := h9
    have h9 := h9.trans (if_neg (by decide))
    subst h9
    subst h9m
    refine r_zeqN (pc := 32) (tgt := 37) C (by first | omega | (have := hsk _ (by assumption); omega)) dX5_restore_32 (by decide) (fun h => absurd h (by decide)) (fun _ => ?_)
    refine r_ic (pc := 35) (v := nI 0) C rfl dX5_restore_35 ?_
    subst hQ
    exact e_iW C hr hk (Nat.le_refl _) (Nat.le_refl _) ⟨1, macts, fn⟩ rfl (Or.inl ⟨rfl, h1, rfl, rfl⟩) dX5_restore_36

theorem iX5_connects_X5 : ∀ w ∈ u_ws RX5 TX5 14, w ∈ wsX5_connects := by decide +kernel
abbrev rmX5_connects : Room := { frames := 8, cells := 0, slots := 0, locals := 192 }
theorem n_X5_connects : yX5_connects.cls = RX5 ∧ yX5_connects.cls ≠ "java/lang/invoke/MethodHandle" ∧ yX5_connects.cls ≠ "java/lang/invoke/VarHandle" ∧ (parseMethodDescriptor yX5_connects.desc).map (fun d => d.parameters.length) = some 2 := by decide +kernel
set_option maxHeartbeats 4000000 in
set_option maxRecDepth 100000 in
theorem k_X5_connects (l : Launch) (D : va_G) (cT : Nat → ClassId) (mA mref mscr msz mspot mgood mleft mread mnow mtri mdia macts mkept misk qp : Nat) (pl f : Nat → Int32) (x y : Nat) (u : SS) (hR : RowQ f u) (hJ : JQ u) (hx : x < 1000000000) (hy : y < 1000000000) : MWi (S := (Nat → Int32) × (Nat → Int32)) l D cT yX5_connects wsX5_connects rmX5_connects [.ref mA, .int (nI x), .int (nI y)] [(mA, cMo mref mscr msz mspot mgood mleft mread mnow mtri mdia macts mkept misk qp), (qp, aI (cT 0) 16 pl), (mtri, aI (cT 0) 104 f)] (fun r w9 => ∃ r0 v, ACs u (nI x) (nI y) r0 v ∧ RowQ w9.2 v ∧ r = B01 r0) (fun w9 => [(mA, cMo mref mscr msz mspot mgood mleft mread mnow mtri mdia macts mkept misk qp), (qp, aI (cT 0) 16 w9.1), (mtri, aI (cT 0) 104 w9.2)]) 0 0 := by
  refine m_Wi [(0, .ref mA), (1, .int (nI x)), (2, .int (nI y))] (by decide +kernel) rfl (Nat.le_of_ble_eq_true rfl) rfl ?_
  intro p e s m args below meth c A hAe C hA hr hk hnm_
  generalize hQ : MQ below (va_Qi _ _ A) args s 0 0 A = Q
  have hB := bd_of hJ
  obtain ⟨hF, hW, hM, hL, hPa, hBr, hCn, hFL, hE⟩ := id hB
  have hFW1 := mul44 hF hW
  have hLW1 := mul44 hL hW
  refine r_iln (pc := 0) C 1 rfl dX5_connects_0 ?_
  refine r_aln (pc := 1) C 0 rfl dX5_connects_1 ?_
  refine r_get (pc := 2) C iX5_connects_X5 0 rfl rfl 8 (by decide) (mw 1 rfl) rfl rfl dX5_connects_2 ?_
  refine c_RS (pc := 5) (As := [.ref mtri]) (wc := [(mtri, aI (cT 0) 104 f)])  C (k_X5_inputs l D cT mtri f u (by first | assumption | omega) (by first | assumption | omega)) (va_cwS 1 C.1.2.2.2.2 gX5_connects_X5_inputs rfl rfl rfl n_X5_inputs ⟨Nat.le_of_ble_eq_true rfl, Nat.le_of_ble_eq_true rfl⟩) [2] rfl rfl rfl (Nat.le_of_ble_eq_true rfl) ⟨Nat.zero_le _, Nat.zero_le _⟩ dX5_connects_5 (fun r5 h1 => ?_)
  subst h1
  refine r_cgeN (pc := 8) (tgt := 40) C (by omega) (by omega) dX5_connects_8 (by decide) (fun c8 => ?_) (fun c8 => ?_)
  · refine r_ic (pc := 40) (v := nI 0) C rfl dX5_connects_40 ?_
    subst hQ
    exact e_zW C hr hk rfl (Nat.le_refl _) (Nat.le_refl _) ⟨pl, f⟩ rfl (⟨-2, u, ac_out (fun g => cin_no (by omega) (by omega) g.1), hR, b01_0 (by decide)⟩) dX5_connects_41
  · refine r_iln (pc := 11) C 2 rfl dX5_connects_11 ?_
    refine r_aln (pc := 12) C 0 rfl dX5_connects_12 ?_
    refine r_get (pc := 13) C iX5_connects_X5 0 rfl rfl 8 (by decide) (mw 1 rfl) rfl rfl dX5_connects_13 ?_
    refine c_RS (pc := 16) (As := [.ref mtri]) (wc := [(mtri, aI (cT 0) 104 f)])  C (k_X5_outputs l D cT mtri f u (by first | assumption | omega) (by first | assumption | omega)) (va_cwS 1 C.1.2.2.2.2 gX5_connects_X5_outputs rfl rfl rfl n_X5_outputs ⟨Nat.le_of_ble_eq_true rfl, Nat.le_of_ble_eq_true rfl⟩) [2] rfl rfl rfl (Nat.le_of_ble_eq_true rfl) ⟨Nat.zero_le _, Nat.zero_le _⟩ dX5_connects_16 (fun r16 h2 => ?_)
    subst h2
    refine r_cgeN (pc := 19) (tgt := 40) C (by omega) (by omega) dX5_connects_19 (by decide) (fun c19 => ?_) (fun c19 => ?_)
    · refine r_ic (pc := 40) (v := nI 0) C rfl dX5_connects_40 ?_
      subst hQ
      exact e_zW C hr hk rfl (Nat.le_refl _) (Nat.le_refl _) ⟨pl, f⟩ rfl (⟨-2, u, ac_out (fun g => cin_no (by omega) (by omega) g.2), hR, b01_0 (by decide)⟩) dX5_connects_41
    · refine r_aln (pc := 22) C 0 rfl dX5_connects_22 ?_
      refine r_aln (pc := 23) C 0 rfl dX5_connects_23 ?_
      refine r_get (pc := 24) C iX5_connects_X5 0 rfl rfl 8 (by decide) (mw 1 rfl) rfl rfl dX5_connects_24 ?_
      refine r_iln (pc := 27) C 1 rfl dX5_connects_27 ?_
      refine r_iln (pc := 28) C 2 rfl dX5_connects_28 ?_
      refine c_WVi (pc := 29) (As := [.ref mtri, .int (nI x), .int (nI y)]) (wc := [(mA, cMo mref mscr msz mspot mgood mleft mread mnow mtri mdia macts mkept misk qp), (qp, aI (cT 0) 16 pl), (mtri, aI (cT 0) 104 f)]) (wr := []) (qr := 0) C hA (k_X5_connectIn l D cT mA mref mscr msz mspot mgood mleft mread mnow mtri mdia macts mkept misk qp pl mtri f x y u hR hJ (by omega) (by omega)) (cwV 3 C.1.2.2.2.2 gX5_connects_X5_connectIn rfl rfl rfl n_X5_connectIn ⟨Nat.le_of_ble_eq_true rfl, Nat.le_of_ble_eq_true rfl⟩) rfl rfl [0, 1, 2] [] rfl rfl ⟨by decide, by decide⟩ (by decide) [0, 1, 2] (fun u4 => [(mA, cMo mref mscr msz mspot mgood mleft mread mnow mtri mdia macts mkept misk qp), (qp, aI (cT 0) 16 u4.1), (mtri, aI (cT 0) 104 u4.2)]) (fun _ => rfl) (by decide) rfl rfl (Nat.le_of_ble_eq_true rfl) ⟨Nat.zero_le _, Nat.zero_le _⟩ dX5_connects_29 (fun r29 u4 h3 => ?_)
      obtain ⟨h30, h3v, h3, h3R, h3Q⟩ := h3
      refine r_ic (pc := 32) (v := (-1)) C rfl dX5_connects_32 ?_
      refine r_ceq (pc := 33) (tgt := 40) C dX5_connects_33 (by decide) (fun c33 => ?_) (fun c33 => ?_)
      · refine r_ic (pc := 40) (v := nI 0) C rfl dX5_connects_40 ?_
        subst hQ
        exact e_zW C hr hk rfl (Nat.le_refl _) (Nat.le_refl _) ⟨u4.1, u4.2⟩ rfl (⟨_, _, h3, h3R, b01_r0 h3Q c33⟩) dX5_connects_41
      · refine r_ic (pc := 36) (v := nI 1) C rfl dX5_connects_36 ?_
        refine r_goto (pc := 37) (tgt := 41) C dX5_connects_37 (by decide) ?_
        subst hQ
        exact e_zW C hr hk rfl (Nat.le_refl _) (Nat.le_refl _) ⟨u4.1, u4.2⟩ rfl (⟨_, _, h3, h3R, b01_r1 h3Q c33⟩) dX5_connects_41

theorem iX5_joins_X5 : ∀ w ∈ u_ws RX5 TX5 14, w ∈ wsX5_joins := by decide +kernel
abbrev rmX5_joins : Room := { frames := 8, cells := 0, slots := 0, locals := 191 }
theorem n_X5_joins : yX5_joins.cls = RX5 ∧ yX5_joins.cls ≠ "java/lang/invoke/MethodHandle" ∧ yX5_joins.cls ≠ "java/lang/invoke/VarHandle" ∧ (parseMethodDescriptor yX5_joins.desc).map (fun d => d.parameters.length) = some 2 := by decide +kernel
set_option maxHeartbeats 4000000 in
set_option maxRecDepth 100000 in
theorem k_X5_joins (l : Launch) (D : va_G) (cT : Nat → ClassId) (mA mref mscr msz mspot mgood mleft mread mnow mtri mdia macts mkept misk qp : Nat) (pl f : Nat → Int32) (x y : Nat) (u : SS) (hR : RowQ f u) (hJ : JQ u) (hx : x < 1000000000) (hy : y < 1000000000) : MWi (S := (Nat → Int32) × (Nat → Int32)) l D cT yX5_joins wsX5_joins rmX5_joins [.ref mA, .int (nI x), .int (nI y)] [(mA, cMo mref mscr msz mspot mgood mleft mread mnow mtri mdia macts mkept misk qp), (qp, aI (cT 0) 16 pl), (mtri, aI (cT 0) 104 f)] (fun r w9 => ∃ r0 v, AOs u (nI x) (nI y) r0 v ∧ RowQ w9.2 v ∧ r = B01 r0) (fun w9 => [(mA, cMo mref mscr msz mspot mgood mleft mread mnow mtri mdia macts mkept misk qp), (qp, aI (cT 0) 16 w9.1), (mtri, aI (cT 0) 104 w9.2)]) 0 0 := by
  refine m_Wi [(0, .ref mA), (1, .int (nI x)), (2, .int (nI y))] (by decide +kernel) rfl (Nat.le_of_ble_eq_true rfl) rfl ?_
  intro p e s m args below meth c A hAe C hA hr hk hnm_
  generalize hQ : MQ below (va_Qi _ _ A) args s 0 0 A = Q
  have hB := bd_of hJ
  obtain ⟨hF, hW, hM, hL, hPa, hBr, hCn, hFL, hE⟩ := id hB
  have hFW1 := mul44 hF hW
  have hLW1 := mul44 hL hW
  refine r_iln (pc := 0) C 1 rfl dX5_joins_0 ?_
  refine r_aln (pc := 1) C 0 rfl dX5_joins_1 ?_
  refine r_get (pc := 2) C iX5_joins_X5 0 rfl rfl 8 (by decide) (mw 1 rfl) rfl rfl dX5_joins_2 ?_
  refine r_ic (pc := 5) (v := nI 4) C rfl dX5_joins_5 ?_
  refine r_ialI (pc := 6) C 2 rfl (by omega) (by decide) dX5_joins_6 ?_
  refine r_v (y := nI u.cnt) hR.1.2.2.2.2.1 ?_
  refine r_cgeN (pc := 7) (tgt := 39) C (by omega) (by omega) dX5_joins_7 (by decide) (fun c7 => ?_) (fun c7 => ?_)
  · refine r_ic (pc := 39) (v := nI 0) C rfl dX5_joins_39 ?_
    subst hQ
    exact e_zW C hr hk rfl (Nat.le_refl _) (Nat.le_refl _) ⟨pl, f⟩ rfl (⟨-2, u, ao_out2 (fun g => cin_no (by omega) (by omega) g.1), hR, b01_0 (by decide)⟩) dX5_joins_40
  · refine r_iln (pc := 10) C 2 rfl dX5_joins_10 ?_
    refine r_aln (pc := 11) C 0 rfl dX5_joins_11 ?_
    refine r_get (pc := 12) C iX5_joins_X5 0 rfl rfl 8 (by decide) (mw 1 rfl) rfl rfl dX5_joins_12 ?_
    refine c_RS (pc := 15) (As := [.ref mtri]) (wc := [(mtri, aI (cT 0) 104 f)])  C (k_X5_outputs l D cT mtri f u (by first | assumption | omega) (by first | assumption | omega)) (va_cwS 1 C.1.2.2.2.2 gX5_joins_X5_outputs rfl rfl rfl n_X5_outputs ⟨Nat.le_of_ble_eq_true rfl, Nat.le_of_ble_eq_true rfl⟩) [2] rfl rfl rfl (Nat.le_of_ble_eq_true rfl) ⟨Nat.zero_le _, Nat.zero_le _⟩ dX5_joins_15 (fun r15 h1 => ?_)
    subst h1
    refine r_cgeN (pc := 18) (tgt := 39) C (by omega) (by omega) dX5_joins_18 (by decide) (fun c18 => ?_) (fun c18 => ?_)
    · refine r_ic (pc := 39) (v := nI 0) C rfl dX5_joins_39 ?_
      subst hQ
      exact e_zW C hr hk rfl (Nat.le_refl _) (Nat.le_refl _) ⟨pl, f⟩ rfl (⟨-2, u, ao_out2 (fun g => cin_no (by omega) (by omega) g.2), hR, b01_0 (by decide)⟩) dX5_joins_40
    · refine r_aln (pc := 21) C 0 rfl dX5_joins_21 ?_
      refine r_aln (pc := 22) C 0 rfl dX5_joins_22 ?_
      refine r_get (pc := 23) C iX5_joins_X5 0 rfl rfl 8 (by decide) (mw 1 rfl) rfl rfl dX5_joins_23 ?_
      refine r_iln (pc := 26) C 1 rfl dX5_joins_26 ?_
      refine r_iln (pc := 27) C 2 rfl dX5_joins_27 ?_
      refine c_WVi (pc := 28) (As := [.ref mtri, .int (nI x), .int (nI y)]) (wc := [(mA, cMo mref mscr msz mspot mgood mleft mread mnow mtri mdia macts mkept misk qp), (qp, aI (cT 0) 16 pl), (mtri, aI (cT 0) 104 f)]) (wr := []) (qr := 0) C hA (k_X5_joinIn l D cT mA mref mscr msz mspot mgood mleft mread mnow mtri mdia macts mkept misk qp pl mtri f x y u hR hJ (by omega) (by omega)) (cwV 3 C.1.2.2.2.2 gX5_joins_X5_joinIn rfl rfl rfl n_X5_joinIn ⟨Nat.le_of_ble_eq_true rfl, Nat.le_of_ble_eq_true rfl⟩) rfl rfl [0, 1, 2] [] rfl rfl ⟨by decide, by decide⟩ (by decide) [0, 1, 2] (fun u3 => [(mA, cMo mref mscr msz mspot mgood mleft mread mnow mtri mdia macts mkept misk qp), (qp, aI (cT 0) 16 u3.1), (mtri, aI (cT 0) 104 u3.2)]) (fun _ => rfl) (by decide) rfl rfl (Nat.le_of_ble_eq_true rfl) ⟨Nat.zero_le _, Nat.zero_le _⟩ dX5_joins_28 (fun r28 u3 h2 => ?_)
      obtain ⟨h20, h2v, h2, h2R, h2Q⟩ := h2
      refine r_ic (pc := 31) (v := (-1)) C rfl dX5_joins_31 ?_
      refine r_ceq (pc := 32) (tgt := 39) C dX5_joins_32 (by decide) (fun c32 => ?_) (fun c32 => ?_)
      · refine r_ic (pc := 39) (v := nI 0) C rfl dX5_joins_39 ?_
        subst hQ
        exact e_zW C hr hk rfl (Nat.le_refl _) (Nat.le_refl _) ⟨u3.1, u3.2⟩ rfl (⟨_, _, h2, h2R, b01_r0 h2Q c32⟩) dX5_joins_40
      · refine r_ic (pc := 35) (v := nI 1) C rfl dX5_joins_35 ?_
        refine r_goto (pc := 36) (tgt := 40) C dX5_joins_36 (by decide) ?_
        subst hQ
        exact e_zW C hr hk rfl (Nat.le_refl _) (Nat.le_refl _) ⟨u3.1, u3.2⟩ rfl (⟨_, _, h2, h2R, b01_r1 h2Q c32⟩) dX5_joins_40

theorem iX5_hangs_X5 : ∀ w ∈ u_ws RX5 TX5 14, w ∈ wsX5_hangs := by decide +kernel
abbrev rmX5_hangs : Room := { frames := 2, cells := 0, slots := 0, locals := 46 }
theorem n_X5_hangs : yX5_hangs.cls = RX5 ∧ yX5_hangs.cls ≠ "java/lang/invoke/MethodHandle" ∧ yX5_hangs.cls ≠ "java/lang/invoke/VarHandle" ∧ (parseMethodDescriptor yX5_hangs.desc).map (fun d => d.parameters.length) = some 1 := by decide +kernel
set_option maxHeartbeats 4000000 in
set_option maxRecDepth 100000 in
theorem k_X5_hangs (l : Launch) (D : va_G) (cT : Nat → ClassId) (mA mref mscr msz mspot mgood mleft mread mnow mtri mdia macts mkept misk qp : Nat) (f : Nat → Int32) (x : Nat) (u : SS) (hR : RowQ f u) (hJ : JQ u) (hx : x < 1000000000) : MWi (S := (Nat → Int32)) l D cT yX5_hangs wsX5_hangs rmX5_hangs [.ref mA, .int (nI x)] [(mA, cMo mref mscr msz mspot mgood mleft mread mnow mtri mdia macts mkept misk qp), (mtri, aI (cT 0) 104 f)] (fun r w9 => ∃ r0 v, HGs u (nI x) r0 v ∧ RowQ w9 v ∧ r = B01 r0) (fun w9 => [(mA, cMo mref mscr msz mspot mgood mleft mread mnow mtri mdia macts mkept misk qp), (mtri, aI (cT 0) 104 w9)]) 0 0 := by
  refine m_Wi [(0, .ref mA), (1, .int (nI x))] (by decide +kernel) rfl (Nat.le_of_ble_eq_true rfl) rfl ?_
  intro p e s m args below meth c A hAe C hA hr hk hnm_
  generalize hQ : MQ below (va_Qi _ _ A) args s 0 0 A = Q
  have hB := bd_of hJ
  obtain ⟨hF, hW, hM, hL, hPa, hBr, hCn, hFL, hE⟩ := id hB
  have hFW1 := mul44 hF hW
  have hLW1 := mul44 hL hW
  refine r_iln (pc := 0) C 1 rfl dX5_hangs_0 ?_
  refine r_aln (pc := 1) C 0 rfl dX5_hangs_1 ?_
  refine r_get (pc := 2) C iX5_hangs_X5 0 rfl rfl 8 (by decide) (mw 1 rfl) rfl rfl dX5_hangs_2 ?_
  refine r_ic (pc := 5) (v := nI 4) C rfl dX5_hangs_5 ?_
  refine r_ialI (pc := 6) C 1 rfl (by omega) (by decide) dX5_hangs_6 ?_
  refine r_v (y := nI u.cnt) hR.1.2.2.2.2.1 ?_
  refine r_cltN (pc := 7) (tgt := 12) C (by omega) (by omega) dX5_hangs_7 (by decide) (fun c7 => ?_) (fun c7 => ?_)
  · refine r_aln (pc := 12) C 0 rfl dX5_hangs_12 ?_
    refine r_get (pc := 13) C iX5_hangs_X5 0 rfl rfl 8 (by decide) (mw 1 rfl) rfl rfl dX5_hangs_13 ?_
    refine r_iln (pc := 16) C 1 rfl dX5_hangs_16 ?_
    refine c_WSv (pc := 17) (As := [.ref mtri, .int (nI x)]) (wc := [(mtri, aI (cT 0) 104 f)]) (wr := [(mA, cMo mref mscr msz mspot mgood mleft mread mnow mtri mdia macts mkept misk qp)])  C hA (k_X5_hangIn l D cT mtri f x u hR hB (by omega)) (va_cwS 2 C.1.2.2.2.2 gX5_hangs_X5_hangIn rfl rfl rfl n_X5_hangIn ⟨Nat.le_of_ble_eq_true rfl, Nat.le_of_ble_eq_true rfl⟩) [1] [0] rfl rfl ⟨by decide, by decide⟩ (by decide) [0, 1] (fun u2 => [(mA, cMo mref mscr msz mspot mgood mleft mread mnow mtri mdia macts mkept misk qp), (mtri, aI (cT 0) 104 u2)]) (fun _ => rfl) (by decide) rfl rfl (Nat.le_of_ble_eq_true rfl) ⟨Nat.zero_le _, Nat.zero_le _⟩ dX5_hangs_17 (fun u2 h1 => ?_)
    refine r_ic (pc := 20) (v := nI 1) C rfl dX5_hangs_20 ?_
    subst hQ
    exact e_zW C hr hk rfl (Nat.le_refl _) (Nat.le_refl _) u2 rfl (⟨_, _, hg_ok (by omega), h1, b01_1 (nI_pos (by omega))⟩) dX5_hangs_21
  · refine r_ic (pc := 10) (v := nI 0) C rfl dX5_hangs_10 ?_
    subst hQ
    exact e_zW C hr hk rfl (Nat.le_refl _) (Nat.le_refl _) f rfl (⟨-2, u, hg_out2 (cin_no (by omega) (by omega)), hR, b01_0 (by decide)⟩) dX5_hangs_11

theorem iX5_drops_X5 : ∀ w ∈ u_ws RX5 TX5 14, w ∈ wsX5_drops := by decide +kernel
abbrev rmX5_drops : Room := { frames := 3, cells := 0, slots := 0, locals := 66 }
theorem n_X5_drops : yX5_drops.cls = RX5 ∧ yX5_drops.cls ≠ "java/lang/invoke/MethodHandle" ∧ yX5_drops.cls ≠ "java/lang/invoke/VarHandle" ∧ (parseMethodDescriptor yX5_drops.desc).map (fun d => d.parameters.length) = some 1 := by decide +kernel
set_option maxHeartbeats 4000000 in
set_option maxRecDepth 100000 in
theorem k_X5_drops (l : Launch) (D : va_G) (cT : Nat → ClassId) (mA mref mscr msz mspot mgood mleft mread mnow mtri mdia macts mkept misk qp : Nat) (f : Nat → Int32) (y : Nat) (u : SS) (hR : RowQ f u) (hJ : JQ u) (hy : y < 1000000000) : MWi (S := (Nat → Int32)) l D cT yX5_drops wsX5_drops rmX5_drops [.ref mA, .int (nI y)] [(mA, cMo mref mscr msz mspot mgood mleft mread mnow mtri mdia macts mkept misk qp), (mtri, aI (cT 0) 104 f)] (fun r w9 => ∃ r0 v, DRs u (nI y) r0 v ∧ RowQ w9 v ∧ r = B01 r0) (fun w9 => [(mA, cMo mref mscr msz mspot mgood mleft mread mnow mtri mdia macts mkept misk qp), (mtri, aI (cT 0) 104 w9)]) 0 0 := by
  refine m_Wi [(0, .ref mA), (1, .int (nI y))] (by decide +kernel) rfl (Nat.le_of_ble_eq_true rfl) rfl ?_
  intro p e s m args below meth c A hAe C hA hr hk hnm_
  generalize hQ : MQ below (va_Qi _ _ A) args s 0 0 A = Q
  have hB := bd_of hJ
  obtain ⟨hF, hW, hM, hL, hPa, hBr, hCn, hFL, hE⟩ := id hB
  have hFW1 := mul44 hF hW
  have hLW1 := mul44 hL hW
  refine r_iln (pc := 0) C 1 rfl dX5_drops_0 ?_
  refine r_aln (pc := 1) C 0 rfl dX5_drops_1 ?_
  refine r_get (pc := 2) C iX5_drops_X5 0 rfl rfl 8 (by decide) (mw 1 rfl) rfl rfl dX5_drops_2 ?_
  refine c_RS (pc := 5) (As := [.ref mtri]) (wc := [(mtri, aI (cT 0) 104 f)])  C (k_X5_outputs l D cT mtri f u (by first | assumption | omega) (by first | assumption | omega)) (va_cwS 1 C.1.2.2.2.2 gX5_drops_X5_outputs rfl rfl rfl n_X5_outputs ⟨Nat.le_of_ble_eq_true rfl, Nat.le_of_ble_eq_true rfl⟩) [1] rfl rfl rfl (Nat.le_of_ble_eq_true rfl) ⟨Nat.zero_le _, Nat.zero_le _⟩ dX5_drops_5 (fun r5 h1 => ?_)
  subst h1
  refine r_cgeN (pc := 8) (tgt := 22) C (by omega) (by omega) dX5_drops_8 (by decide) (fun c8 => ?_) (fun c8 => ?_)
  · refine r_ic (pc := 22) (v := nI 0) C rfl dX5_drops_22 ?_
    subst hQ
    exact e_zW C hr hk rfl (Nat.le_refl _) (Nat.le_refl _) f rfl (⟨-2, u, dr_out (cin_no (by omega) (by omega)), hR, b01_0 (by decide)⟩) dX5_drops_23
  · refine r_aln (pc := 11) C 0 rfl dX5_drops_11 ?_
    refine r_get (pc := 12) C iX5_drops_X5 0 rfl rfl 8 (by decide) (mw 1 rfl) rfl rfl dX5_drops_12 ?_
    refine r_iln (pc := 15) C 1 rfl dX5_drops_15 ?_
    refine c_RS (pc := 16) (As := [.ref mtri, .int (nI y)]) (wc := [(mtri, aI (cT 0) 104 f)])  C (k_X5_canDrop l D cT mtri f y u hR hJ (by omega)) (va_cwS 2 C.1.2.2.2.2 gX5_drops_X5_canDrop rfl rfl rfl n_X5_canDrop ⟨Nat.le_of_ble_eq_true rfl, Nat.le_of_ble_eq_true rfl⟩) [1] rfl rfl rfl (Nat.le_of_ble_eq_true rfl) ⟨Nat.zero_le _, Nat.zero_le _⟩ dX5_drops_16 (fun r16 h2 => ?_)
    rcases h2 with ⟨rfl, h2c, h2l, h2b, h2⟩ | ⟨rfl, h2⟩
    · refine r_zneN (pc := 19) (tgt := 24) C (by omega) dX5_drops_19 (by decide) (fun _ => ?_) (fun h => absurd h (by decide))
      refine r_aln (pc := 24) C 0 rfl dX5_drops_24 ?_
      refine r_get (pc := 25) C iX5_drops_X5 0 rfl rfl 8 (by decide) (mw 1 rfl) rfl rfl dX5_drops_25 ?_
      refine r_iln (pc := 28) C 1 rfl dX5_drops_28 ?_
      refine c_WSi (pc := 29) (As := [.ref mtri, .int (nI y)]) (wc := [(mtri, aI (cT 0) 104 f)]) (wr := [(mA, cMo mref mscr msz mspot mgood mleft mread mnow mtri mdia macts mkept misk qp)])  C hA (k_X5_dropIn l D cT mtri f y u h2c hR hJ (by omega) h2l h2b) (va_cwS 2 C.1.2.2.2.2 gX5_drops_X5_dropIn rfl rfl rfl n_X5_dropIn ⟨Nat.le_of_ble_eq_true rfl, Nat.le_of_ble_eq_true rfl⟩) [1] [0] rfl rfl ⟨by decide, by decide⟩ (by decide) [0, 1] (fun u4 => [(mA, cMo mref mscr msz mspot mgood mleft mread mnow mtri mdia macts mkept misk qp), (mtri, aI (cT 0) 104 u4)]) (fun _ => rfl) (by decide) rfl rfl (Nat.le_of_ble_eq_true rfl) ⟨Nat.zero_le _, Nat.zero_le _⟩ dX5_drops_29 (fun r29 u4 h3 => ?_)
      obtain ⟨rfl, h3⟩ := h3
      refine r_pop (pc := 32) C rfl dX5_drops_32 ?_
      refine r_ic (pc := 33) (v := nI 1) C rfl dX5_drops_33 ?_
      subst hQ
      exact e_zW C hr hk rfl (Nat.le_refl _) (Nat.le_refl _) u4 rfl (⟨_, _, dr_ok hJ (by omega) h2l h2b h2, h3, b01_1 (nI_pos (Nat.lt_of_le_of_lt (pcTo_le _ 16) (by decide)))⟩) dX5_drops_34
    · refine r_zneN (pc := 19) (tgt := 24) C (by omega) dX5_drops_19 (by decide) (fun h => absurd h (by decide)) (fun _ => ?_)
      refine r_ic (pc := 22) (v := nI 0) C rfl dX5_drops_22 ?_
      subst hQ
      exact e_zW C hr hk rfl (Nat.le_refl _) (Nat.le_refl _) f rfl (⟨-3, u, dr_no hJ (by omega) h2, hR, b01_0 (by decide)⟩) dX5_drops_23

theorem iX5_breaks_X5 : ∀ w ∈ u_ws RX5 TX5 14, w ∈ wsX5_breaks := by decide +kernel
abbrev rmX5_breaks : Room := { frames := 2, cells := 0, slots := 0, locals := 44 }
theorem n_X5_breaks : yX5_breaks.cls = RX5 ∧ yX5_breaks.cls ≠ "java/lang/invoke/MethodHandle" ∧ yX5_breaks.cls ≠ "java/lang/invoke/VarHandle" ∧ (parseMethodDescriptor yX5_breaks.desc).map (fun d => d.parameters.length) = some 2 := by decide +kernel
set_option maxHeartbeats 4000000 in
set_option maxRecDepth 100000 in
theorem k_X5_breaks (l : Launch) (D : va_G) (cT : Nat → ClassId) (mA mref mscr msz mspot mgood mleft mread mnow mtri mdia macts mkept misk qp : Nat) (f : Nat → Int32) (mb b : Nat) (u : SS) (hR : RowQ f u) (hJ : JQ u) (hmb : mb < 1000000000) (hb : b < 10) : MWi (S := (Nat → Int32)) l D cT yX5_breaks wsX5_breaks rmX5_breaks [.ref mA, .int (nI mb), .int (nI b)] [(mA, cMo mref mscr msz mspot mgood mleft mread mnow mtri mdia macts mkept misk qp), (mtri, aI (cT 0) 104 f)] (fun r w9 => BRq u mb b r w9) (fun w9 => [(mA, cMo mref mscr msz mspot mgood mleft mread mnow mtri mdia macts mkept misk qp), (mtri, aI (cT 0) 104 w9)]) 0 0 := by
  refine m_Wi [(0, .ref mA), (1, .int (nI mb)), (2, .int (nI b))] (by decide +kernel) rfl (Nat.le_of_ble_eq_true rfl) rfl ?_
  intro p e s m args below meth c A hAe C hA hr hk hnm_
  generalize hQ : MQ below (va_Qi _ _ A) args s 0 0 A = Q
  have hB := bd_of hJ
  obtain ⟨hF, hW, hM, hL, hPa, hBr, hCn, hFL, hE⟩ := id hB
  have hFW1 := mul44 hF hW
  have hLW1 := mul44 hL hW
  refine r_iln (pc := 0) C 1 rfl dX5_breaks_0 ?_
  refine r_aln (pc := 1) C 0 rfl dX5_breaks_1 ?_
  refine r_get (pc := 2) C iX5_breaks_X5 0 rfl rfl 8 (by decide) (mw 1 rfl) rfl rfl dX5_breaks_2 ?_
  refine r_ic (pc := 5) (v := nI 2) C rfl dX5_breaks_5 ?_
  refine r_ialI (pc := 6) C 1 rfl (by omega) (by decide) dX5_breaks_6 ?_
  refine r_v (y := nI u.mid) hR.1.2.2.1 ?_
  refine r_cgeN (pc := 7) (tgt := 31) C (by omega) (by omega) dX5_breaks_7 (by decide) (fun c7 => ?_) (fun c7 => ?_)
  · refine r_ic (pc := 31) (v := nI 0) C rfl dX5_breaks_31 ?_
    subst hQ
    exact e_zW C hr hk rfl (Nat.le_refl _) (Nat.le_refl _) f rfl (by rcases Nat.lt_or_ge 1 b with q | q; exact Or.inr ⟨q, rfl, hR⟩; exact Or.inl ⟨q, -2, u, bk_out (cin_no (by omega) (by omega)), hR, b01_0 (by decide)⟩) dX5_breaks_32
  · refine r_iln (pc := 10) C 2 rfl dX5_breaks_10 ?_
    refine r_ic (pc := 11) (v := nI 1) C rfl dX5_breaks_11 ?_
    refine r_cgtN (pc := 12) (tgt := 31) C (by omega) (by omega) dX5_breaks_12 (by decide) (fun c12 => ?_) (fun c12 => ?_)
    · refine r_ic (pc := 31) (v := nI 0) C rfl dX5_breaks_31 ?_
      subst hQ
      exact e_zW C hr hk rfl (Nat.le_refl _) (Nat.le_refl _) f rfl (Or.inr ⟨by omega, rfl, hR⟩) dX5_breaks_32
    · refine r_iln (pc := 15) C 2 rfl dX5_breaks_15 ?_
      refine r_ic (pc := 16) (v := nI 1) C rfl dX5_breaks_16 ?_
      refine r_cneN (pc := 17) (tgt := 33) C (by omega) (by omega) dX5_breaks_17 (by decide) (fun c17 => ?_) (fun c17 => ?_)
      · refine r_aln (pc := 33) C 0 rfl dX5_breaks_33 ?_
        refine r_get (pc := 34) C iX5_breaks_X5 0 rfl rfl 8 (by decide) (mw 1 rfl) rfl rfl dX5_breaks_34 ?_
        refine r_iln (pc := 37) C 1 rfl dX5_breaks_37 ?_
        refine r_iln (pc := 38) C 2 rfl dX5_breaks_38 ?_
        refine r_ic (pc := 39) (v := nI 1) C rfl dX5_breaks_39 ?_
        refine r_cneN (pc := 40) (tgt := 47) C (by omega) (by omega) dX5_breaks_40 (by decide) (fun c40 => ?_) (fun c40 => ?_)
        · refine r_ic (pc := 47) (v := nI 0) C rfl dX5_breaks_47 ?_
          refine c_WSv (pc := 48) (As := [.ref mtri, .int (nI mb), .int (nI 0)]) (wc := [(mtri, aI (cT 0) 104 f)]) (wr := [(mA, cMo mref mscr msz mspot mgood mleft mread mnow mtri mdia macts mkept misk qp)])  C hA (k_X5_breakIn l D cT mtri f mb 0 u hR hB (by omega) (by decide)) (va_cwS 3 C.1.2.2.2.2 gX5_breaks_X5_breakIn rfl rfl rfl n_X5_breakIn ⟨Nat.le_of_ble_eq_true rfl, Nat.le_of_ble_eq_true rfl⟩) [1] [0] rfl rfl ⟨by decide, by decide⟩ (by decide) [0, 1] (fun u2 => [(mA, cMo mref mscr msz mspot mgood mleft mread mnow mtri mdia macts mkept misk qp), (mtri, aI (cT 0) 104 u2)]) (fun _ => rfl) (by decide) rfl rfl (Nat.le_of_ble_eq_true rfl) ⟨Nat.zero_le _, Nat.zero_le _⟩ dX5_breaks_48 (fun u2 h1 => ?_)
          refine r_ic (pc := 51) (v := nI 1) C rfl dX5_breaks_51 ?_
          subst hQ
          exact e_zW C hr hk rfl (Nat.le_refl _) (Nat.le_refl _) u2 rfl (Or.inl ⟨by omega, _, _, bk_ok (by omega) (fun q => by omega), (show b = 0 by omega) ▸ h1, b01_1 (nI_pos (Nat.lt_of_le_of_lt (pcTo_le _ 16) (by decide)))⟩) dX5_breaks_52
        · refine r_ic (pc := 43) (v := nI 1) C rfl dX5_breaks_43 ?_
          refine r_goto (pc := 44) (tgt := 48) C dX5_breaks_44 (by decide) ?_
          refine c_WSv (pc := 48) (As := [.ref mtri, .int (nI mb), .int (nI 1)]) (wc := [(mtri, aI (cT 0) 104 f)]) (wr := [(mA, cMo mref mscr msz mspot mgood mleft mread mnow mtri mdia macts mkept misk qp)])  C hA (k_X5_breakIn l D cT mtri f mb 1 u hR hB (by omega) (by decide)) (va_cwS 3 C.1.2.2.2.2 gX5_breaks_X5_breakIn rfl rfl rfl n_X5_breakIn ⟨Nat.le_of_ble_eq_true rfl, Nat.le_of_ble_eq_true rfl⟩) [1] [0] rfl rfl ⟨by decide, by decide⟩ (by decide) [0, 1] (fun u4 => [(mA, cMo mref mscr msz mspot mgood mleft mread mnow mtri mdia macts mkept misk qp), (mtri, aI (cT 0) 104 u4)]) (fun _ => rfl) (by decide) rfl rfl (Nat.le_of_ble_eq_true rfl) ⟨Nat.zero_le _, Nat.zero_le _⟩ dX5_breaks_48 (fun u4 h3 => ?_)
          refine r_ic (pc := 51) (v := nI 1) C rfl dX5_breaks_51 ?_
          subst hQ
          exact e_zW C hr hk rfl (Nat.le_refl _) (Nat.le_refl _) u4 rfl (Or.inl ⟨by omega, _, _, bk_ok (by omega) (fun q => by omega), (show b = 1 by omega) ▸ h3, b01_1 (nI_pos (Nat.lt_of_le_of_lt (pcTo_le _ 16) (by decide)))⟩) dX5_breaks_52
      · refine r_aln (pc := 20) C 0 rfl dX5_breaks_20 ?_
        refine r_get (pc := 21) C iX5_breaks_X5 0 rfl rfl 8 (by decide) (mw 1 rfl) rfl rfl dX5_breaks_21 ?_
        refine r_iln (pc := 24) C 1 rfl dX5_breaks_24 ?_
        refine c_RS (pc := 25) (As := [.ref mtri, .int (nI mb)]) (wc := [(mtri, aI (cT 0) 104 f)])  C (k_X5_canBreak l D cT mtri f mb u hR hJ (by omega)) (va_cwS 2 C.1.2.2.2.2 gX5_breaks_X5_canBreak rfl rfl rfl n_X5_canBreak ⟨Nat.le_of_ble_eq_true rfl, Nat.le_of_ble_eq_true rfl⟩) [1] rfl rfl rfl (Nat.le_of_ble_eq_true rfl) ⟨Nat.zero_le _, Nat.zero_le _⟩ dX5_breaks_25 (fun r25 h5 => ?_)
        rcases h5 with ⟨rfl, h5⟩ | ⟨rfl, h5⟩
        · refine r_zneN (pc := 28) (tgt := 33) C (by omega) dX5_breaks_28 (by decide) (fun _ => ?_) (fun h => absurd h (by decide))
          refine r_aln (pc := 33) C 0 rfl dX5_breaks_33 ?_
          refine r_get (pc := 34) C iX5_breaks_X5 0 rfl rfl 8 (by decide) (mw 1 rfl) rfl rfl dX5_breaks_34 ?_
          refine r_iln (pc := 37) C 1 rfl dX5_breaks_37 ?_
          refine r_iln (pc := 38) C 2 rfl dX5_breaks_38 ?_
          refine r_ic (pc := 39) (v := nI 1) C rfl dX5_breaks_39 ?_
          refine r_cneN (pc := 40) (tgt := 47) C (by omega) (by omega) dX5_breaks_40 (by decide) (fun c40 => ?_) (fun c40 => ?_)
          · refine r_ic (pc := 47) (v := nI 0) C rfl dX5_breaks_47 ?_
            refine c_WSv (pc := 48) (As := [.ref mtri, .int (nI mb), .int (nI 0)]) (wc := [(mtri, aI (cT 0) 104 f)]) (wr := [(mA, cMo mref mscr msz mspot mgood mleft mread mnow mtri mdia macts mkept misk qp)])  C hA (k_X5_breakIn l D cT mtri f mb 0 u hR hB (by omega) (by decide)) (va_cwS 3 C.1.2.2.2.2 gX5_breaks_X5_breakIn rfl rfl rfl n_X5_breakIn ⟨Nat.le_of_ble_eq_true rfl, Nat.le_of_ble_eq_true rfl⟩) [1] [0] rfl rfl ⟨by decide, by decide⟩ (by decide) [0, 1] (fun u7 => [(mA, cMo mref mscr msz mspot mgood mleft mread mnow mtri mdia macts mkept misk qp), (mtri, aI (cT 0) 104 u7)]) (fun _ => rfl) (by decide) rfl rfl (Nat.le_of_ble_eq_true rfl) ⟨Nat.zero_le _, Nat.zero_le _⟩ dX5_breaks_48 (fun u7 h6 => ?_)
            refine r_ic (pc := 51) (v := nI 1) C rfl dX5_breaks_51 ?_
            subst hQ
            exact e_zW C hr hk rfl (Nat.le_refl _) (Nat.le_refl _) u7 rfl (Or.inl ⟨by omega, _, _, bk_ok (by omega) (fun _ => h5), (show b = 0 by omega) ▸ h6, b01_1 (nI_pos (Nat.lt_of_le_of_lt (pcTo_le _ 16) (by decide)))⟩) dX5_breaks_52
          · refine r_ic (pc := 43) (v := nI 1) C rfl dX5_breaks_43 ?_
            refine r_goto (pc := 44) (tgt := 48) C dX5_breaks_44 (by decide) ?_
            refine c_WSv (pc := 48) (As := [.ref mtri, .int (nI mb), .int (nI 1)]) (wc := [(mtri, aI (cT 0) 104 f)]) (wr := [(mA, cMo mref mscr msz mspot mgood mleft mread mnow mtri mdia macts mkept misk qp)])  C hA (k_X5_breakIn l D cT mtri f mb 1 u hR hB (by omega) (by decide)) (va_cwS 3 C.1.2.2.2.2 gX5_breaks_X5_breakIn rfl rfl rfl n_X5_breakIn ⟨Nat.le_of_ble_eq_true rfl, Nat.le_of_ble_eq_true rfl⟩) [1] [0] rfl rfl ⟨by decide, by decide⟩ (by decide) [0, 1] (fun u9 => [(mA, cMo mref mscr msz mspot mgood mleft mread mnow mtri mdia macts mkept misk qp), (mtri, aI (cT 0) 104 u9)]) (fun _ => rfl) (by decide) rfl rfl (Nat.le_of_ble_eq_true rfl) ⟨Nat.zero_le _, Nat.zero_le _⟩ dX5_breaks_48 (fun u9 h8 => ?_)
            refine r_ic (pc := 51) (v := nI 1) C rfl dX5_breaks_51 ?_
            subst hQ
            exact e_zW C hr hk rfl (Nat.le_refl _) (Nat.le_refl _) u9 rfl (Or.inl ⟨by omega, _, _, bk_ok (by omega) (fun _ => h5), (show b = 1 by omega) ▸ h8, b01_1 (nI_pos (Nat.lt_of_le_of_lt (pcTo_le _ 16) (by decide)))⟩) dX5_breaks_52
        · refine r_zneN (pc := 28) (tgt := 33) C (by omega) dX5_breaks_28 (by decide) (fun h => absurd h (by decide)) (fun _ => ?_)
          refine r_ic (pc := 31) (v := nI 0) C rfl dX5_breaks_31 ?_
          subst hQ
          exact e_zW C hr hk rfl (Nat.le_refl _) (Nat.le_refl _) f rfl (Or.inl ⟨by omega, -3, u, bk_no (by omega) (by omega) h5, hR, b01_0 (by decide)⟩) dX5_breaks_32

theorem iX5_waits_X5 : ∀ w ∈ u_ws RX5 TX5 14, w ∈ wsX5_waits := by decide +kernel
abbrev rmX5_waits : Room := { frames := 0, cells := 0, slots := 0, locals := 0 }
theorem n_X5_waits : yX5_waits.cls = RX5 ∧ yX5_waits.cls ≠ "java/lang/invoke/MethodHandle" ∧ yX5_waits.cls ≠ "java/lang/invoke/VarHandle" ∧ (parseMethodDescriptor yX5_waits.desc).map (fun d => d.parameters.length) = some 1 := by decide +kernel
set_option maxHeartbeats 4000000 in
set_option maxRecDepth 100000 in
theorem k_X5_waits (l : Launch) (D : va_G) (cT : Nat → ClassId) (mA mref mscr msz mspot mgood mleft mread mnow mtri mdia macts mkept misk qp : Nat) (f : Nat → Int32) (x : Nat) (u : SS) (hR : RowQ f u) (hJ : JQ u) (hx : x < 10) : MWi (S := (Nat → Int32)) l D cT yX5_waits wsX5_waits rmX5_waits [.ref mA, .int (nI x)] [(mA, cMo mref mscr msz mspot mgood mleft mread mnow mtri mdia macts mkept misk qp), (mtri, aI (cT 0) 104 f)] (fun r w9 => (x ≤ 3 ∧ r = nI 1 ∧ RowQ w9 (patU u x)) ∨ (3 < x ∧ r = nI 0 ∧ RowQ w9 u)) (fun w9 => [(mA, cMo mref mscr msz mspot mgood mleft mread mnow mtri mdia macts mkept misk qp), (mtri, aI (cT 0) 104 w9)]) 0 0 := by
  refine m_Wi [(0, .ref mA), (1, .int (nI x))] (by decide +kernel) rfl (Nat.le_of_ble_eq_true rfl) rfl ?_
  intro p e s m args below meth c A hAe C hA hr hk hnm_
  generalize hQ : MQ below (va_Qi _ _ A) args s 0 0 A = Q
  have hB := bd_of hJ
  obtain ⟨hF, hW, hM, hL, hPa, hBr, hCn, hFL, hE⟩ := id hB
  have hFW1 := mul44 hF hW
  have hLW1 := mul44 hL hW
  refine r_iln (pc := 0) C 1 rfl dX5_waits_0 ?_
  refine r_ic (pc := 1) (v := nI 3) C rfl dX5_waits_1 ?_
  refine r_cleN (pc := 2) (tgt := 7) C (by omega) (by omega) dX5_waits_2 (by decide) (fun c2 => ?_) (fun c2 => ?_)
  · refine r_aln (pc := 7) C 0 rfl dX5_waits_7 ?_
    refine r_get (pc := 8) C iX5_waits_X5 0 rfl rfl 8 (by decide) (mw 1 rfl) rfl rfl dX5_waits_8 ?_
    refine r_ic (pc := 11) (v := nI 5) C rfl dX5_waits_11 ?_
    refine r_iln (pc := 12) C 1 rfl dX5_waits_12 ?_
    refine r_iasI (pc := 13) (ws2 := [(mA, cMo mref mscr msz mspot mgood mleft mread mnow mtri mdia macts mkept misk qp), (mtri, aI (cT 0) 104 (upd f 5 (nI x)))]) C 1 rfl (by omega) (by decide) rfl dX5_waits_13 ?_
    refine r_ic (pc := 14) (v := nI 1) C rfl dX5_waits_14 ?_
    subst hQ
    exact e_zW C hr hk rfl (Nat.le_refl _) (Nat.le_refl _) (upd f 5 (nI x)) rfl (Or.inl ⟨by omega, rfl, rq_pat hR⟩) dX5_waits_15
  · refine r_ic (pc := 5) (v := nI 0) C rfl dX5_waits_5 ?_
    subst hQ
    exact e_zW C hr hk rfl (Nat.le_refl _) (Nat.le_refl _) f rfl (Or.inr ⟨by omega, rfl, hR⟩) dX5_waits_6

