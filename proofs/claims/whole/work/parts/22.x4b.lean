/-! what would be: sums over pairs of boards, the weakest board -/
theorem nI_m2 {n : Nat} (h : n < 2147483648) : ¬ nI n = -2 := by
  intro e
  have h2 : (-2 : Int32) = nI 4294967294 := by decide
  have h1 : (nI n).toInt = (nI 4294967294).toInt := by rw [e, h2]
  have h3 : (nI 4294967294).toInt = -2 := by decide
  have h4 : (nI n).toInt = (n : Int) := nI_toInt h
  omega
theorem xe_no {E : String} {n : Nat} (h : n < 2147483648) (g : XE E (nI n)) : False := g.elim (fun g => nI_m2 h g.1) (fun g => nI_m3 h g.1)
abbrev FI (wid cnt : Nat) (inp : Nat → Nat) (a : Nat) : Nat := sumTo (fun i => if anyTo (fun c => decide (inp c = a * wid + i)) cnt = true then 0 else 1) wid
abbrev FO (wid cnt : Nat) (outs : Nat → Nat) (b : Nat) : Nat := sumTo (fun i => if anyTo (fun c => (outs c).testBit (b * wid + i)) cnt = true then 0 else 1) wid
theorem pos_l {a b : Nat} (h : 0 < a * b) : a ≠ 0 := fun e => by rw [e, Nat.zero_mul] at h; exact absurd h (Nat.lt_irrefl _)
theorem f01_le {p : Nat → Prop} [∀ i, Decidable (p i)] {n : Nat} : sumTo (fun i => if p i then 0 else 1) n ≤ n := by
  have h := sumTo_le (f := fun i => if p i then 0 else 1) (b := 1) (n := n) (fun k _ => by show (if p k then 0 else 1) ≤ 1; split <;> omega)
  omega
theorem ob_lt {a b w : Nat} (hw : w ≤ 4) (ha : a ≤ w) (hb : b ≤ w) : a * b < 2147483648 := by
  have := Nat.mul_le_mul (Nat.le_trans ha hw) (Nat.le_trans hb hw)
  omega
abbrev OPN (wid mid bro cnt : Nat) (inp outs brd : Nat → Nat) (a b : Nat) (π : Nat → Nat) (k : Nat) : Prop := Opt (cnt + 1) (fun j => (wo (2 ^ mid - 1) bro).testBit j) (frN cnt wid inp a) (toN cnt wid outs b) (bfN cnt brd) π k
abbrev PLN (wid mid pat bro cnt : Nat) (inp outs brd : Nat → Nat) (a b : Nat) (r : Int32) (bs : Nat → Int32) : Prop := PlanR (cnt + 1) (fun j => (wo (2 ^ mid - 1) bro).testBit j) (frN cnt wid inp a) (toN cnt wid outs b) (bfN cnt brd) pat r bs
noncomputable def obV (wid mid pat bro cnt : Nat) (inp outs brd : Nat → Nat) (most a b : Nat) : Nat :=
  if FI wid cnt inp a * FO wid cnt outs b = 0 then 0 else @ite Nat (∃ k π, k ≤ pat ∧ k ≤ most ∧ OPN wid mid bro cnt inp outs brd a b π k) (Classical.propDecidable _) (FI wid cnt inp a * FO wid cnt outs b) 0
theorem planR_opt {n : Nat} {al : Nat → Bool} {fr to : Nat → Nat} {bf bs : Nat → Int32} {lim : Nat} {r : Int32} (h : PlanR n al fr to bf lim r bs) {k : Nat} {π : Nat → Nat} (ho : Opt n al fr to bf π k) (hk : k ≤ lim) : r = nI k := by
  rcases h with ⟨-, g⟩ | ⟨j, ρ, e, -, g, -⟩
  · have := g π ho.1
    have := ho.2.1
    omega
  · rw [e, (opt_unique g ho).1]
theorem ob_0 {wid mid pat bro cnt : Nat} {inp outs brd : Nat → Nat} {most a b : Nat} (h : FI wid cnt inp a * FO wid cnt outs b = 0) : obV wid mid pat bro cnt inp outs brd most a b = 0 := if_pos h
theorem ob_m1 {wid mid pat bro cnt : Nat} {inp outs brd : Nat → Nat} {most a b : Nat} {bs : Nat → Int32} {r : Int32} (hp : pat ≤ 3) (hP : PLN wid mid pat bro cnt inp outs brd a b r bs) (hr : r = -1) : obV wid mid pat bro cnt inp outs brd most a b = 0 := by
  unfold obV
  by_cases h : FI wid cnt inp a * FO wid cnt outs b = 0
  · rw [if_pos h]
  · rw [if_neg h]
    refine if_neg ?_
    rintro ⟨k, π, h1, h2, h3⟩
    exact nI_m1 (n := k) (by omega) ((planR_opt hP h3 h1).symm.trans hr)
theorem ob_gt {wid mid pat bro cnt : Nat} {inp outs brd : Nat → Nat} {most a b : Nat} {bs : Nat → Int32} {r : Int32} (hp : pat ≤ 3) (hm : most ≤ 3) (hP : PLN wid mid pat bro cnt inp outs brd a b r bs) (hr : nI most < r) : obV wid mid pat bro cnt inp outs brd most a b = 0 := by
  unfold obV
  by_cases h : FI wid cnt inp a * FO wid cnt outs b = 0
  · rw [if_pos h]
  · rw [if_neg h]
    refine if_neg ?_
    rintro ⟨k, π, h1, h2, h3⟩
    rw [planR_opt hP h3 h1, Int32.lt_iff_toInt_lt, nI_toInt (by omega), nI_toInt (by omega)] at hr
    omega
theorem ob_ok {wid mid pat bro cnt : Nat} {inp outs brd : Nat → Nat} {most a b : Nat} {bs : Nat → Int32} {r : Int32} (hp : pat ≤ 3) (hm : most ≤ 3) (h : 0 < FI wid cnt inp a * FO wid cnt outs b) (hP : PLN wid mid pat bro cnt inp outs brd a b r bs) (h1 : ¬ r = -1) (hr : ¬ nI most < r) : obV wid mid pat bro cnt inp outs brd most a b = FI wid cnt inp a * FO wid cnt outs b := by
  unfold obV
  rw [if_neg (Nat.ne_of_gt h)]
  refine if_pos ?_
  rcases hP with ⟨e, -⟩ | ⟨k, π, e, hk, ho, -⟩
  · exact absurd e h1
  · refine ⟨k, π, hk, ?_, ho⟩
    rw [e, Int32.lt_iff_toInt_lt, nI_toInt (by omega), nI_toInt (by omega)] at hr
    omega
theorem mv_le (b : Int32) (m : Nat) : mv b m ≤ 1 := by unfold mv; split <;> omega
theorem mvs_le (n : Nat) (bf : Nat → Int32) (π : Nat → Nat) : Mvs n bf π ≤ n := by
  have := sumTo_le (f := fun c => mv (bf c) (π c)) (b := 1) (n := n) (fun k _ => mv_le _ _)
  unfold Mvs
  omega
abbrev OPL (wid mid bro cnt : Nat) (inp outs brd : Nat → Nat) (j : Nat) (π : Nat → Nat) (k : Nat) : Prop := Opt cnt (fun i => (wo (wo (2 ^ mid - 1) bro) (2 ^ j)).testBit i) (fun c => 2 ^ (inp c / wid)) (fun c => lbs wid (outs c)) (fun c => nI (brd c)) π k
abbrev PLL (wid mid bro cnt : Nat) (inp outs brd : Nat → Nat) (j : Nat) (r : Int32) (bs : Nat → Int32) : Prop := PlanR cnt (fun i => (wo (wo (2 ^ mid - 1) bro) (2 ^ j)).testBit i) (fun c => 2 ^ (inp c / wid)) (fun c => lbs wid (outs c)) (fun c => nI (brd c)) 16 r bs
def WKI (wid mid bro cnt : Nat) (inp outs brd : Nat → Nat) (m : Nat) (fm wm : Int32) : Prop :=
  (fm = -1 ∧ wm = -1 ∧ ∀ j, j < m → bro.testBit j = false → ∀ π k, ¬ OPL wid mid bro cnt inp outs brd j π k) ∨
  ∃ k w π, fm = nI k ∧ k ≤ 16 ∧ wm = nI w ∧ w < m ∧ bro.testBit w = false ∧ OPL wid mid bro cnt inp outs brd w π k ∧ ∀ j, j < m → bro.testBit j = false → ∀ π' k', OPL wid mid bro cnt inp outs brd j π' k' → k ≤ k' ∧ (j < w → k < k')
section WK
variable {wid mid bro cnt : Nat} {inp outs brd : Nat → Nat} {m : Nat} {fm wm r : Int32} {bs : Nat → Int32}
theorem wk_0 : WKI wid mid bro cnt inp outs brd 0 (-1) (-1) := Or.inl ⟨rfl, rfl, fun j hj => absurd hj (Nat.not_lt_zero _)⟩
theorem wk_old (h : WKI wid mid bro cnt inp outs brd m fm wm) (hn : bro.testBit m = false → (∀ π k, ¬ OPL wid mid bro cnt inp outs brd m π k) ∨ ((¬ fm = -1) ∧ ∀ k, fm = nI k → k ≤ 16 → ∀ π' k', OPL wid mid bro cnt inp outs brd m π' k' → k ≤ k')) : WKI wid mid bro cnt inp outs brd (m + 1) fm wm := by
  rcases h with ⟨e1, e2, h⟩ | ⟨k, w, π, e1, hk, e2, hw, hb, ho, h⟩
  · refine Or.inl ⟨e1, e2, fun j hj hjb π k hO => ?_⟩
    rcases Nat.lt_succ_iff_lt_or_eq.mp hj with g | g
    · exact h j g hjb π k hO
    · subst g
      rcases hn hjb with q | q
      · exact q π k hO
      · exact q.1 e1
  · refine Or.inr ⟨k, w, π, e1, hk, e2, by omega, hb, ho, fun j hj hjb π' k' hO => ?_⟩
    rcases Nat.lt_succ_iff_lt_or_eq.mp hj with g | g
    · exact h j g hjb π' k' hO
    · subst g
      rcases hn hjb with q | q
      · exact absurd hO (q π' k')
      · exact ⟨q.2 k e1 hk π' k' hO, fun hl => by omega⟩
theorem wk_skip (h : WKI wid mid bro cnt inp outs brd m fm wm) (hb : bro.testBit m = true) : WKI wid mid bro cnt inp outs brd (m + 1) fm wm := wk_old h (fun g => by rw [hb] at g; cases g)
theorem wk_none (hc : cnt ≤ 16) (h : WKI wid mid bro cnt inp outs brd m fm wm) (hP : PLL wid mid bro cnt inp outs brd m r bs) (hr : r = -1) : WKI wid mid bro cnt inp outs brd (m + 1) fm wm := wk_old h (fun _ => Or.inl fun π k hO => by
  have h1 := mvs_le cnt (fun c => nI (brd c)) π
  have h2 : Mvs cnt (fun c => nI (brd c)) π = k := hO.2.1
  exact nI_m1 (n := k) (by omega) ((planR_opt hP hO (by omega)).symm.trans hr))
theorem opl_le (hc : cnt ≤ 16) {j k : Nat} {π : Nat → Nat} (hO : OPL wid mid bro cnt inp outs brd j π k) : k ≤ 16 := by
  have h1 := mvs_le cnt (fun c => nI (brd c)) π
  have h2 : Mvs cnt (fun c => nI (brd c)) π = k := hO.2.1
  omega
theorem wk_ge (hc : cnt ≤ 16) (h : WKI wid mid bro cnt inp outs brd m fm wm) (hP : PLL wid mid bro cnt inp outs brd m r bs) (hf : ¬ fm = -1) (hr : fm ≤ r) : WKI wid mid bro cnt inp outs brd (m + 1) fm wm := wk_old h (fun _ => Or.inr ⟨hf, fun k e hk π' k' hO => by
  have := opl_le hc hO
  rw [planR_opt hP hO (opl_le hc hO), e, Int32.le_iff_toInt_le, nI_toInt (by omega), nI_toInt (by omega)] at hr
  omega⟩)
theorem wk_new (hc : cnt ≤ 16) (h : WKI wid mid bro cnt inp outs brd m fm wm) (hb : bro.testBit m = false) (hP : PLL wid mid bro cnt inp outs brd m r bs) (h1 : ¬ r = -1) (hr : fm = -1 ∨ ¬ fm ≤ r) : WKI wid mid bro cnt inp outs brd (m + 1) r (nI m) := by
  rcases hP with ⟨e, -⟩ | ⟨k, π, e, hk, ho, hbs⟩
  · exact absurd e h1
  · refine Or.inr ⟨k, m, π, e, hk, rfl, by omega, hb, ho, fun j hj hjb π' k' hO => ?_⟩
    rcases Nat.lt_succ_iff_lt_or_eq.mp hj with g | g
    · rcases h with ⟨e1, e2, h⟩ | ⟨k0, w, π0, e1, hk0, e2, hw, hb0, ho0, h⟩
      · exact absurd hO (h j g hjb π' k')
      · have hlt : k < k0 := by
          rcases hr with q | q
          · exact absurd (e1.symm.trans q) (nI_m1 (by omega))
          · rw [e, e1, Int32.le_iff_toInt_le, nI_toInt (by omega), nI_toInt (by omega)] at q
            omega
        have := (h j g hjb π' k' hO).1
        exact ⟨by omega, fun _ => by omega⟩
    · subst g
      have := (opt_unique ho hO).1
      exact ⟨by omega, fun hl => by omega⟩
end WK

theorem iX4_setPatience_X4 : ∀ w ∈ u_ws RX4 TX4 7, w ∈ wsX4_setPatience := by decide +kernel
theorem aX4_setPatience_56 : ∀ w ∈ (vx_atS RX4 56 xIA xN2).filter goodWord, w ∈ wsX4_setPatience := by decide +kernel
abbrev rmX4_setPatience : Room := { frames := 7, cells := 1, slots := 6, locals := 106 }
theorem n_X4_setPatience : yX4_setPatience.cls = RX4 ∧ yX4_setPatience.cls ≠ "java/lang/invoke/MethodHandle" ∧ yX4_setPatience.cls ≠ "java/lang/invoke/VarHandle" ∧ (parseMethodDescriptor yX4_setPatience.desc).map (fun d => d.parameters.length) = some 1 := by decide +kernel
set_option maxHeartbeats 4000000 in
set_option maxRecDepth 100000 in
theorem k_X4_setPatience (l : Launch) (D : va_G) (cT : Nat → ClassId) (sa : Nat → Nat) (hlt : l.stackTraces = false) (sw sA sC ha aS aH q ra hka ho hs fst wid mid las pat bro mov cnt sI sO sB sM sG sW : Nat) (inp outs brd mvd got owe : Nat → Nat) (ad hS : Nat → Nat → Nat) (hT : Nat → Nat → Nat → Nat) (x : Int32) (hPa : pat ≤ 3) (hh1 : ho < 15) (hh2 : hs ≤ 14) : MX (S := Nat × Nat × Nat × (Nat → Nat → Nat) × (Nat → Nat → Nat → Nat)) (SX := Nat × Nat × Nat × (Nat → Nat → Nat) × (Nat → Nat → Nat → Nat)) l D cT sa yX4_setPatience wsX4_setPatience rmX4_setPatience [.ref sw, .int x] ([(sw, cSw sA sC ha aS aH q ra), (ha, cHi hka ho hs), (hka, aR (cT 3) 15 (fun k => some (ad k 0))), (sA, cSt fst wid mid las pat bro mov cnt sI sO sB sM sG sW), (sI, aN (cT 0) 16 inp), (sO, aN (cT 0) 16 outs), (sB, aN (cT 0) 16 brd), (sM, aN (cT 0) 16 mvd), (sG, aN (cT 0) 16 got), (sW, aN (cT 0) 16 owe)] ++ HY cT ad hS hT) (fun r u => ∃ j, x = nI j ∧ j ≤ 3 ∧ r = nI pat ∧ u.2.2.1 = j ∧ KN ho hs u.1 u.2.1 ∧ u.2.2.2.1 = hup hS ((ho + hs) % 15) (mkI fst wid mid las pat bro mov cnt) ∧ u.2.2.2.2 = hup hT ((ho + hs) % 15) (mkT inp outs brd mvd got owe)) (fun u => ([(sw, cSw sA sC ha aS aH q ra), (ha, cHi hka u.1 u.2.1), (hka, aR (cT 3) 15 (fun k => some (ad k 0))), (sA, cSt fst wid mid las u.2.2.1 bro mov cnt sI sO sB sM sG sW), (sI, aN (cT 0) 16 inp), (sO, aN (cT 0) 16 outs), (sB, aN (cT 0) 16 brd), (sM, aN (cT 0) 16 mvd), (sG, aN (cT 0) 16 got), (sW, aN (cT 0) 16 owe)] ++ HY cT ad u.2.2.2.1 u.2.2.2.2)) (fun E u => E = xIA ∧ ¬ CIn 4 x ∧ u.1 = ho ∧ u.2.1 = hs ∧ u.2.2.1 = pat ∧ u.2.2.2.1 = hS ∧ u.2.2.2.2 = hT) (fun u => ([(sw, cSw sA sC ha aS aH q ra), (ha, cHi hka u.1 u.2.1), (hka, aR (cT 3) 15 (fun k => some (ad k 0))), (sA, cSt fst wid mid las u.2.2.1 bro mov cnt sI sO sB sM sG sW), (sI, aN (cT 0) 16 inp), (sO, aN (cT 0) 16 outs), (sB, aN (cT 0) 16 brd), (sM, aN (cT 0) 16 mvd), (sG, aN (cT 0) 16 got), (sW, aN (cT 0) 16 owe)] ++ HY cT ad u.2.2.2.1 u.2.2.2.2)) 1 6 := by
  refine m_X [(0, .ref sw), (1, .int x)] (by decide +kernel) rfl (Nat.le_of_ble_eq_true rfl) rfl ?_
  intro p e s m args below meth c A hAe C hA hr hk htab hX
  generalize hQ : vx_MQ below (va_Qi _ _ A) (vx_X _ _ A) args s 1 6 A = Q
  refine r_iln (pc := 0) C 1 rfl dX4_setPatience_0 ?_
  refine r_zlt (pc := 1) (tgt := 9) C dX4_setPatience_1 (by decide) (fun c1 => ?_) (fun c1 => ?_)
  · subst hQ
    exact e_throw (is := 228) (cls := xIA) (text := "patience is 0 to 3") C rfl hA hlt hX htab hk (by decide +kernel) (mw 1 rfl) (mw 2 rfl) (by decide +kernel) (by decide +kernel) aX4_setPatience_56 xw_IA xg_IA (Nat.le_of_ble_eq_true rfl) (Nat.le_of_ble_eq_true rfl) (Nat.le_of_ble_eq_true rfl) (Nat.le_of_ble_eq_true rfl) (Nat.le_of_ble_eq_true rfl) (Nat.le_of_ble_eq_true rfl) ⟨ho, hs, pat, hS, hT⟩ rfl (⟨rfl, (fun ⟨k, hk, _⟩ => nI_pos (by omega) (hk ▸ c1)), rfl, rfl, rfl, rfl, rfl⟩) dX4_setPatience_9 dX4_setPatience_12 dX4_setPatience_13 dX4_setPatience_15 dX4_setPatience_18
  · obtain ⟨j1, hj1, rfl⟩ := nI_of c1
    refine r_iln (pc := 4) C 1 rfl dX4_setPatience_4 ?_
    refine r_ic (pc := 5) (v := nI 3) C rfl dX4_setPatience_5 ?_
    refine r_cleN (pc := 6) (tgt := 19) C (by omega) (by omega) dX4_setPatience_6 (by decide) (fun c6 => ?_) (fun c6 => ?_)
    · refine r_aln (pc := 19) C 0 rfl dX4_setPatience_19 ?_
      refine r_get (pc := 20) C iX4_setPatience_X4 0 rfl rfl 2 (by decide) (mw 3 rfl) rfl rfl dX4_setPatience_20 ?_
      refine r_aln (pc := 23) C 0 rfl dX4_setPatience_23 ?_
      refine r_get (pc := 24) C iX4_setPatience_X4 0 rfl rfl 0 (by decide) (mw 4 rfl) rfl rfl dX4_setPatience_24 ?_
      refine c_PVv (pc := 27) (As := [.ref sA]) (wc := ([(ha, cHi hka ho hs), (hka, aR (cT 3) 15 (fun k => some (ad k 0))), (sA, cSt fst wid mid las pat bro mov cnt sI sO sB sM sG sW), (sI, aN (cT 0) 16 inp), (sO, aN (cT 0) 16 outs), (sB, aN (cT 0) 16 brd), (sM, aN (cT 0) 16 mvd), (sG, aN (cT 0) 16 got), (sW, aN (cT 0) 16 owe)] ++ HY cT ad hS hT)) (qr := 0) C hA (k_X0_note l D cT ha hka ho hs sA fst wid mid las pat bro mov cnt sI sO sB sM sG sW inp outs brd mvd got owe ad hS hT (by first | assumption | omega) (by first | assumption | omega)) (cwV 1 C.1.2.2.2.2 gX4_setPatience_X0_note rfl rfl rfl n_X0_note ⟨Nat.le_of_ble_eq_true rfl, Nat.le_of_ble_eq_true rfl⟩) rfl rfl [(sw, cSw sA sC ha aS aH q ra)] (perm_z (Z := HY cT ad hS hT) (perm_idx (X := [(sw, cSw sA sC ha aS aH q ra), (ha, cHi hka ho hs), (hka, aR (cT 3) 15 (fun k => some (ad k 0))), (sA, cSt fst wid mid las pat bro mov cnt sI sO sB sM sG sW), (sI, aN (cT 0) 16 inp), (sO, aN (cT 0) 16 outs), (sB, aN (cT 0) 16 brd), (sM, aN (cT 0) 16 mvd), (sG, aN (cT 0) 16 got), (sW, aN (cT 0) 16 owe)]) (X2 := [(ha, cHi hka ho hs), (hka, aR (cT 3) 15 (fun k => some (ad k 0))), (sA, cSt fst wid mid las pat bro mov cnt sI sO sB sM sG sW), (sI, aN (cT 0) 16 inp), (sO, aN (cT 0) 16 outs), (sB, aN (cT 0) 16 brd), (sM, aN (cT 0) 16 mvd), (sG, aN (cT 0) 16 got), (sW, aN (cT 0) 16 owe)] ++ [(sw, cSw sA sC ha aS aH q ra)]) 10 [1, 2, 3, 4, 5, 6, 7, 8, 9, 0] rfl rfl (by decide))) (fun u2 => ([(sw, cSw sA sC ha aS aH q ra), (ha, cHi hka ho hs), (hka, aR (cT 3) 15 (fun k => some (ad k 0))), (sA, cSt fst wid mid las pat bro mov cnt sI sO sB sM sG sW), (sI, aN (cT 0) 16 inp), (sO, aN (cT 0) 16 outs), (sB, aN (cT 0) 16 brd), (sM, aN (cT 0) 16 mvd), (sG, aN (cT 0) 16 got), (sW, aN (cT 0) 16 owe)] ++ HY cT ad (hup hS ((ho + hs) % 15) (mkI fst wid mid las pat bro mov cnt)) (hup hT ((ho + hs) % 15) (mkT inp outs brd mvd got owe)))) (fun u2 => (perm_z2 (Z := HY cT ad (hup hS ((ho + hs) % 15) (mkI fst wid mid las pat bro mov cnt)) (hup hT ((ho + hs) % 15) (mkT inp outs brd mvd got owe))) (perm_idx (X := [(ha, cHi hka ho hs), (hka, aR (cT 3) 15 (fun k => some (ad k 0))), (sA, cSt fst wid mid las pat bro mov cnt sI sO sB sM sG sW), (sI, aN (cT 0) 16 inp), (sO, aN (cT 0) 16 outs), (sB, aN (cT 0) 16 brd), (sM, aN (cT 0) 16 mvd), (sG, aN (cT 0) 16 got), (sW, aN (cT 0) 16 owe)] ++ [(sw, cSw sA sC ha aS aH q ra)]) (X2 := [(sw, cSw sA sC ha aS aH q ra), (ha, cHi hka ho hs), (hka, aR (cT 3) 15 (fun k => some (ad k 0))), (sA, cSt fst wid mid las pat bro mov cnt sI sO sB sM sG sW), (sI, aN (cT 0) 16 inp), (sO, aN (cT 0) 16 outs), (sB, aN (cT 0) 16 brd), (sM, aN (cT 0) 16 mvd), (sG, aN (cT 0) 16 got), (sW, aN (cT 0) 16 owe)]) 10 [9, 0, 1, 2, 3, 4, 5, 6, 7, 8] rfl rfl (by decide)))) rfl rfl (Nat.le_of_ble_eq_true rfl) ⟨Nat.zero_le _, Nat.zero_le _⟩ dX4_setPatience_27 (fun u2 h1 => ?_)
      refine r_aln (pc := 30) C 0 rfl dX4_setPatience_30 ?_
      refine r_aln (pc := 31) C 0 rfl dX4_setPatience_31 ?_
      refine r_get (pc := 32) C iX4_setPatience_X4 0 rfl rfl 0 (by decide) (mw 4 rfl) rfl rfl dX4_setPatience_32 ?_
      refine r_iln (pc := 35) C 1 rfl dX4_setPatience_35 ?_
      refine c_PVi (pc := 36) (As := [.int (nI j1)]) (wc := [(sA, cSt fst wid mid las pat bro mov cnt sI sO sB sM sG sW)]) (qr := 0) C hA (k_X3_changePatience l D cT sA fst wid mid las pat bro mov cnt sI sO sB sM sG sW j1) (cwV 1 C.1.2.2.2.2 gX4_setPatience_X3_changePatience rfl rfl rfl n_X3_changePatience ⟨Nat.le_of_ble_eq_true rfl, Nat.le_of_ble_eq_true rfl⟩) rfl rfl ([(sw, cSw sA sC ha aS aH q ra), (ha, cHi hka ho hs), (hka, aR (cT 3) 15 (fun k => some (ad k 0))), (sI, aN (cT 0) 16 inp), (sO, aN (cT 0) 16 outs), (sB, aN (cT 0) 16 brd), (sM, aN (cT 0) 16 mvd), (sG, aN (cT 0) 16 got), (sW, aN (cT 0) 16 owe)] ++ HY cT ad (hup hS ((ho + hs) % 15) (mkI fst wid mid las pat bro mov cnt)) (hup hT ((ho + hs) % 15) (mkT inp outs brd mvd got owe))) (((perm_idx (X := [(sw, cSw sA sC ha aS aH q ra), (ha, cHi hka ho hs), (hka, aR (cT 3) 15 (fun k => some (ad k 0))), (sA, cSt fst wid mid las pat bro mov cnt sI sO sB sM sG sW), (sI, aN (cT 0) 16 inp), (sO, aN (cT 0) 16 outs), (sB, aN (cT 0) 16 brd), (sM, aN (cT 0) 16 mvd), (sG, aN (cT 0) 16 got), (sW, aN (cT 0) 16 owe)]) (X2 := [(sA, cSt fst wid mid las pat bro mov cnt sI sO sB sM sG sW)] ++ [(sw, cSw sA sC ha aS aH q ra), (ha, cHi hka ho hs), (hka, aR (cT 3) 15 (fun k => some (ad k 0))), (sI, aN (cT 0) 16 inp), (sO, aN (cT 0) 16 outs), (sB, aN (cT 0) 16 brd), (sM, aN (cT 0) 16 mvd), (sG, aN (cT 0) 16 got), (sW, aN (cT 0) 16 owe)]) 10 [3, 0, 1, 2, 4, 5, 6, 7, 8, 9] rfl rfl (by decide))).append_right (HY cT ad (hup hS ((ho + hs) % 15) (mkI fst wid mid las pat bro mov cnt)) (hup hT ((ho + hs) % 15) (mkT inp outs brd mvd got owe)))) (fun u4 => ([(sw, cSw sA sC ha aS aH q ra), (ha, cHi hka ho hs), (hka, aR (cT 3) 15 (fun k => some (ad k 0))), (sA, cSt fst wid mid las u4 bro mov cnt sI sO sB sM sG sW), (sI, aN (cT 0) 16 inp), (sO, aN (cT 0) 16 outs), (sB, aN (cT 0) 16 brd), (sM, aN (cT 0) 16 mvd), (sG, aN (cT 0) 16 got), (sW, aN (cT 0) 16 owe)] ++ HY cT ad (hup hS ((ho + hs) % 15) (mkI fst wid mid las pat bro mov cnt)) (hup hT ((ho + hs) % 15) (mkT inp outs brd mvd got owe)))) (fun u4 => (((perm_idx (X := [(sA, cSt fst wid mid las u4 bro mov cnt sI sO sB sM sG sW)] ++ [(sw, cSw sA sC ha aS aH q ra), (ha, cHi hka ho hs), (hka, aR (cT 3) 15 (fun k => some (ad k 0))), (sI, aN (cT 0) 16 inp), (sO, aN (cT 0) 16 outs), (sB, aN (cT 0) 16 brd), (sM, aN (cT 0) 16 mvd), (sG, aN (cT 0) 16 got), (sW, aN (cT 0) 16 owe)]) (X2 := [(sw, cSw sA sC ha aS aH q ra), (ha, cHi hka ho hs), (hka, aR (cT 3) 15 (fun k => some (ad k 0))), (sA, cSt fst wid mid las u4 bro mov cnt sI sO sB sM sG sW), (sI, aN (cT 0) 16 inp), (sO, aN (cT 0) 16 outs), (sB, aN (cT 0) 16 brd), (sM, aN (cT 0) 16 mvd), (sG, aN (cT 0) 16 got), (sW, aN (cT 0) 16 owe)]) 10 [1, 2, 3, 0, 4, 5, 6, 7, 8, 9] rfl rfl (by decide))).append_right (HY cT ad (hup hS ((ho + hs) % 15) (mkI fst wid mid las pat bro mov cnt)) (hup hT ((ho + hs) % 15) (mkT inp outs brd mvd got owe))))) rfl rfl (Nat.le_of_ble_eq_true rfl) ⟨Nat.zero_le _, Nat.zero_le _⟩ dX4_setPatience_36 (fun r36 u4 h3 => ?_)
      obtain ⟨rfl, h3u⟩ := h3
      have h3u := h3u.symm
      subst h3u
      subst hQ
      refine c_XVi (pc := 39) (As := [.int (nI pat)]) (wc := [(sw, cSw sA sC ha aS aH q ra), (ha, cHi hka ho hs)]) (qr := 0) C hA hX htab hk (k_X4_finished l D cT sa hlt sw sA sC ha aS aH q ra hka ho hs (nI pat) (by first | assumption | omega) (by first | assumption | omega)) (cwV 1 C.1.2.2.2.2 gX4_setPatience_X4_finished rfl rfl rfl n_X4_finished ⟨Nat.le_of_ble_eq_true rfl, Nat.le_of_ble_eq_true rfl⟩) rfl rfl ([(hka, aR (cT 3) 15 (fun k => some (ad k 0))), (sA, cSt fst wid mid las j1 bro mov cnt sI sO sB sM sG sW), (sI, aN (cT 0) 16 inp), (sO, aN (cT 0) 16 outs), (sB, aN (cT 0) 16 brd), (sM, aN (cT 0) 16 mvd), (sG, aN (cT 0) 16 got), (sW, aN (cT 0) 16 owe)] ++ HY cT ad (hup hS ((ho + hs) % 15) (mkI fst wid mid las pat bro mov cnt)) (hup hT ((ho + hs) % 15) (mkT inp outs brd mvd got owe))) (((perm_idx (X := [(sw, cSw sA sC ha aS aH q ra), (ha, cHi hka ho hs), (hka, aR (cT 3) 15 (fun k => some (ad k 0))), (sA, cSt fst wid mid las j1 bro mov cnt sI sO sB sM sG sW), (sI, aN (cT 0) 16 inp), (sO, aN (cT 0) 16 outs), (sB, aN (cT 0) 16 brd), (sM, aN (cT 0) 16 mvd), (sG, aN (cT 0) 16 got), (sW, aN (cT 0) 16 owe)]) (X2 := [(sw, cSw sA sC ha aS aH q ra), (ha, cHi hka ho hs)] ++ [(hka, aR (cT 3) 15 (fun k => some (ad k 0))), (sA, cSt fst wid mid las j1 bro mov cnt sI sO sB sM sG sW), (sI, aN (cT 0) 16 inp), (sO, aN (cT 0) 16 outs), (sB, aN (cT 0) 16 brd), (sM, aN (cT 0) 16 mvd), (sG, aN (cT 0) 16 got), (sW, aN (cT 0) 16 owe)]) 10 [0, 1, 2, 3, 4, 5, 6, 7, 8, 9] rfl rfl (by decide))).append_right (HY cT ad (hup hS ((ho + hs) % 15) (mkI fst wid mid las pat bro mov cnt)) (hup hT ((ho + hs) % 15) (mkT inp outs brd mvd got owe)))) (fun u6 => ([(sw, cSw sA sC ha aS aH q ra), (ha, cHi hka u6.1 u6.2), (hka, aR (cT 3) 15 (fun k => some (ad k 0))), (sA, cSt fst wid mid las j1 bro mov cnt sI sO sB sM sG sW), (sI, aN (cT 0) 16 inp), (sO, aN (cT 0) 16 outs), (sB, aN (cT 0) 16 brd), (sM, aN (cT 0) 16 mvd), (sG, aN (cT 0) 16 got), (sW, aN (cT 0) 16 owe)] ++ HY cT ad (hup hS ((ho + hs) % 15) (mkI fst wid mid las pat bro mov cnt)) (hup hT ((ho + hs) % 15) (mkT inp outs brd mvd got owe)))) (fun u6 => (((perm_idx (X := [(sw, cSw sA sC ha aS aH q ra), (ha, cHi hka u6.1 u6.2)] ++ [(hka, aR (cT 3) 15 (fun k => some (ad k 0))), (sA, cSt fst wid mid las j1 bro mov cnt sI sO sB sM sG sW), (sI, aN (cT 0) 16 inp), (sO, aN (cT 0) 16 outs), (sB, aN (cT 0) 16 brd), (sM, aN (cT 0) 16 mvd), (sG, aN (cT 0) 16 got), (sW, aN (cT 0) 16 owe)]) (X2 := [(sw, cSw sA sC ha aS aH q ra), (ha, cHi hka u6.1 u6.2), (hka, aR (cT 3) 15 (fun k => some (ad k 0))), (sA, cSt fst wid mid las j1 bro mov cnt sI sO sB sM sG sW), (sI, aN (cT 0) 16 inp), (sO, aN (cT 0) 16 outs), (sB, aN (cT 0) 16 brd), (sM, aN (cT 0) 16 mvd), (sG, aN (cT 0) 16 got), (sW, aN (cT 0) 16 owe)]) 10 [0, 1, 2, 3, 4, 5, 6, 7, 8, 9] rfl rfl (by decide))).append_right (HY cT ad (hup hS ((ho + hs) % 15) (mkI fst wid mid las pat bro mov cnt)) (hup hT ((ho + hs) % 15) (mkT inp outs brd mvd got owe))))) rfl rfl (Nat.le_of_ble_eq_true rfl) ⟨Nat.le_of_ble_eq_true rfl, Nat.le_of_ble_eq_true rfl⟩ dX4_setPatience_39 (Nat.le_of_ble_eq_true rfl) (Nat.le_of_ble_eq_true rfl) (fun E u6 h5 => ⟨⟨u6.1, u6.2, j1, hup hS ((ho + hs) % 15) (mkI fst wid mid las pat bro mov cnt), hup hT ((ho + hs) % 15) (mkT inp outs brd mvd got owe)⟩, (xe_no (by omega) h5.2).elim, (((perm_idx (X := [(sw, cSw sA sC ha aS aH q ra), (ha, cHi hka u6.1 u6.2)] ++ [(hka, aR (cT 3) 15 (fun k => some (ad k 0))), (sA, cSt fst wid mid las j1 bro mov cnt sI sO sB sM sG sW), (sI, aN (cT 0) 16 inp), (sO, aN (cT 0) 16 outs), (sB, aN (cT 0) 16 brd), (sM, aN (cT 0) 16 mvd), (sG, aN (cT 0) 16 got), (sW, aN (cT 0) 16 owe)]) (X2 := [(sw, cSw sA sC ha aS aH q ra), (ha, cHi hka u6.1 u6.2), (hka, aR (cT 3) 15 (fun k => some (ad k 0))), (sA, cSt fst wid mid las j1 bro mov cnt sI sO sB sM sG sW), (sI, aN (cT 0) 16 inp), (sO, aN (cT 0) 16 outs), (sB, aN (cT 0) 16 brd), (sM, aN (cT 0) 16 mvd), (sG, aN (cT 0) 16 got), (sW, aN (cT 0) 16 owe)]) 10 [0, 1, 2, 3, 4, 5, 6, 7, 8, 9] rfl rfl (by decide))).append_right (HY cT ad (hup hS ((ho + hs) % 15) (mkI fst wid mid las pat bro mov cnt)) (hup hT ((ho + hs) % 15) (mkT inp outs brd mvd got owe))))⟩) (fun r39 u6 h5 => ?_)
      skip
      exact e_iX C hr hk (by omega) (by omega) ⟨u6.1, u6.2, j1, hup hS ((ho + hs) % 15) (mkI fst wid mid las pat bro mov cnt), hup hT ((ho + hs) % 15) (mkT inp outs brd mvd got owe)⟩ rfl (⟨j1, rfl, by omega, h5.1, rfl, h5.2.2.2, rfl, rfl⟩) dX4_setPatience_42
    · subst hQ
      exact e_throw (is := 228) (cls := xIA) (text := "patience is 0 to 3") C rfl hA hlt hX htab hk (by decide +kernel) (mw 1 rfl) (mw 2 rfl) (by decide +kernel) (by decide +kernel) aX4_setPatience_56 xw_IA xg_IA (Nat.le_of_ble_eq_true rfl) (Nat.le_of_ble_eq_true rfl) (Nat.le_of_ble_eq_true rfl) (Nat.le_of_ble_eq_true rfl) (Nat.le_of_ble_eq_true rfl) (Nat.le_of_ble_eq_true rfl) ⟨ho, hs, pat, hS, hT⟩ rfl (⟨rfl, (fun ⟨k, hk, hk2⟩ => by have := (nI_eq (by omega) (by omega)).mp hk; omega), rfl, rfl, rfl, rfl, rfl⟩) dX4_setPatience_9 dX4_setPatience_12 dX4_setPatience_13 dX4_setPatience_15 dX4_setPatience_18

theorem iX4_undo_X4 : ∀ w ∈ u_ws RX4 TX4 7, w ∈ wsX4_undo := by decide +kernel
theorem aX4_undo_67 : ∀ w ∈ (vx_atS RX4 67 xIS xN2).filter goodWord, w ∈ wsX4_undo := by decide +kernel
abbrev rmX4_undo : Room := { frames := 6, cells := 1, slots := 6, locals := 106 }
theorem n_X4_undo : yX4_undo.cls = RX4 ∧ yX4_undo.cls ≠ "java/lang/invoke/MethodHandle" ∧ yX4_undo.cls ≠ "java/lang/invoke/VarHandle" ∧ (parseMethodDescriptor yX4_undo.desc).map (fun d => d.parameters.length) = some 0 := by decide +kernel
set_option maxHeartbeats 4000000 in
set_option maxRecDepth 100000 in
theorem k_X4_undo (l : Launch) (D : va_G) (cT : Nat → ClassId) (sa : Nat → Nat) (hlt : l.stackTraces = false) (sw sA sC ha aS aH q ra hka ho hs fst wid mid las pat bro mov cnt sI sO sB sM sG sW : Nat) (inp outs brd mvd got owe : Nat → Nat) (ad hS : Nat → Nat → Nat) (hT : Nat → Nat → Nat → Nat) (hh1 : ho < 15) (hh2 : hs ≤ 14) : MX (S := Nat × Nat × Nat × Nat × Nat × Nat × Nat × Nat × Nat × (Nat → Nat) × (Nat → Nat) × (Nat → Nat) × (Nat → Nat) × (Nat → Nat) × (Nat → Nat)) (SX := Nat × Nat × Nat × Nat × Nat × Nat × Nat × Nat × Nat × (Nat → Nat) × (Nat → Nat) × (Nat → Nat) × (Nat → Nat) × (Nat → Nat) × (Nat → Nat)) l D cT sa yX4_undo wsX4_undo rmX4_undo [.ref sw] ([(sw, cSw sA sC ha aS aH q ra), (ha, cHi hka ho hs), (hka, aR (cT 3) 15 (fun k => some (ad k 0))), (sA, cSt fst wid mid las pat bro mov cnt sI sO sB sM sG sW), (sI, aN (cT 0) 16 inp), (sO, aN (cT 0) 16 outs), (sB, aN (cT 0) 16 brd), (sM, aN (cT 0) 16 mvd), (sG, aN (cT 0) 16 got), (sW, aN (cT 0) 16 owe)] ++ HY cT ad hS hT) (fun r u => hs ≠ 0 ∧ r = nI (hs - 1) ∧ u.1 = hs - 1 ∧ u.2.1 = hS ((ho + (hs - 1)) % 15) 0 ∧ u.2.2.1 = hS ((ho + (hs - 1)) % 15) 1 ∧ u.2.2.2.1 = hS ((ho + (hs - 1)) % 15) 2 ∧ u.2.2.2.2.1 = hS ((ho + (hs - 1)) % 15) 3 ∧ u.2.2.2.2.2.1 = hS ((ho + (hs - 1)) % 15) 4 ∧ u.2.2.2.2.2.2.1 = hS ((ho + (hs - 1)) % 15) 5 ∧ u.2.2.2.2.2.2.2.1 = hS ((ho + (hs - 1)) % 15) 6 ∧ u.2.2.2.2.2.2.2.2.1 = hS ((ho + (hs - 1)) % 15) 7 ∧ u.2.2.2.2.2.2.2.2.2.1 = hT ((ho + (hs - 1)) % 15) 0 ∧ u.2.2.2.2.2.2.2.2.2.2.1 = hT ((ho + (hs - 1)) % 15) 1 ∧ u.2.2.2.2.2.2.2.2.2.2.2.1 = hT ((ho + (hs - 1)) % 15) 2 ∧ u.2.2.2.2.2.2.2.2.2.2.2.2.1 = hT ((ho + (hs - 1)) % 15) 3 ∧ u.2.2.2.2.2.2.2.2.2.2.2.2.2.1 = hT ((ho + (hs - 1)) % 15) 4 ∧ u.2.2.2.2.2.2.2.2.2.2.2.2.2.2 = hT ((ho + (hs - 1)) % 15) 5) (fun u => ([(sw, cSw sA sC ha aS aH q ra), (ha, cHi hka ho u.1), (hka, aR (cT 3) 15 (fun k => some (ad k 0))), (sA, cSt u.2.1 u.2.2.1 u.2.2.2.1 u.2.2.2.2.1 u.2.2.2.2.2.1 u.2.2.2.2.2.2.1 u.2.2.2.2.2.2.2.1 u.2.2.2.2.2.2.2.2.1 sI sO sB sM sG sW), (sI, aN (cT 0) 16 u.2.2.2.2.2.2.2.2.2.1), (sO, aN (cT 0) 16 u.2.2.2.2.2.2.2.2.2.2.1), (sB, aN (cT 0) 16 u.2.2.2.2.2.2.2.2.2.2.2.1), (sM, aN (cT 0) 16 u.2.2.2.2.2.2.2.2.2.2.2.2.1), (sG, aN (cT 0) 16 u.2.2.2.2.2.2.2.2.2.2.2.2.2.1), (sW, aN (cT 0) 16 u.2.2.2.2.2.2.2.2.2.2.2.2.2.2)] ++ HY cT ad hS hT)) (fun E u => E = xIS ∧ hs = 0 ∧ u.1 = hs ∧ u.2.1 = fst ∧ u.2.2.1 = wid ∧ u.2.2.2.1 = mid ∧ u.2.2.2.2.1 = las ∧ u.2.2.2.2.2.1 = pat ∧ u.2.2.2.2.2.2.1 = bro ∧ u.2.2.2.2.2.2.2.1 = mov ∧ u.2.2.2.2.2.2.2.2.1 = cnt ∧ u.2.2.2.2.2.2.2.2.2.1 = inp ∧ u.2.2.2.2.2.2.2.2.2.2.1 = outs ∧ u.2.2.2.2.2.2.2.2.2.2.2.1 = brd ∧ u.2.2.2.2.2.2.2.2.2.2.2.2.1 = mvd ∧ u.2.2.2.2.2.2.2.2.2.2.2.2.2.1 = got ∧ u.2.2.2.2.2.2.2.2.2.2.2.2.2.2 = owe) (fun u => ([(sw, cSw sA sC ha aS aH q ra), (ha, cHi hka ho u.1), (hka, aR (cT 3) 15 (fun k => some (ad k 0))), (sA, cSt u.2.1 u.2.2.1 u.2.2.2.1 u.2.2.2.2.1 u.2.2.2.2.2.1 u.2.2.2.2.2.2.1 u.2.2.2.2.2.2.2.1 u.2.2.2.2.2.2.2.2.1 sI sO sB sM sG sW), (sI, aN (cT 0) 16 u.2.2.2.2.2.2.2.2.2.1), (sO, aN (cT 0) 16 u.2.2.2.2.2.2.2.2.2.2.1), (sB, aN (cT 0) 16 u.2.2.2.2.2.2.2.2.2.2.2.1), (sM, aN (cT 0) 16 u.2.2.2.2.2.2.2.2.2.2.2.2.1), (sG, aN (cT 0) 16 u.2.2.2.2.2.2.2.2.2.2.2.2.2.1), (sW, aN (cT 0) 16 u.2.2.2.2.2.2.2.2.2.2.2.2.2.2)] ++ HY cT ad hS hT)) 1 6 := by
  refine m_X [(0, .ref sw)] (by decide +kernel) rfl (Nat.le_of_ble_eq_true rfl) rfl ?_
  intro p e s m args below meth c A hAe C hA hr hk htab hX
  generalize hQ : vx_MQ below (va_Qi _ _ A) (vx_X _ _ A) args s 1 6 A = Q
  refine r_aln (pc := 0) C 0 rfl dX4_undo_0 ?_
  refine r_get (pc := 1) C iX4_undo_X4 0 rfl rfl 2 (by decide) (mw 3 rfl) rfl rfl dX4_undo_1 ?_
  refine r_aln (pc := 4) C 0 rfl dX4_undo_4 ?_
  refine r_get (pc := 5) C iX4_undo_X4 0 rfl rfl 0 (by decide) (mw 4 rfl) rfl rfl dX4_undo_5 ?_
  refine c_PVi (pc := 8) (As := [.ref sA]) (wc := ([(ha, cHi hka ho hs), (hka, aR (cT 3) 15 (fun k => some (ad k 0))), (sA, cSt fst wid mid las pat bro mov cnt sI sO sB sM sG sW), (sI, aN (cT 0) 16 inp), (sO, aN (cT 0) 16 outs), (sB, aN (cT 0) 16 brd), (sM, aN (cT 0) 16 mvd), (sG, aN (cT 0) 16 got), (sW, aN (cT 0) 16 owe)] ++ HY cT ad hS hT)) (qr := 0) C hA (k_X0_takeBack l D cT ha hka ho hs sA fst wid mid las pat bro mov cnt sI sO sB sM sG sW inp outs brd mvd got owe ad hS hT (by first | assumption | omega) (by first | assumption | omega)) (cwV 1 C.1.2.2.2.2 gX4_undo_X0_takeBack rfl rfl rfl n_X0_takeBack ⟨Nat.le_of_ble_eq_true rfl, Nat.le_of_ble_eq_true rfl⟩) rfl rfl [(sw, cSw sA sC ha aS aH q ra)] (perm_z (Z := HY cT ad hS hT) (perm_idx (X := [(sw, cSw sA sC ha aS aH q ra), (ha, cHi hka ho hs), (hka, aR (cT 3) 15 (fun k => some (ad k 0))), (sA, cSt fst wid mid las pat bro mov cnt sI sO sB sM sG sW), (sI, aN (cT 0) 16 inp), (sO, aN (cT 0) 16 outs), (sB, aN (cT 0) 16 brd), (sM, aN (cT 0) 16 mvd), (sG, aN (cT 0) 16 got), (sW, aN (cT 0) 16 owe)]) (X2 := [(ha, cHi hka ho hs), (hka, aR (cT 3) 15 (fun k => some (ad k 0))), (sA, cSt fst wid mid las pat bro mov cnt sI sO sB sM sG sW), (sI, aN (cT 0) 16 inp), (sO, aN (cT 0) 16 outs), (sB, aN (cT 0) 16 brd), (sM, aN (cT 0) 16 mvd), (sG, aN (cT 0) 16 got), (sW, aN (cT 0) 16 owe)] ++ [(sw, cSw sA sC ha aS aH q ra)]) 10 [1, 2, 3, 4, 5, 6, 7, 8, 9, 0] rfl rfl (by decide))) (fun u2 => ([(sw, cSw sA sC ha aS aH q ra), (ha, cHi hka ho u2.1), (hka, aR (cT 3) 15 (fun k => some (ad k 0))), (sA, cSt u2.2.1 u2.2.2.1 u2.2.2.2.1 u2.2.2.2.2.1 u2.2.2.2.2.2.1 u2.2.2.2.2.2.2.1 u2.2.2.2.2.2.2.2.1 u2.2.2.2.2.2.2.2.2.1 sI sO sB sM sG sW), (sI, aN (cT 0) 16 u2.2.2.2.2.2.2.2.2.2.1), (sO, aN (cT 0) 16 u2.2.2.2.2.2.2.2.2.2.2.1), (sB, aN (cT 0) 16 u2.2.2.2.2.2.2.2.2.2.2.2.1), (sM, aN (cT 0) 16 u2.2.2.2.2.2.2.2.2.2.2.2.2.1), (sG, aN (cT 0) 16 u2.2.2.2.2.2.2.2.2.2.2.2.2.2.1), (sW, aN (cT 0) 16 u2.2.2.2.2.2.2.2.2.2.2.2.2.2.2)] ++ HY cT ad hS hT)) (fun u2 => (perm_z2 (Z := HY cT ad hS hT) (perm_idx (X := [(ha, cHi hka ho u2.1), (hka, aR (cT 3) 15 (fun k => some (ad k 0))), (sA, cSt u2.2.1 u2.2.2.1 u2.2.2.2.1 u2.2.2.2.2.1 u2.2.2.2.2.2.1 u2.2.2.2.2.2.2.1 u2.2.2.2.2.2.2.2.1 u2.2.2.2.2.2.2.2.2.1 sI sO sB sM sG sW), (sI, aN (cT 0) 16 u2.2.2.2.2.2.2.2.2.2.1), (sO, aN (cT 0) 16 u2.2.2.2.2.2.2.2.2.2.2.1), (sB, aN (cT 0) 16 u2.2.2.2.2.2.2.2.2.2.2.2.1), (sM, aN (cT 0) 16 u2.2.2.2.2.2.2.2.2.2.2.2.2.1), (sG, aN (cT 0) 16 u2.2.2.2.2.2.2.2.2.2.2.2.2.2.1), (sW, aN (cT 0) 16 u2.2.2.2.2.2.2.2.2.2.2.2.2.2.2)] ++ [(sw, cSw sA sC ha aS aH q ra)]) (X2 := [(sw, cSw sA sC ha aS aH q ra), (ha, cHi hka ho u2.1), (hka, aR (cT 3) 15 (fun k => some (ad k 0))), (sA, cSt u2.2.1 u2.2.2.1 u2.2.2.2.1 u2.2.2.2.2.1 u2.2.2.2.2.2.1 u2.2.2.2.2.2.2.1 u2.2.2.2.2.2.2.2.1 u2.2.2.2.2.2.2.2.2.1 sI sO sB sM sG sW), (sI, aN (cT 0) 16 u2.2.2.2.2.2.2.2.2.2.1), (sO, aN (cT 0) 16 u2.2.2.2.2.2.2.2.2.2.2.1), (sB, aN (cT 0) 16 u2.2.2.2.2.2.2.2.2.2.2.2.1), (sM, aN (cT 0) 16 u2.2.2.2.2.2.2.2.2.2.2.2.2.1), (sG, aN (cT 0) 16 u2.2.2.2.2.2.2.2.2.2.2.2.2.2.1), (sW, aN (cT 0) 16 u2.2.2.2.2.2.2.2.2.2.2.2.2.2.2)]) 10 [9, 0, 1, 2, 3, 4, 5, 6, 7, 8] rfl rfl (by decide)))) rfl rfl (Nat.le_of_ble_eq_true rfl) ⟨Nat.zero_le _, Nat.zero_le _⟩ dX4_undo_8 (fun r8 u2 h1 => ?_)
  rcases h1 with ⟨h1z, rfl, h1⟩ | ⟨h1z, rfl, h1⟩
  · refine r_isn (pc := 11) C [1, 0] [(0, .ref sw), (1, .int (-3))] rfl (by decide) rfl dX4_undo_11 ?_
    refine r_iln (pc := 12) C 1 rfl dX4_undo_12 ?_
    refine r_bi (pc := 13) (v := (-3)) C rfl dX4_undo_13 ?_
    refine r_cne (pc := 15) (tgt := 28) C dX4_undo_15 (by decide) (fun c15 => absurd c15 (by exact fun h => h rfl)) (fun c15 => ?_)
    subst hQ
    exact e_throw (is := 234) (cls := xIS) (text := "no state is remembered") C rfl hA hlt hX htab hk (by decide +kernel) (mw 1 rfl) (mw 2 rfl) (by decide +kernel) (by decide +kernel) aX4_undo_67 xw_IS xg_IS (Nat.le_of_ble_eq_true rfl) (Nat.le_of_ble_eq_true rfl) (Nat.le_of_ble_eq_true rfl) (Nat.le_of_ble_eq_true rfl) (Nat.le_of_ble_eq_true rfl) (Nat.le_of_ble_eq_true rfl) ⟨u2.1, u2.2.1, u2.2.2.1, u2.2.2.2.1, u2.2.2.2.2.1, u2.2.2.2.2.2.1, u2.2.2.2.2.2.2.1, u2.2.2.2.2.2.2.2.1, u2.2.2.2.2.2.2.2.2.1, u2.2.2.2.2.2.2.2.2.2.1, u2.2.2.2.2.2.2.2.2.2.2.1, u2.2.2.2.2.2.2.2.2.2.2.2.1, u2.2.2.2.2.2.2.2.2.2.2.2.2.1, u2.2.2.2.2.2.2.2.2.2.2.2.2.2.1, u2.2.2.2.2.2.2.2.2.2.2.2.2.2.2⟩ rfl (⟨rfl, h1z, h1⟩) dX4_undo_18 dX4_undo_21 dX4_undo_22 dX4_undo_24 dX4_undo_27
  · refine r_isn (pc := 11) C [1, 0] [(0, .ref sw), (1, .int (nI (hs - 1)))] rfl (by decide) rfl dX4_undo_11 ?_
    refine r_iln (pc := 12) C 1 rfl dX4_undo_12 ?_
    refine r_bi (pc := 13) (v := (-3)) C rfl dX4_undo_13 ?_
    refine r_cne (pc := 15) (tgt := 28) C dX4_undo_15 (by decide) (fun c15 => ?_) (fun c15 => absurd c15 (by exact nI_m3 (by omega)))
    refine r_iln (pc := 28) C 1 rfl dX4_undo_28 ?_
    subst hQ
    exact e_iX C hr hk (by omega) (by omega) ⟨u2.1, u2.2.1, u2.2.2.1, u2.2.2.2.1, u2.2.2.2.2.1, u2.2.2.2.2.2.1, u2.2.2.2.2.2.2.1, u2.2.2.2.2.2.2.2.1, u2.2.2.2.2.2.2.2.2.1, u2.2.2.2.2.2.2.2.2.2.1, u2.2.2.2.2.2.2.2.2.2.2.1, u2.2.2.2.2.2.2.2.2.2.2.2.1, u2.2.2.2.2.2.2.2.2.2.2.2.2.1, u2.2.2.2.2.2.2.2.2.2.2.2.2.2.1, u2.2.2.2.2.2.2.2.2.2.2.2.2.2.2⟩ rfl (⟨h1z, rfl, h1⟩) dX4_undo_29

theorem iX4_moves_X4 : ∀ w ∈ u_ws RX4 TX4 7, w ∈ wsX4_moves := by decide +kernel
theorem aX4_moves_165 : ∀ w ∈ (vx_atS RX4 165 xIO xN2).filter goodWord, w ∈ wsX4_moves := by decide +kernel
abbrev rmX4_moves : Room := { frames := 27, cells := 1, slots := 6, locals := 673 }
theorem n_X4_moves : yX4_moves.cls = RX4 ∧ yX4_moves.cls ≠ "java/lang/invoke/MethodHandle" ∧ yX4_moves.cls ≠ "java/lang/invoke/VarHandle" ∧ (parseMethodDescriptor yX4_moves.desc).map (fun d => d.parameters.length) = some 2 := by decide +kernel
set_option maxHeartbeats 4000000 in
set_option maxRecDepth 100000 in
theorem k_X4_moves (l : Launch) (D : va_G) (cT : Nat → ClassId) (sa : Nat → Nat) (hlt : l.stackTraces = false) (sw sA sC ha aS aH q ra fst wid mid las pat bro mov cnt sI sO sB sM sG sW : Nat) (inp outs brd : Nat → Nat) (pn : Nat) (pa : Int32) (qf qt qb qr ph qhf qht pl pm : Nat) (pb : Int32) (qs : Nat) (pfr pto : Nat → Nat) (pbf ptr : Nat → Int32) (phf pht : Nat → Nat) (pbs : Nat → Int32) (x y : Int32) (hCn : cnt ≤ 16) (hIn : ∀ c, c < 16 → inp c < 16) (hOu : ∀ c, c < 16 → outs c < 65536) (hBo : ∀ c, c < 16 → brd c < 4) (hW1 : 1 ≤ wid) (hW2 : wid ≤ 4) (hfr : ∀ c, c < 16 → pfr c < 65536 ∧ pto c < 65536) (hok : Ok1 cnt wid inp outs brd) (hM4 : mid ≤ 4) (hPa : pat ≤ 3) (hFW : fst * wid ≤ 16) (hLW : las * wid ≤ 16) (hF4 : fst ≤ 4) (hL4 : las ≤ 4) (hpg : ∀ j, j < fst * wid → freeIn cnt inp j → cnt < 16) : MX (S := Nat × Int32 × Nat × Nat × Nat × Int32 × (Nat → Nat) × (Nat → Nat) × (Nat → Int32) × (Nat → Int32) × (Nat → Nat) × (Nat → Nat) × (Nat → Int32)) (SX := Nat × Int32 × Nat × Nat × Nat × Int32 × (Nat → Nat) × (Nat → Nat) × (Nat → Int32) × (Nat → Int32) × (Nat → Nat) × (Nat → Nat) × (Nat → Int32)) l D cT sa yX4_moves wsX4_moves rmX4_moves [.ref sw, .int x, .int y] [(sw, cSw sA sC ha aS aH q ra), (sA, cSt fst wid mid las pat bro mov cnt sI sO sB sM sG sW), (sI, aN (cT 0) 16 inp), (sO, aN (cT 0) 16 outs), (sB, aN (cT 0) 16 brd), (q, cPl pn pa qf qt qb qr ph qhf qht pl pm pb qs), (qf, aN (cT 0) 16 pfr), (qt, aN (cT 0) 16 pto), (qb, aI (cT 0) 16 pbf), (qr, aI (cT 0) 16 ptr), (qhf, aN (cT 0) 4 phf), (qht, aN (cT 0) 4 pht), (qs, aI (cT 0) 16 pbs)] (fun r u => (∃ jx jy, x = nI jx ∧ jx < fst * wid ∧ y = nI jy ∧ jy < las * wid ∧ ((¬ (freeIn cnt inp jx ∧ freeOut cnt outs jy) ∧ r = -1) ∨ (freeIn cnt inp jx ∧ freeOut cnt outs jy ∧ ∃ bs, PLN wid mid pat bro cnt inp outs brd (jx / wid) (jy / wid) r bs))) ∧ (∀ c, c < 16 → u.2.2.2.2.2.2.1 c < 65536 ∧ u.2.2.2.2.2.2.2.1 c < 65536)) (fun u => [(sw, cSw sA sC ha aS aH q ra), (sA, cSt fst wid mid las pat bro mov cnt sI sO sB sM sG sW), (sI, aN (cT 0) 16 inp), (sO, aN (cT 0) 16 outs), (sB, aN (cT 0) 16 brd), (q, cPl u.1 u.2.1 qf qt qb qr u.2.2.1 qhf qht u.2.2.2.1 u.2.2.2.2.1 u.2.2.2.2.2.1 qs), (qf, aN (cT 0) 16 u.2.2.2.2.2.2.1), (qt, aN (cT 0) 16 u.2.2.2.2.2.2.2.1), (qb, aI (cT 0) 16 u.2.2.2.2.2.2.2.2.1), (qr, aI (cT 0) 16 u.2.2.2.2.2.2.2.2.2.1), (qhf, aN (cT 0) 4 u.2.2.2.2.2.2.2.2.2.2.1), (qht, aN (cT 0) 4 u.2.2.2.2.2.2.2.2.2.2.2.1), (qs, aI (cT 0) 16 u.2.2.2.2.2.2.2.2.2.2.2.2)]) (fun E u => (E = xIO ∧ ¬ (CIn (fst * wid) x ∧ CIn (las * wid) y)) ∧ (∀ c, c < 16 → u.2.2.2.2.2.2.1 c < 65536 ∧ u.2.2.2.2.2.2.2.1 c < 65536)) (fun u => [(sw, cSw sA sC ha aS aH q ra), (sA, cSt fst wid mid las pat bro mov cnt sI sO sB sM sG sW), (sI, aN (cT 0) 16 inp), (sO, aN (cT 0) 16 outs), (sB, aN (cT 0) 16 brd), (q, cPl u.1 u.2.1 qf qt qb qr u.2.2.1 qhf qht u.2.2.2.1 u.2.2.2.2.1 u.2.2.2.2.2.1 qs), (qf, aN (cT 0) 16 u.2.2.2.2.2.2.1), (qt, aN (cT 0) 16 u.2.2.2.2.2.2.2.1), (qb, aI (cT 0) 16 u.2.2.2.2.2.2.2.2.1), (qr, aI (cT 0) 16 u.2.2.2.2.2.2.2.2.2.1), (qhf, aN (cT 0) 4 u.2.2.2.2.2.2.2.2.2.2.1), (qht, aN (cT 0) 4 u.2.2.2.2.2.2.2.2.2.2.2.1), (qs, aI (cT 0) 16 u.2.2.2.2.2.2.2.2.2.2.2.2)]) 1 6 := by
  refine m_X [(0, .ref sw), (1, .int x), (2, .int y)] (by decide +kernel) rfl (Nat.le_of_ble_eq_true rfl) rfl ?_
  intro p e s m args below meth c A hAe C hA hr hk htab hX
  generalize hQ : vx_MQ below (va_Qi _ _ A) (vx_X _ _ A) args s 1 6 A = Q
  refine r_aln (pc := 0) C 0 rfl dX4_moves_0 ?_
  refine r_get (pc := 1) C iX4_moves_X4 0 rfl rfl 0 (by decide) (mw 3 rfl) rfl rfl dX4_moves_1 ?_
  refine r_iln (pc := 4) C 1 rfl dX4_moves_4 ?_
  refine c_RV (pc := 5) (As := [.int x]) (wc := [(sA, cSt fst wid mid las pat bro mov cnt sI sO sB sM sG sW)]) (qr := 1) C (k_X3_hasInput l D cT sA fst wid mid las pat bro mov cnt sI sO sB sM sG sW x (by first | assumption | omega)) (cwV 1 C.1.2.2.2.2 gX4_moves_X3_hasInput rfl rfl rfl n_X3_hasInput ⟨Nat.le_of_ble_eq_true rfl, Nat.le_of_ble_eq_true rfl⟩) [1] rfl rfl rfl rfl rfl (Nat.le_of_ble_eq_true rfl) ⟨Nat.zero_le _, Nat.zero_le _⟩ dX4_moves_5 (fun r5 h1 => ?_)
  rcases h1 with ⟨rfl, h1j, rfl, h1⟩ | ⟨rfl, h1⟩
  · refine r_zeqN (pc := 8) (tgt := 22) C (by omega) dX4_moves_8 (by decide) (fun h => absurd h (by decide)) (fun _ => ?_)
    refine r_aln (pc := 11) C 0 rfl dX4_moves_11 ?_
    refine r_get (pc := 12) C iX4_moves_X4 0 rfl rfl 0 (by decide) (mw 3 rfl) rfl rfl dX4_moves_12 ?_
    refine r_iln (pc := 15) C 2 rfl dX4_moves_15 ?_
    refine c_RV (pc := 16) (As := [.int y]) (wc := [(sA, cSt fst wid mid las pat bro mov cnt sI sO sB sM sG sW)]) (qr := 1) C (k_X3_hasOutput l D cT sA fst wid mid las pat bro mov cnt sI sO sB sM sG sW y (by first | assumption | omega)) (cwV 1 C.1.2.2.2.2 gX4_moves_X3_hasOutput rfl rfl rfl n_X3_hasOutput ⟨Nat.le_of_ble_eq_true rfl, Nat.le_of_ble_eq_true rfl⟩) [1] rfl rfl rfl rfl rfl (Nat.le_of_ble_eq_true rfl) ⟨Nat.zero_le _, Nat.zero_le _⟩ dX4_moves_16 (fun r16 h2 => ?_)
    rcases h2 with ⟨rfl, h2j, rfl, h2⟩ | ⟨rfl, h2⟩
    · refine r_zneN (pc := 19) (tgt := 32) C (by omega) dX4_moves_19 (by decide) (fun _ => ?_) (fun h => absurd h (by decide))
      refine r_aln (pc := 32) C 0 rfl dX4_moves_32 ?_
      refine r_get (pc := 33) C iX4_moves_X4 0 rfl rfl 0 (by decide) (mw 3 rfl) rfl rfl dX4_moves_33 ?_
      refine r_iln (pc := 36) C 1 rfl dX4_moves_36 ?_
      refine c_RV (pc := 37) (As := [.int (nI h1j)]) (wc := [(sA, cSt fst wid mid las pat bro mov cnt sI sO sB sM sG sW), (sI, aN (cT 0) 16 inp)]) (qr := 1) C (k_X3_callAtInput l D cT sA fst wid mid las pat bro mov cnt sI sO sB sM sG sW inp h1j hCn hIn (by omega)) (cwV 1 C.1.2.2.2.2 gX4_moves_X3_callAtInput rfl rfl rfl n_X3_callAtInput ⟨Nat.le_of_ble_eq_true rfl, Nat.le_of_ble_eq_true rfl⟩) [1, 2] rfl rfl rfl rfl rfl (Nat.le_of_ble_eq_true rfl) ⟨Nat.zero_le _, Nat.zero_le _⟩ dX4_moves_37 (fun r37 h3 => ?_)
      rcases h3 with ⟨rfl, h3⟩ | ⟨h3k, rfl, h3l, h3a, h3b⟩
      · refine r_ic (pc := 40) (v := (-1)) C rfl dX4_moves_40 ?_
        refine r_cne (pc := 41) (tgt := 56) C dX4_moves_41 (by decide) (fun c41 => absurd c41 (by exact fun h => h rfl)) (fun c41 => ?_)
        refine r_aln (pc := 44) C 0 rfl dX4_moves_44 ?_
        refine r_get (pc := 45) C iX4_moves_X4 0 rfl rfl 0 (by decide) (mw 3 rfl) rfl rfl dX4_moves_45 ?_
        refine r_iln (pc := 48) C 2 rfl dX4_moves_48 ?_
        refine c_RV (pc := 49) (As := [.int (nI h2j)]) (wc := [(sA, cSt fst wid mid las pat bro mov cnt sI sO sB sM sG sW), (sO, aN (cT 0) 16 outs)]) (qr := 1) C (k_X3_callAtOutput l D cT sA fst wid mid las pat bro mov cnt sI sO sB sM sG sW outs h2j hCn hOu (by omega)) (cwV 1 C.1.2.2.2.2 gX4_moves_X3_callAtOutput rfl rfl rfl n_X3_callAtOutput ⟨Nat.le_of_ble_eq_true rfl, Nat.le_of_ble_eq_true rfl⟩) [1, 3] rfl rfl rfl rfl rfl (Nat.le_of_ble_eq_true rfl) ⟨Nat.zero_le _, Nat.zero_le _⟩ dX4_moves_49 (fun r49 h4 => ?_)
        rcases h4 with ⟨rfl, h4⟩ | ⟨h4k, rfl, h4l, h4a, h4b⟩
        · refine r_ic (pc := 52) (v := (-1)) C rfl dX4_moves_52 ?_
          refine r_ceq (pc := 53) (tgt := 58) C dX4_moves_53 (by decide) (fun c53 => ?_) (fun c53 => absurd c53 (by exact fun h => h rfl))
          refine r_aln (pc := 58) C 0 rfl dX4_moves_58 ?_
          refine r_get (pc := 59) C iX4_moves_X4 0 rfl rfl 5 (by decide) (mw 4 rfl) rfl rfl dX4_moves_59 ?_
          refine r_aln (pc := 62) C 0 rfl dX4_moves_62 ?_
          refine r_get (pc := 63) C iX4_moves_X4 0 rfl rfl 0 (by decide) (mw 3 rfl) rfl rfl dX4_moves_63 ?_
          refine r_aln (pc := 66) C 0 rfl dX4_moves_66 ?_
          refine r_get (pc := 67) C iX4_moves_X4 0 rfl rfl 0 (by decide) (mw 3 rfl) rfl rfl dX4_moves_67 ?_
          refine r_iln (pc := 70) C 1 rfl dX4_moves_70 ?_
          refine c_RV (pc := 71) (As := [.int (nI h1j)]) (wc := [(sA, cSt fst wid mid las pat bro mov cnt sI sO sB sM sG sW)]) (qr := 1) C (k_X3_boardOf l D cT sA fst wid mid las pat bro mov cnt sI sO sB sM sG sW h1j (by omega) hW2 (by omega)) (cwV 1 C.1.2.2.2.2 gX4_moves_X3_boardOf rfl rfl rfl n_X3_boardOf ⟨Nat.le_of_ble_eq_true rfl, Nat.le_of_ble_eq_true rfl⟩) [1] rfl rfl rfl rfl rfl (Nat.le_of_ble_eq_true rfl) ⟨Nat.zero_le _, Nat.zero_le _⟩ dX4_moves_71 (fun r71 h5 => ?_)
          subst h5
          refine r_aln (pc := 74) C 0 rfl dX4_moves_74 ?_
          refine r_get (pc := 75) C iX4_moves_X4 0 rfl rfl 0 (by decide) (mw 3 rfl) rfl rfl dX4_moves_75 ?_
          refine r_iln (pc := 78) C 2 rfl dX4_moves_78 ?_
          refine c_RV (pc := 79) (As := [.int (nI h2j)]) (wc := [(sA, cSt fst wid mid las pat bro mov cnt sI sO sB sM sG sW)]) (qr := 1) C (k_X3_boardOf l D cT sA fst wid mid las pat bro mov cnt sI sO sB sM sG sW h2j (by omega) hW2 (by omega)) (cwV 1 C.1.2.2.2.2 gX4_moves_X3_boardOf rfl rfl rfl n_X3_boardOf ⟨Nat.le_of_ble_eq_true rfl, Nat.le_of_ble_eq_true rfl⟩) [1] rfl rfl rfl rfl rfl (Nat.le_of_ble_eq_true rfl) ⟨Nat.zero_le _, Nat.zero_le _⟩ dX4_moves_79 (fun r79 h6 => ?_)
          subst h6
          refine c_WVi (pc := 82) (As := [.ref sA, .int (nI (h1j / wid)), .int (nI (h2j / wid))]) (wc := [(q, cPl pn pa qf qt qb qr ph qhf qht pl pm pb qs), (qf, aN (cT 0) 16 pfr), (qt, aN (cT 0) 16 pto), (qb, aI (cT 0) 16 pbf), (qr, aI (cT 0) 16 ptr), (qhf, aN (cT 0) 4 phf), (qht, aN (cT 0) 4 pht), (qs, aI (cT 0) 16 pbs), (sA, cSt fst wid mid las pat bro mov cnt sI sO sB sM sG sW), (sI, aN (cT 0) 16 inp), (sO, aN (cT 0) 16 outs), (sB, aN (cT 0) 16 brd)]) (wr := [(sw, cSw sA sC ha aS aH q ra)]) (qr := 5) C hA (k_X1_forNewCall l D cT q pn pa qf qt qb qr ph qhf qht pl pm pb qs pfr pto pbf ptr phf pht pbs sA fst wid mid las pat bro mov cnt sI sO sB sM sG sW inp outs brd (h1j / wid) (h2j / wid) hCn hIn hOu hBo hW1 hW2 hfr hok hM4 hPa (hpg _ h1 h3) (div_lt4 h1 hF4) (div_lt4 h2 hL4)) (cwV 3 C.1.2.2.2.2 gX4_moves_X1_forNewCall rfl rfl rfl n_X1_forNewCall ⟨Nat.le_of_ble_eq_true rfl, Nat.le_of_ble_eq_true rfl⟩) rfl rfl [5, 6, 7, 8, 9, 10, 11, 12, 1, 2, 3, 4] [0] rfl rfl ⟨by decide, by decide⟩ (by decide) [0, 9, 10, 11, 12, 1, 2, 3, 4, 5, 6, 7, 8] (fun u8 => [(sw, cSw sA sC ha aS aH q ra), (sA, cSt fst wid mid las pat bro mov cnt sI sO sB sM sG sW), (sI, aN (cT 0) 16 inp), (sO, aN (cT 0) 16 outs), (sB, aN (cT 0) 16 brd), (q, cPl u8.1 u8.2.1 qf qt qb qr u8.2.2.1 qhf qht u8.2.2.2.1 u8.2.2.2.2.1 u8.2.2.2.2.2.1 qs), (qf, aN (cT 0) 16 u8.2.2.2.2.2.2.1), (qt, aN (cT 0) 16 u8.2.2.2.2.2.2.2.1), (qb, aI (cT 0) 16 u8.2.2.2.2.2.2.2.2.1), (qr, aI (cT 0) 16 u8.2.2.2.2.2.2.2.2.2.1), (qhf, aN (cT 0) 4 u8.2.2.2.2.2.2.2.2.2.2.1), (qht, aN (cT 0) 4 u8.2.2.2.2.2.2.2.2.2.2.2.1), (qs, aI (cT 0) 16 u8.2.2.2.2.2.2.2.2.2.2.2.2)]) (fun _ => rfl) (by decide) rfl rfl (Nat.le_of_ble_eq_true rfl) ⟨Nat.zero_le _, Nat.zero_le _⟩ dX4_moves_82 (fun r82 u8 h7 => ?_)
          skip
          subst hQ
          exact e_iX C hr hk (by omega) (by omega) ⟨u8.1, u8.2.1, u8.2.2.1, u8.2.2.2.1, u8.2.2.2.2.1, u8.2.2.2.2.2.1, u8.2.2.2.2.2.2.1, u8.2.2.2.2.2.2.2.1, u8.2.2.2.2.2.2.2.2.1, u8.2.2.2.2.2.2.2.2.2.1, u8.2.2.2.2.2.2.2.2.2.2.1, u8.2.2.2.2.2.2.2.2.2.2.2.1, u8.2.2.2.2.2.2.2.2.2.2.2.2⟩ rfl (⟨⟨_, _, rfl, h1, rfl, h2, Or.inr ⟨h3, h4, _, h7.1⟩⟩, h7.2⟩) dX4_moves_85
        · refine r_ic (pc := 52) (v := (-1)) C rfl dX4_moves_52 ?_
          refine r_ceq (pc := 53) (tgt := 58) C dX4_moves_53 (by decide) (fun c53 => absurd c53 (by exact nI_m1 (by omega))) (fun c53 => ?_)
          refine r_ic (pc := 56) (v := (-1)) C rfl dX4_moves_56 ?_
          subst hQ
          exact e_iX C hr hk (by omega) (by omega) ⟨pn, pa, ph, pl, pm, pb, pfr, pto, pbf, ptr, phf, pht, pbs⟩ rfl (⟨⟨_, _, rfl, h1, rfl, h2, Or.inl ⟨fun g => absurd h4a (g.2 _ h4l), rfl⟩⟩, hfr⟩) dX4_moves_57
      · refine r_ic (pc := 40) (v := (-1)) C rfl dX4_moves_40 ?_
        refine r_cne (pc := 41) (tgt := 56) C dX4_moves_41 (by decide) (fun c41 => ?_) (fun c41 => absurd c41 (by exact nI_m1 (by omega)))
        refine r_ic (pc := 56) (v := (-1)) C rfl dX4_moves_56 ?_
        subst hQ
        exact e_iX C hr hk (by omega) (by omega) ⟨pn, pa, ph, pl, pm, pb, pfr, pto, pbf, ptr, phf, pht, pbs⟩ rfl (⟨⟨_, _, rfl, h1, rfl, h2, Or.inl ⟨fun g => absurd h3a (g.1 _ h3l), rfl⟩⟩, hfr⟩) dX4_moves_57
    · refine r_zneN (pc := 19) (tgt := 32) C (by omega) dX4_moves_19 (by decide) (fun h => absurd h (by decide)) (fun _ => ?_)
      subst hQ
      exact e_throw (is := 202) (cls := xIO) (text := "no such input or output") C rfl hA hlt hX htab hk (by decide +kernel) (mw 1 rfl) (mw 2 rfl) (by decide +kernel) (by decide +kernel) aX4_moves_165 xw_IO xg_IO (Nat.le_of_ble_eq_true rfl) (Nat.le_of_ble_eq_true rfl) (Nat.le_of_ble_eq_true rfl) (Nat.le_of_ble_eq_true rfl) (Nat.le_of_ble_eq_true rfl) (Nat.le_of_ble_eq_true rfl) ⟨pn, pa, ph, pl, pm, pb, pfr, pto, pbf, ptr, phf, pht, pbs⟩ rfl (⟨⟨rfl, fun g => h2 g.2⟩, hfr⟩) dX4_moves_22 dX4_moves_25 dX4_moves_26 dX4_moves_28 dX4_moves_31
  · refine r_zeqN (pc := 8) (tgt := 22) C (by omega) dX4_moves_8 (by decide) (fun _ => ?_) (fun h => absurd h (by decide))
    subst hQ
    exact e_throw (is := 202) (cls := xIO) (text := "no such input or output") C rfl hA hlt hX htab hk (by decide +kernel) (mw 1 rfl) (mw 2 rfl) (by decide +kernel) (by decide +kernel) aX4_moves_165 xw_IO xg_IO (Nat.le_of_ble_eq_true rfl) (Nat.le_of_ble_eq_true rfl) (Nat.le_of_ble_eq_true rfl) (Nat.le_of_ble_eq_true rfl) (Nat.le_of_ble_eq_true rfl) (Nat.le_of_ble_eq_true rfl) ⟨pn, pa, ph, pl, pm, pb, pfr, pto, pbf, ptr, phf, pht, pbs⟩ rfl (⟨⟨rfl, fun g => h1 g.1⟩, hfr⟩) dX4_moves_22 dX4_moves_25 dX4_moves_26 dX4_moves_28 dX4_moves_31

theorem iX4_openBetween_X4 : ∀ w ∈ u_ws RX4 TX4 7, w ∈ wsX4_openBetween := by decide +kernel
abbrev rmX4_openBetween : Room := { frames := 27, cells := 0, slots := 0, locals := 673 }
theorem n_X4_openBetween : yX4_openBetween.cls = RX4 ∧ yX4_openBetween.cls ≠ "java/lang/invoke/MethodHandle" ∧ yX4_openBetween.cls ≠ "java/lang/invoke/VarHandle" ∧ (parseMethodDescriptor yX4_openBetween.desc).map (fun d => d.parameters.length) = some 3 := by decide +kernel
set_option maxHeartbeats 4000000 in
set_option maxRecDepth 100000 in
theorem k_X4_openBetween (l : Launch) (D : va_G) (cT : Nat → ClassId) (sw sA sC ha aS aH q ra fst wid mid las pat bro mov cnt sI sO sB sM sG sW : Nat) (inp outs brd : Nat → Nat) (pn : Nat) (pa : Int32) (qf qt qb qr ph qhf qht pl pm : Nat) (pb : Int32) (qs : Nat) (pfr pto : Nat → Nat) (pbf ptr : Nat → Int32) (phf pht : Nat → Nat) (pbs : Nat → Int32) (a1 b1 mo1 : Nat) (hCn : cnt ≤ 16) (hIn : ∀ c, c < 16 → inp c < 16) (hOu : ∀ c, c < 16 → outs c < 65536) (hBo : ∀ c, c < 16 → brd c < 4) (hW1 : 1 ≤ wid) (hW2 : wid ≤ 4) (hfr : ∀ c, c < 16 → pfr c < 65536 ∧ pto c < 65536) (hok : Ok1 cnt wid inp outs brd) (hM4 : mid ≤ 4) (hPa : pat ≤ 3) (hFW : fst * wid ≤ 16) (hLW : las * wid ≤ 16) (hF4 : fst ≤ 4) (hL4 : las ≤ 4) (ha1 : a1 < fst) (hb1 : b1 < las) (hmo1 : mo1 ≤ 3) (hpo : FI wid cnt inp a1 ≠ 0 → cnt < 16) : MWi (S := Nat × Int32 × Nat × Nat × Nat × Int32 × (Nat → Nat) × (Nat → Nat) × (Nat → Int32) × (Nat → Int32) × (Nat → Nat) × (Nat → Nat) × (Nat → Int32)) l D cT yX4_openBetween wsX4_openBetween rmX4_openBetween [.ref sw, .int (nI a1), .int (nI b1), .int (nI mo1)] [(sw, cSw sA sC ha aS aH q ra), (sA, cSt fst wid mid las pat bro mov cnt sI sO sB sM sG sW), (sI, aN (cT 0) 16 inp), (sO, aN (cT 0) 16 outs), (sB, aN (cT 0) 16 brd), (q, cPl pn pa qf qt qb qr ph qhf qht pl pm pb qs), (qf, aN (cT 0) 16 pfr), (qt, aN (cT 0) 16 pto), (qb, aI (cT 0) 16 pbf), (qr, aI (cT 0) 16 ptr), (qhf, aN (cT 0) 4 phf), (qht, aN (cT 0) 4 pht), (qs, aI (cT 0) 16 pbs)] (fun r u => r = nI (obV wid mid pat bro cnt inp outs brd mo1 a1 b1) ∧ (∀ c, c < 16 → u.2.2.2.2.2.2.1 c < 65536 ∧ u.2.2.2.2.2.2.2.1 c < 65536)) (fun u => [(sw, cSw sA sC ha aS aH q ra), (sA, cSt fst wid mid las pat bro mov cnt sI sO sB sM sG sW), (sI, aN (cT 0) 16 inp), (sO, aN (cT 0) 16 outs), (sB, aN (cT 0) 16 brd), (q, cPl u.1 u.2.1 qf qt qb qr u.2.2.1 qhf qht u.2.2.2.1 u.2.2.2.2.1 u.2.2.2.2.2.1 qs), (qf, aN (cT 0) 16 u.2.2.2.2.2.2.1), (qt, aN (cT 0) 16 u.2.2.2.2.2.2.2.1), (qb, aI (cT 0) 16 u.2.2.2.2.2.2.2.2.1), (qr, aI (cT 0) 16 u.2.2.2.2.2.2.2.2.2.1), (qhf, aN (cT 0) 4 u.2.2.2.2.2.2.2.2.2.2.1), (qht, aN (cT 0) 4 u.2.2.2.2.2.2.2.2.2.2.2.1), (qs, aI (cT 0) 16 u.2.2.2.2.2.2.2.2.2.2.2.2)]) 0 0 := by
  refine m_Wi [(0, .ref sw), (1, .int (nI a1)), (2, .int (nI b1)), (3, .int (nI mo1))] (by decide +kernel) rfl (Nat.le_of_ble_eq_true rfl) rfl ?_
  intro p e s m args below meth c A hAe C hA hr hk hnm_
  generalize hQ : MQ below (va_Qi _ _ A) args s 0 0 A = Q
  refine r_aln (pc := 0) C 0 rfl dX4_openBetween_0 ?_
  refine r_get (pc := 1) C iX4_openBetween_X4 0 rfl rfl 0 (by decide) (mw 1 rfl) rfl rfl dX4_openBetween_1 ?_
  refine r_iln (pc := 4) C 1 rfl dX4_openBetween_4 ?_
  refine c_RV (pc := 5) (As := [.int (nI a1)]) (wc := [(sA, cSt fst wid mid las pat bro mov cnt sI sO sB sM sG sW), (sI, aN (cT 0) 16 inp)]) (qr := 1) C (k_X3_freeInputs l D cT sA fst wid mid las pat bro mov cnt sI sO sB sM sG sW inp a1 (by first | assumption | omega) (by first | assumption | omega) (by first | assumption | omega) (by first | assumption | omega) (by first | assumption | omega) (by first | assumption | omega)) (cwV 1 C.1.2.2.2.2 gX4_openBetween_X3_freeInputs rfl rfl rfl n_X3_freeInputs ⟨Nat.le_of_ble_eq_true rfl, Nat.le_of_ble_eq_true rfl⟩) [1, 2] rfl rfl rfl rfl rfl (Nat.le_of_ble_eq_true rfl) ⟨Nat.zero_le _, Nat.zero_le _⟩ dX4_openBetween_5 (fun r5 h1 => ?_)
  subst h1
  refine r_aln (pc := 8) C 0 rfl dX4_openBetween_8 ?_
  refine r_get (pc := 9) C iX4_openBetween_X4 0 rfl rfl 0 (by decide) (mw 1 rfl) rfl rfl dX4_openBetween_9 ?_
  refine r_iln (pc := 12) C 2 rfl dX4_openBetween_12 ?_
  refine c_RV (pc := 13) (As := [.int (nI b1)]) (wc := [(sA, cSt fst wid mid las pat bro mov cnt sI sO sB sM sG sW), (sO, aN (cT 0) 16 outs)]) (qr := 1) C (k_X3_freeOutputs l D cT sA fst wid mid las pat bro mov cnt sI sO sB sM sG sW outs b1 (by first | assumption | omega) (by first | assumption | omega) (by first | assumption | omega) (by first | assumption | omega) (by first | assumption | omega) (by first | assumption | omega)) (cwV 1 C.1.2.2.2.2 gX4_openBetween_X3_freeOutputs rfl rfl rfl n_X3_freeOutputs ⟨Nat.le_of_ble_eq_true rfl, Nat.le_of_ble_eq_true rfl⟩) [1, 3] rfl rfl rfl rfl rfl (Nat.le_of_ble_eq_true rfl) ⟨Nat.zero_le _, Nat.zero_le _⟩ dX4_openBetween_13 (fun r13 h2 => ?_)
  subst h2
  refine r_imulN (pc := 16) C dX4_openBetween_16 ?_
  refine r_is (pc := 17) C [1, 2, 3, 4, 0] [(0, .ref sw), (1, .int (nI a1)), (2, .int (nI b1)), (3, .int (nI mo1)), (4, .int (nI ((sumTo (fun i => if anyTo (fun c => decide (inp c = a1 * wid + i)) cnt = true then 0 else 1) wid) * (sumTo (fun i => if anyTo (fun c => (outs c).testBit (b1 * wid + i)) cnt = true then 0 else 1) wid))))] (by decide) rfl dX4_openBetween_17 ?_
  refine r_il (pc := 19) C 4 rfl dX4_openBetween_19 ?_
  refine r_zneN (pc := 21) (tgt := 26) C (ob_lt hW2 f01_le f01_le) dX4_openBetween_21 (by decide) (fun c21 => ?_) (fun c21 => ?_)
  · refine r_aln (pc := 26) C 0 rfl dX4_openBetween_26 ?_
    refine r_get (pc := 27) C iX4_openBetween_X4 0 rfl rfl 5 (by decide) (mw 2 rfl) rfl rfl dX4_openBetween_27 ?_
    refine r_aln (pc := 30) C 0 rfl dX4_openBetween_30 ?_
    refine r_get (pc := 31) C iX4_openBetween_X4 0 rfl rfl 0 (by decide) (mw 1 rfl) rfl rfl dX4_openBetween_31 ?_
    refine r_iln (pc := 34) C 1 rfl dX4_openBetween_34 ?_
    refine r_iln (pc := 35) C 2 rfl dX4_openBetween_35 ?_
    refine c_WVi (pc := 36) (As := [.ref sA, .int (nI a1), .int (nI b1)]) (wc := [(q, cPl pn pa qf qt qb qr ph qhf qht pl pm pb qs), (qf, aN (cT 0) 16 pfr), (qt, aN (cT 0) 16 pto), (qb, aI (cT 0) 16 pbf), (qr, aI (cT 0) 16 ptr), (qhf, aN (cT 0) 4 phf), (qht, aN (cT 0) 4 pht), (qs, aI (cT 0) 16 pbs), (sA, cSt fst wid mid las pat bro mov cnt sI sO sB sM sG sW), (sI, aN (cT 0) 16 inp), (sO, aN (cT 0) 16 outs), (sB, aN (cT 0) 16 brd)]) (wr := [(sw, cSw sA sC ha aS aH q ra)]) (qr := 5) C hA (k_X1_forNewCall l D cT q pn pa qf qt qb qr ph qhf qht pl pm pb qs pfr pto pbf ptr phf pht pbs sA fst wid mid las pat bro mov cnt sI sO sB sM sG sW inp outs brd a1 b1 hCn hIn hOu hBo hW1 hW2 hfr hok hM4 hPa (hpo (pos_l c21)) (by omega) (by omega)) (cwV 3 C.1.2.2.2.2 gX4_openBetween_X1_forNewCall rfl rfl rfl n_X1_forNewCall ⟨Nat.le_of_ble_eq_true rfl, Nat.le_of_ble_eq_true rfl⟩) rfl rfl [5, 6, 7, 8, 9, 10, 11, 12, 1, 2, 3, 4] [0] rfl rfl ⟨by decide, by decide⟩ (by decide) [0, 9, 10, 11, 12, 1, 2, 3, 4, 5, 6, 7, 8] (fun u4 => [(sw, cSw sA sC ha aS aH q ra), (sA, cSt fst wid mid las pat bro mov cnt sI sO sB sM sG sW), (sI, aN (cT 0) 16 inp), (sO, aN (cT 0) 16 outs), (sB, aN (cT 0) 16 brd), (q, cPl u4.1 u4.2.1 qf qt qb qr u4.2.2.1 qhf qht u4.2.2.2.1 u4.2.2.2.2.1 u4.2.2.2.2.2.1 qs), (qf, aN (cT 0) 16 u4.2.2.2.2.2.2.1), (qt, aN (cT 0) 16 u4.2.2.2.2.2.2.2.1), (qb, aI (cT 0) 16 u4.2.2.2.2.2.2.2.2.1), (qr, aI (cT 0) 16 u4.2.2.2.2.2.2.2.2.2.1), (qhf, aN (cT 0) 4 u4.2.2.2.2.2.2.2.2.2.2.1), (qht, aN (cT 0) 4 u4.2.2.2.2.2.2.2.2.2.2.2.1), (qs, aI (cT 0) 16 u4.2.2.2.2.2.2.2.2.2.2.2.2)]) (fun _ => rfl) (by decide) rfl rfl (Nat.le_of_ble_eq_true rfl) ⟨Nat.zero_le _, Nat.zero_le _⟩ dX4_openBetween_36 (fun r36 u4 h3 => ?_)
    skip
    refine r_is (pc := 39) C [1, 2, 3, 4, 5, 0] [(0, .ref sw), (1, .int (nI a1)), (2, .int (nI b1)), (3, .int (nI mo1)), (4, .int (nI ((sumTo (fun i => if anyTo (fun c => decide (inp c = a1 * wid + i)) cnt = true then 0 else 1) wid) * (sumTo (fun i => if anyTo (fun c => (outs c).testBit (b1 * wid + i)) cnt = true then 0 else 1) wid)))), (5, .int r36)] (by decide) rfl dX4_openBetween_39 ?_
    refine r_il (pc := 41) C 5 rfl dX4_openBetween_41 ?_
    refine r_ic (pc := 43) (v := (-1)) C rfl dX4_openBetween_43 ?_
    refine r_ceq (pc := 44) (tgt := 58) C dX4_openBetween_44 (by decide) (fun c44 => ?_) (fun c44 => ?_)
    · refine r_ic (pc := 58) (v := nI 0) C rfl dX4_openBetween_58 ?_
      subst hQ
      exact e_iW C hr hk (Nat.le_refl _) (Nat.le_refl _) ⟨u4.1, u4.2.1, u4.2.2.1, u4.2.2.2.1, u4.2.2.2.2.1, u4.2.2.2.2.2.1, u4.2.2.2.2.2.2.1, u4.2.2.2.2.2.2.2.1, u4.2.2.2.2.2.2.2.2.1, u4.2.2.2.2.2.2.2.2.2.1, u4.2.2.2.2.2.2.2.2.2.2.1, u4.2.2.2.2.2.2.2.2.2.2.2.1, u4.2.2.2.2.2.2.2.2.2.2.2.2⟩ rfl (⟨congrArg nI (ob_m1 hPa h3.1 c44).symm, h3.2⟩) dX4_openBetween_59
    · refine r_il (pc := 47) C 5 rfl dX4_openBetween_47 ?_
      refine r_iln (pc := 49) C 3 rfl dX4_openBetween_49 ?_
      refine r_cgt (pc := 50) (tgt := 58) C dX4_openBetween_50 (by decide) (fun c50 => ?_) (fun c50 => ?_)
      · refine r_ic (pc := 58) (v := nI 0) C rfl dX4_openBetween_58 ?_
        subst hQ
        exact e_iW C hr hk (Nat.le_refl _) (Nat.le_refl _) ⟨u4.1, u4.2.1, u4.2.2.1, u4.2.2.2.1, u4.2.2.2.2.1, u4.2.2.2.2.2.1, u4.2.2.2.2.2.2.1, u4.2.2.2.2.2.2.2.1, u4.2.2.2.2.2.2.2.2.1, u4.2.2.2.2.2.2.2.2.2.1, u4.2.2.2.2.2.2.2.2.2.2.1, u4.2.2.2.2.2.2.2.2.2.2.2.1, u4.2.2.2.2.2.2.2.2.2.2.2.2⟩ rfl (⟨congrArg nI (ob_gt hPa hmo1 h3.1 c50).symm, h3.2⟩) dX4_openBetween_59
      · refine r_il (pc := 53) C 4 rfl dX4_openBetween_53 ?_
        refine r_goto (pc := 55) (tgt := 59) C dX4_openBetween_55 (by decide) ?_
        subst hQ
        exact e_iW C hr hk (Nat.le_refl _) (Nat.le_refl _) ⟨u4.1, u4.2.1, u4.2.2.1, u4.2.2.2.1, u4.2.2.2.2.1, u4.2.2.2.2.2.1, u4.2.2.2.2.2.2.1, u4.2.2.2.2.2.2.2.1, u4.2.2.2.2.2.2.2.2.1, u4.2.2.2.2.2.2.2.2.2.1, u4.2.2.2.2.2.2.2.2.2.2.1, u4.2.2.2.2.2.2.2.2.2.2.2.1, u4.2.2.2.2.2.2.2.2.2.2.2.2⟩ rfl (⟨congrArg nI (ob_ok hPa hmo1 c21 h3.1 c44 c50).symm, h3.2⟩) dX4_openBetween_59
  · refine r_ic (pc := 24) (v := nI 0) C rfl dX4_openBetween_24 ?_
    subst hQ
    exact e_iW C hr hk (Nat.le_refl _) (Nat.le_refl _) ⟨pn, pa, ph, pl, pm, pb, pfr, pto, pbf, ptr, phf, pht, pbs⟩ rfl (⟨congrArg nI (ob_0 c21).symm, hfr⟩) dX4_openBetween_25

theorem iX4_open_X3 : ∀ w ∈ u_ws RX3 TX3 14, w ∈ wsX4_open := by decide +kernel
theorem iX4_open_X4 : ∀ w ∈ u_ws RX4 TX4 7, w ∈ wsX4_open := by decide +kernel
theorem aX4_open_56 : ∀ w ∈ (vx_atS RX4 56 xIA xN2).filter goodWord, w ∈ wsX4_open := by decide +kernel
abbrev rmX4_open : Room := { frames := 28, cells := 1, slots := 6, locals := 698 }
theorem n_X4_open : yX4_open.cls = RX4 ∧ yX4_open.cls ≠ "java/lang/invoke/MethodHandle" ∧ yX4_open.cls ≠ "java/lang/invoke/VarHandle" ∧ (parseMethodDescriptor yX4_open.desc).map (fun d => d.parameters.length) = some 1 := by decide +kernel
set_option maxHeartbeats 4000000 in
set_option maxRecDepth 100000 in
theorem k_X4_open (l : Launch) (D : va_G) (cT : Nat → ClassId) (sa : Nat → Nat) (hlt : l.stackTraces = false) (sw sA sC ha aS aH q ra fst wid mid las pat bro mov cnt sI sO sB sM sG sW : Nat) (inp outs brd : Nat → Nat) (pn : Nat) (pa : Int32) (qf qt qb qr ph qhf qht pl pm : Nat) (pb : Int32) (qs : Nat) (pfr pto : Nat → Nat) (pbf ptr : Nat → Int32) (phf pht : Nat → Nat) (pbs : Nat → Int32) (x : Int32) (hCn : cnt ≤ 16) (hIn : ∀ c, c < 16 → inp c < 16) (hOu : ∀ c, c < 16 → outs c < 65536) (hBo : ∀ c, c < 16 → brd c < 4) (hW1 : 1 ≤ wid) (hW2 : wid ≤ 4) (hfr : ∀ c, c < 16 → pfr c < 65536 ∧ pto c < 65536) (hok : Ok1 cnt wid inp outs brd) (hM4 : mid ≤ 4) (hPa : pat ≤ 3) (hFW : fst * wid ≤ 16) (hLW : las * wid ≤ 16) (hF4 : fst ≤ 4) (hL4 : las ≤ 4) (hpo : ∀ a, a < fst → FI wid cnt inp a ≠ 0 → cnt < 16) : MX (S := Nat × Int32 × Nat × Nat × Nat × Int32 × (Nat → Nat) × (Nat → Nat) × (Nat → Int32) × (Nat → Int32) × (Nat → Nat) × (Nat → Nat) × (Nat → Int32)) (SX := Nat × Int32 × Nat × Nat × Nat × Int32 × (Nat → Nat) × (Nat → Nat) × (Nat → Int32) × (Nat → Int32) × (Nat → Nat) × (Nat → Nat) × (Nat → Int32)) l D cT sa yX4_open wsX4_open rmX4_open [.ref sw, .int x] [(sw, cSw sA sC ha aS aH q ra), (sA, cSt fst wid mid las pat bro mov cnt sI sO sB sM sG sW), (sI, aN (cT 0) 16 inp), (sO, aN (cT 0) 16 outs), (sB, aN (cT 0) 16 brd), (q, cPl pn pa qf qt qb qr ph qhf qht pl pm pb qs), (qf, aN (cT 0) 16 pfr), (qt, aN (cT 0) 16 pto), (qb, aI (cT 0) 16 pbf), (qr, aI (cT 0) 16 ptr), (qhf, aN (cT 0) 4 phf), (qht, aN (cT 0) 4 pht), (qs, aI (cT 0) 16 pbs)] (fun r u => (∃ j, x = nI j ∧ j ≤ 3 ∧ r = nI (sumTo (fun a => sumTo (fun b => obV wid mid pat bro cnt inp outs brd j a b) las) fst)) ∧ (∀ c, c < 16 → u.2.2.2.2.2.2.1 c < 65536 ∧ u.2.2.2.2.2.2.2.1 c < 65536)) (fun u => [(sw, cSw sA sC ha aS aH q ra), (sA, cSt fst wid mid las pat bro mov cnt sI sO sB sM sG sW), (sI, aN (cT 0) 16 inp), (sO, aN (cT 0) 16 outs), (sB, aN (cT 0) 16 brd), (q, cPl u.1 u.2.1 qf qt qb qr u.2.2.1 qhf qht u.2.2.2.1 u.2.2.2.2.1 u.2.2.2.2.2.1 qs), (qf, aN (cT 0) 16 u.2.2.2.2.2.2.1), (qt, aN (cT 0) 16 u.2.2.2.2.2.2.2.1), (qb, aI (cT 0) 16 u.2.2.2.2.2.2.2.2.1), (qr, aI (cT 0) 16 u.2.2.2.2.2.2.2.2.2.1), (qhf, aN (cT 0) 4 u.2.2.2.2.2.2.2.2.2.2.1), (qht, aN (cT 0) 4 u.2.2.2.2.2.2.2.2.2.2.2.1), (qs, aI (cT 0) 16 u.2.2.2.2.2.2.2.2.2.2.2.2)]) (fun E u => (E = xIA ∧ ¬ CIn 4 x) ∧ (∀ c, c < 16 → u.2.2.2.2.2.2.1 c < 65536 ∧ u.2.2.2.2.2.2.2.1 c < 65536)) (fun u => [(sw, cSw sA sC ha aS aH q ra), (sA, cSt fst wid mid las pat bro mov cnt sI sO sB sM sG sW), (sI, aN (cT 0) 16 inp), (sO, aN (cT 0) 16 outs), (sB, aN (cT 0) 16 brd), (q, cPl u.1 u.2.1 qf qt qb qr u.2.2.1 qhf qht u.2.2.2.1 u.2.2.2.2.1 u.2.2.2.2.2.1 qs), (qf, aN (cT 0) 16 u.2.2.2.2.2.2.1), (qt, aN (cT 0) 16 u.2.2.2.2.2.2.2.1), (qb, aI (cT 0) 16 u.2.2.2.2.2.2.2.2.1), (qr, aI (cT 0) 16 u.2.2.2.2.2.2.2.2.2.1), (qhf, aN (cT 0) 4 u.2.2.2.2.2.2.2.2.2.2.1), (qht, aN (cT 0) 4 u.2.2.2.2.2.2.2.2.2.2.2.1), (qs, aI (cT 0) 16 u.2.2.2.2.2.2.2.2.2.2.2.2)]) 1 6 := by
  refine m_X [(0, .ref sw), (1, .int x)] (by decide +kernel) rfl (Nat.le_of_ble_eq_true rfl) rfl ?_
  intro p e s m args below meth c A hAe C hA hr hk htab hX
  generalize hQ : vx_MQ below (va_Qi _ _ A) (vx_X _ _ A) args s 1 6 A = Q
  refine r_iln (pc := 0) C 1 rfl dX4_open_0 ?_
  refine r_zlt (pc := 1) (tgt := 9) C dX4_open_1 (by decide) (fun c1 => ?_) (fun c1 => ?_)
  · subst hQ
    exact e_throw (is := 250) (cls := xIA) (text := "most is 0 to 3") C rfl hA hlt hX htab hk (by decide +kernel) (mw 1 rfl) (mw 2 rfl) (by decide +kernel) (by decide +kernel) aX4_open_56 xw_IA xg_IA (Nat.le_of_ble_eq_true rfl) (Nat.le_of_ble_eq_true rfl) (Nat.le_of_ble_eq_true rfl) (Nat.le_of_ble_eq_true rfl) (Nat.le_of_ble_eq_true rfl) (Nat.le_of_ble_eq_true rfl) ⟨pn, pa, ph, pl, pm, pb, pfr, pto, pbf, ptr, phf, pht, pbs⟩ rfl (⟨⟨rfl, (fun ⟨k, hk, _⟩ => nI_pos (by omega) (hk ▸ c1))⟩, hfr⟩) dX4_open_9 dX4_open_12 dX4_open_13 dX4_open_15 dX4_open_18
  · obtain ⟨j1, hj1, rfl⟩ := nI_of c1
    refine r_iln (pc := 4) C 1 rfl dX4_open_4 ?_
    refine r_ic (pc := 5) (v := nI 3) C rfl dX4_open_5 ?_
    refine r_cleN (pc := 6) (tgt := 19) C (by omega) (by omega) dX4_open_6 (by decide) (fun c6 => ?_) (fun c6 => ?_)
    · refine r_ic (pc := 19) (v := nI 0) C rfl dX4_open_19 ?_
      refine r_isn (pc := 20) C [1, 2, 0] [(0, .ref sw), (1, .int (nI j1)), (2, .int (nI 0))] rfl (by decide) rfl dX4_open_20 ?_
      refine r_ic (pc := 21) (v := nI 0) C rfl dX4_open_21 ?_
      refine r_isn (pc := 22) C [1, 2, 3, 0] [(0, .ref sw), (1, .int (nI j1)), (2, .int (nI 0)), (3, .int (nI 0))] rfl (by decide) rfl dX4_open_22 ?_
      have L23 : ∀ (n23 : Nat) (a1 : Nat) (pn1 : Nat) (pa1 : Int32) (ph1 : Nat) (pl1 : Nat) (pm1 : Nat) (pb1 : Int32) (pfr1 : Nat → Nat) (pto1 : Nat → Nat) (pbf1 : Nat → Int32) (ptr1 : Nat → Int32) (phf1 : Nat → Nat) (pht1 : Nat → Nat) (pbs1 : Nat → Int32) (ha2 : a1 ≤ fst) (hfr1 : (∀ c, c < 16 → pfr1 c < 65536 ∧ pto1 c < 65536)), fst - a1 < n23 → RW p l e (headSpec wsX4_open rmX4_open).room s m args below meth c (IW s D A) 5 0 0 Q [(sw, cSw sA sC ha aS aH q ra), (sA, cSt fst wid mid las pat bro mov cnt sI sO sB sM sG sW), (sI, aN (cT 0) 16 inp), (sO, aN (cT 0) 16 outs), (sB, aN (cT 0) 16 brd), (q, cPl pn1 pa1 qf qt qb qr ph1 qhf qht pl1 pm1 pb1 qs), (qf, aN (cT 0) 16 pfr1), (qt, aN (cT 0) 16 pto1), (qb, aI (cT 0) 16 pbf1), (qr, aI (cT 0) 16 ptr1), (qhf, aN (cT 0) 4 phf1), (qht, aN (cT 0) 4 pht1), (qs, aI (cT 0) 16 pbs1)] 23 [(0, .ref sw), (1, .int (nI j1)), (2, .int (nI (sumTo (fun a => sumTo (fun b => obV wid mid pat bro cnt inp outs brd j1 a b) las) a1))), (3, .int (nI a1))] [] := by
        intro n23
        induction n23 with
        | zero => intro a1 pn1 pa1 ph1 pl1 pm1 pb1 pfr1 pto1 pbf1 ptr1 phf1 pht1 pbs1 ha2 hfr1 hn23; exact absurd hn23 (Nat.not_lt_zero _)
        | succ n23 ih23 =>
          intro a1 pn1 pa1 ph1 pl1 pm1 pb1 pfr1 pto1 pbf1 ptr1 phf1 pht1 pbs1 ha2 hfr1 hn23
          refine r_iln (pc := 23) C 3 rfl dX4_open_23 ?_
          refine r_aln (pc := 24) C 0 rfl dX4_open_24 ?_
          refine r_get (pc := 25) C iX4_open_X4 0 rfl rfl 0 (by decide) (mw 3 rfl) rfl rfl dX4_open_25 ?_
          refine r_get (pc := 28) C iX4_open_X3 1 rfl rfl 0 (by decide) (mw 4 rfl) rfl rfl dX4_open_28 ?_
          refine r_cgeN (pc := 31) (tgt := 72) C (by omega) (by omega) dX4_open_31 (by decide) (fun c31 => ?_) (fun c31 => ?_)
          · refine r_iln (pc := 72) C 2 rfl dX4_open_72 ?_
            subst hQ
            exact e_iX C hr hk (by omega) (by omega) ⟨pn1, pa1, ph1, pl1, pm1, pb1, pfr1, pto1, pbf1, ptr1, phf1, pht1, pbs1⟩ rfl (⟨⟨j1, rfl, by omega, congrArg (fun k => nI (sumTo _ k)) (by omega)⟩, hfr1⟩) dX4_open_73
          · refine r_ic (pc := 34) (v := nI 0) C rfl dX4_open_34 ?_
            refine r_is (pc := 35) C [1, 2, 3, 4, 0] [(0, .ref sw), (1, .int (nI j1)), (2, .int (nI (sumTo (fun a => sumTo (fun b => obV wid mid pat bro cnt inp outs brd j1 a b) las) a1))), (3, .int (nI a1)), (4, .int (nI 0))] (by decide) rfl dX4_open_35 ?_
            have L37 : ∀ (n37 : Nat) (b1 : Nat) (pn2 : Nat) (pa2 : Int32) (ph2 : Nat) (pl2 : Nat) (pm2 : Nat) (pb2 : Int32) (pfr2 : Nat → Nat) (pto2 : Nat → Nat) (pbf2 : Nat → Int32) (ptr2 : Nat → Int32) (phf2 : Nat → Nat) (pht2 : Nat → Nat) (pbs2 : Nat → Int32) (hb2 : b1 ≤ las) (hfr2 : (∀ c, c < 16 → pfr2 c < 65536 ∧ pto2 c < 65536)), las - b1 < n37 → RW p l e (headSpec wsX4_open rmX4_open).room s m args below meth c (IW s D A) 5 0 0 Q [(sw, cSw sA sC ha aS aH q ra), (sA, cSt fst wid mid las pat bro mov cnt sI sO sB sM sG sW), (sI, aN (cT 0) 16 inp), (sO, aN (cT 0) 16 outs), (sB, aN (cT 0) 16 brd), (q, cPl pn2 pa2 qf qt qb qr ph2 qhf qht pl2 pm2 pb2 qs), (qf, aN (cT 0) 16 pfr2), (qt, aN (cT 0) 16 pto2), (qb, aI (cT 0) 16 pbf2), (qr, aI (cT 0) 16 ptr2), (qhf, aN (cT 0) 4 phf2), (qht, aN (cT 0) 4 pht2), (qs, aI (cT 0) 16 pbs2)] 37 [(0, .ref sw), (1, .int (nI j1)), (2, .int (nI (sumTo (fun a => sumTo (fun b => obV wid mid pat bro cnt inp outs brd j1 a b) las) a1 + sumTo (fun b => obV wid mid pat bro cnt inp outs brd j1 a1 b) b1))), (3, .int (nI a1)), (4, .int (nI b1))] [] := by
              intro n37
              induction n37 with
              | zero => intro b1 pn2 pa2 ph2 pl2 pm2 pb2 pfr2 pto2 pbf2 ptr2 phf2 pht2 pbs2 hb2 hfr2 hn37; exact absurd hn37 (Nat.not_lt_zero _)
              | succ n37 ih37 =>
                intro b1 pn2 pa2 ph2 pl2 pm2 pb2 pfr2 pto2 pbf2 ptr2 phf2 pht2 pbs2 hb2 hfr2 hn37
                refine r_il (pc := 37) C 4 rfl dX4_open_37 ?_
                refine r_aln (pc := 39) C 0 rfl dX4_open_39 ?_
                refine r_get (pc := 40) C iX4_open_X4 0 rfl rfl 0 (by decide) (mw 3 rfl) rfl rfl dX4_open_40 ?_
                refine r_get (pc := 43) C iX4_open_X3 1 rfl rfl 3 (by decide) (mw 5 rfl) rfl rfl dX4_open_43 ?_
                refine r_cgeN (pc := 46) (tgt := 66) C (by omega) (by omega) dX4_open_46 (by decide) (fun c46 => ?_) (fun c46 => ?_)
                · refine r_incN (pc := 66) C 3 [1, 2, 3, 0, 4] [(0, .ref sw), (1, .int (nI j1)), (2, .int (nI (sumTo (fun a => sumTo (fun b => obV wid mid pat bro cnt inp outs brd j1 a b) las) a1 + sumTo (fun b => obV wid mid pat bro cnt inp outs brd j1 a1 b) b1))), (3, .int (nI (a1 + 1))), (4, .int (nI b1))] rfl (by decide) rfl dX4_open_66 ?_
                  refine r_goto (pc := 69) (tgt := 23) C dX4_open_69 (by decide) ?_
                  rw [show b1 = las by omega]
                  refine r_lv [0, 1, 2, 3] (lv2 := [(0, .ref sw), (1, .int (nI j1)), (2, .int (nI (sumTo (fun a => sumTo (fun b => obV wid mid pat bro cnt inp outs brd j1 a b) las) a1 + sumTo (fun b => obV wid mid pat bro cnt inp outs brd j1 a1 b) las))), (3, .int (nI (a1 + 1)))]) rfl ?_
                  exact ih23 (a1 + 1) pn2 pa2 ph2 pl2 pm2 pb2 pfr2 pto2 pbf2 ptr2 phf2 pht2 pbs2 (by omega) hfr2 (by omega)
                · refine r_iln (pc := 49) C 2 rfl dX4_open_49 ?_
                  refine r_aln (pc := 50) C 0 rfl dX4_open_50 ?_
                  refine r_iln (pc := 51) C 3 rfl dX4_open_51 ?_
                  refine r_il (pc := 52) C 4 rfl dX4_open_52 ?_
                  refine r_iln (pc := 54) C 1 rfl dX4_open_54 ?_
                  refine c_WVi (pc := 55) (As := [.int (nI a1), .int (nI b1), .int (nI j1)]) (wc := [(sw, cSw sA sC ha aS aH q ra), (sA, cSt fst wid mid las pat bro mov cnt sI sO sB sM sG sW), (sI, aN (cT 0) 16 inp), (sO, aN (cT 0) 16 outs), (sB, aN (cT 0) 16 brd), (q, cPl pn2 pa2 qf qt qb qr ph2 qhf qht pl2 pm2 pb2 qs), (qf, aN (cT 0) 16 pfr2), (qt, aN (cT 0) 16 pto2), (qb, aI (cT 0) 16 pbf2), (qr, aI (cT 0) 16 ptr2), (qhf, aN (cT 0) 4 phf2), (qht, aN (cT 0) 4 pht2), (qs, aI (cT 0) 16 pbs2)]) (wr := []) (qr := 0) C hA (k_X4_openBetween l D cT sw sA sC ha aS aH q ra fst wid mid las pat bro mov cnt sI sO sB sM sG sW inp outs brd pn2 pa2 qf qt qb qr ph2 qhf qht pl2 pm2 pb2 qs pfr2 pto2 pbf2 ptr2 phf2 pht2 pbs2 a1 b1 j1 hCn hIn hOu hBo hW1 hW2 hfr2 hok hM4 hPa hFW hLW hF4 hL4 (by omega) (by omega) (by omega) (hpo _ (by omega))) (cwV 3 C.1.2.2.2.2 gX4_open_X4_openBetween rfl rfl rfl n_X4_openBetween ⟨Nat.le_of_ble_eq_true rfl, Nat.le_of_ble_eq_true rfl⟩) rfl rfl [0, 1, 2, 3, 4, 5, 6, 7, 8, 9, 10, 11, 12] [] rfl rfl ⟨by decide, by decide⟩ (by decide) [0, 1, 2, 3, 4, 5, 6, 7, 8, 9, 10, 11, 12] (fun u2 => [(sw, cSw sA sC ha aS aH q ra), (sA, cSt fst wid mid las pat bro mov cnt sI sO sB sM sG sW), (sI, aN (cT 0) 16 inp), (sO, aN (cT 0) 16 outs), (sB, aN (cT 0) 16 brd), (q, cPl u2.1 u2.2.1 qf qt qb qr u2.2.2.1 qhf qht u2.2.2.2.1 u2.2.2.2.2.1 u2.2.2.2.2.2.1 qs), (qf, aN (cT 0) 16 u2.2.2.2.2.2.2.1), (qt, aN (cT 0) 16 u2.2.2.2.2.2.2.2.1), (qb, aI (cT 0) 16 u2.2.2.2.2.2.2.2.2.1), (qr, aI (cT 0) 16 u2.2.2.2.2.2.2.2.2.2.1), (qhf, aN (cT 0) 4 u2.2.2.2.2.2.2.2.2.2.2.1), (qht, aN (cT 0) 4 u2.2.2.2.2.2.2.2.2.2.2.2.1), (qs, aI (cT 0) 16 u2.2.2.2.2.2.2.2.2.2.2.2.2)]) (fun _ => rfl) (by decide) rfl rfl (Nat.le_of_ble_eq_true rfl) ⟨Nat.zero_le _, Nat.zero_le _⟩ dX4_open_55 (fun r55 u2 h1 => ?_)
                  obtain ⟨rfl, h1⟩ := h1
                  refine r_iaddN (pc := 58) C dX4_open_58 ?_
                  refine r_v (y := nI (sumTo (fun a => sumTo (fun b => obV wid mid pat bro cnt inp outs brd j1 a b) las) a1 + sumTo (fun b => obV wid mid pat bro cnt inp outs brd j1 a1 b) (b1 + 1))) (congrArg nI (Nat.add_assoc _ _ _)) ?_
                  refine r_isn (pc := 59) C [1, 2, 0, 3, 4] [(0, .ref sw), (1, .int (nI j1)), (2, .int (nI (sumTo (fun a => sumTo (fun b => obV wid mid pat bro cnt inp outs brd j1 a b) las) a1 + sumTo (fun b => obV wid mid pat bro cnt inp outs brd j1 a1 b) (b1 + 1)))), (3, .int (nI a1)), (4, .int (nI b1))] rfl (by decide) rfl dX4_open_59 ?_
                  refine r_incN (pc := 60) C 4 [1, 2, 3, 4, 0] [(0, .ref sw), (1, .int (nI j1)), (2, .int (nI (sumTo (fun a => sumTo (fun b => obV wid mid pat bro cnt inp outs brd j1 a b) las) a1 + sumTo (fun b => obV wid mid pat bro cnt inp outs brd j1 a1 b) (b1 + 1)))), (3, .int (nI a1)), (4, .int (nI (b1 + 1)))] rfl (by decide) rfl dX4_open_60 ?_
                  refine r_goto (pc := 63) (tgt := 37) C dX4_open_63 (by decide) ?_
                  exact ih37 (b1 + 1) u2.1 u2.2.1 u2.2.2.1 u2.2.2.2.1 u2.2.2.2.2.1 u2.2.2.2.2.2.1 u2.2.2.2.2.2.2.1 u2.2.2.2.2.2.2.2.1 u2.2.2.2.2.2.2.2.2.1 u2.2.2.2.2.2.2.2.2.2.1 u2.2.2.2.2.2.2.2.2.2.2.1 u2.2.2.2.2.2.2.2.2.2.2.2.1 u2.2.2.2.2.2.2.2.2.2.2.2.2 (by omega) h1 (by omega)
            exact L37 _ 0 pn1 pa1 ph1 pl1 pm1 pb1 pfr1 pto1 pbf1 ptr1 phf1 pht1 pbs1 (Nat.zero_le _) hfr1 (Nat.lt_succ_self _)
      exact L23 _ 0 pn pa ph pl pm pb pfr pto pbf ptr phf pht pbs (Nat.zero_le _) hfr (Nat.lt_succ_self _)
    · subst hQ
      exact e_throw (is := 250) (cls := xIA) (text := "most is 0 to 3") C rfl hA hlt hX htab hk (by decide +kernel) (mw 1 rfl) (mw 2 rfl) (by decide +kernel) (by decide +kernel) aX4_open_56 xw_IA xg_IA (Nat.le_of_ble_eq_true rfl) (Nat.le_of_ble_eq_true rfl) (Nat.le_of_ble_eq_true rfl) (Nat.le_of_ble_eq_true rfl) (Nat.le_of_ble_eq_true rfl) (Nat.le_of_ble_eq_true rfl) ⟨pn, pa, ph, pl, pm, pb, pfr, pto, pbf, ptr, phf, pht, pbs⟩ rfl (⟨⟨rfl, (fun ⟨k, hk, hk2⟩ => by have := (nI_eq (by omega) (by omega)).mp hk; omega)⟩, hfr⟩) dX4_open_9 dX4_open_12 dX4_open_13 dX4_open_15 dX4_open_18

theorem iX4_fewest_X3 : ∀ w ∈ u_ws RX3 TX3 14, w ∈ wsX4_fewest := by decide +kernel
theorem iX4_fewest_X4 : ∀ w ∈ u_ws RX4 TX4 7, w ∈ wsX4_fewest := by decide +kernel
abbrev rmX4_fewest : Room := { frames := 27, cells := 0, slots := 0, locals := 671 }
theorem n_X4_fewest : yX4_fewest.cls = RX4 ∧ yX4_fewest.cls ≠ "java/lang/invoke/MethodHandle" ∧ yX4_fewest.cls ≠ "java/lang/invoke/VarHandle" ∧ (parseMethodDescriptor yX4_fewest.desc).map (fun d => d.parameters.length) = some 0 := by decide +kernel
set_option maxHeartbeats 4000000 in
set_option maxRecDepth 100000 in
theorem k_X4_fewest (l : Launch) (D : va_G) (cT : Nat → ClassId) (sw sA sC ha aS aH q ra fst wid mid las pat bro mov cnt sI sO sB sM sG sW : Nat) (inp outs brd : Nat → Nat) (pn : Nat) (pa : Int32) (qf qt qb qr ph qhf qht pl pm : Nat) (pb : Int32) (qs : Nat) (pfr pto : Nat → Nat) (pbf ptr : Nat → Int32) (phf pht : Nat → Nat) (pbs : Nat → Int32) (hCn : cnt ≤ 16) (hIn : ∀ c, c < 16 → inp c < 16) (hOu : ∀ c, c < 16 → outs c < 65536) (hBo : ∀ c, c < 16 → brd c < 4) (hW1 : 1 ≤ wid) (hW2 : wid ≤ 4) (hfr : ∀ c, c < 16 → pfr c < 65536 ∧ pto c < 65536) (hok : Ok1 cnt wid inp outs brd) (hM4 : mid ≤ 4) (hPa : pat ≤ 3) : MWi (S := Nat × Int32 × Nat × Nat × Nat × Int32 × (Nat → Nat) × (Nat → Nat) × (Nat → Int32) × (Nat → Int32) × (Nat → Nat) × (Nat → Nat) × (Nat → Int32)) l D cT yX4_fewest wsX4_fewest rmX4_fewest [.ref sw] [(sw, cSw sA sC ha aS aH q ra), (sA, cSt fst wid mid las pat bro mov cnt sI sO sB sM sG sW), (sI, aN (cT 0) 16 inp), (sO, aN (cT 0) 16 outs), (sB, aN (cT 0) 16 brd), (q, cPl pn pa qf qt qb qr ph qhf qht pl pm pb qs), (qf, aN (cT 0) 16 pfr), (qt, aN (cT 0) 16 pto), (qb, aI (cT 0) 16 pbf), (qr, aI (cT 0) 16 ptr), (qhf, aN (cT 0) 4 phf), (qht, aN (cT 0) 4 pht), (qs, aI (cT 0) 16 pbs)] (fun r u => ((∃ k, r = nI k ∧ k < mid ∧ (∃ π, Val cnt (fun j => decide (j < k)) (fun c => 2 ^ (inp c / wid)) (fun c => lbs wid (outs c)) π) ∧ ∀ d, d < k → ¬ ∃ π, Val cnt (fun j => decide (j < d)) (fun c => 2 ^ (inp c / wid)) (fun c => lbs wid (outs c)) π) ∨ (r = nI mid ∧ ∀ d, d < mid → ¬ ∃ π, Val cnt (fun j => decide (j < d)) (fun c => 2 ^ (inp c / wid)) (fun c => lbs wid (outs c)) π)) ∧ (∀ c, c < 16 → u.2.2.2.2.2.2.1 c < 65536 ∧ u.2.2.2.2.2.2.2.1 c < 65536)) (fun u => [(sw, cSw sA sC ha aS aH q ra), (sA, cSt fst wid mid las pat bro mov cnt sI sO sB sM sG sW), (sI, aN (cT 0) 16 inp), (sO, aN (cT 0) 16 outs), (sB, aN (cT 0) 16 brd), (q, cPl u.1 u.2.1 qf qt qb qr u.2.2.1 qhf qht u.2.2.2.1 u.2.2.2.2.1 u.2.2.2.2.2.1 qs), (qf, aN (cT 0) 16 u.2.2.2.2.2.2.1), (qt, aN (cT 0) 16 u.2.2.2.2.2.2.2.1), (qb, aI (cT 0) 16 u.2.2.2.2.2.2.2.2.1), (qr, aI (cT 0) 16 u.2.2.2.2.2.2.2.2.2.1), (qhf, aN (cT 0) 4 u.2.2.2.2.2.2.2.2.2.2.1), (qht, aN (cT 0) 4 u.2.2.2.2.2.2.2.2.2.2.2.1), (qs, aI (cT 0) 16 u.2.2.2.2.2.2.2.2.2.2.2.2)]) 0 0 := by
  refine m_Wi [(0, .ref sw)] (by decide +kernel) rfl (Nat.le_of_ble_eq_true rfl) rfl ?_
  intro p e s m args below meth c A hAe C hA hr hk hnm_
  generalize hQ : MQ below (va_Qi _ _ A) args s 0 0 A = Q
  refine r_ic (pc := 0) (v := nI 0) C rfl dX4_fewest_0 ?_
  refine r_isn (pc := 1) C [1, 0] [(0, .ref sw), (1, .int (nI 0))] rfl (by decide) rfl dX4_fewest_1 ?_
  have L2 : ∀ (n2 : Nat) (i : Nat) (pn1 : Nat) (pa1 : Int32) (ph1 : Nat) (pl1 : Nat) (pm1 : Nat) (pb1 : Int32) (pfr1 : Nat → Nat) (pto1 : Nat → Nat) (pbf1 : Nat → Int32) (ptr1 : Nat → Int32) (phf1 : Nat → Nat) (pht1 : Nat → Nat) (pbs1 : Nat → Int32) (hi2 : i ≤ mid) (hfr1 : (∀ c, c < 16 → pfr1 c < 65536 ∧ pto1 c < 65536)) (hq : ∀ d, d < i → ¬ ∃ π, Val cnt (fun j => decide (j < d)) (fun c => 2 ^ (inp c / wid)) (fun c => lbs wid (outs c)) π), mid - i < n2 → RW p l e (headSpec wsX4_fewest rmX4_fewest).room s m args below meth c (IW s D A) 2 0 0 Q [(sw, cSw sA sC ha aS aH q ra), (sA, cSt fst wid mid las pat bro mov cnt sI sO sB sM sG sW), (sI, aN (cT 0) 16 inp), (sO, aN (cT 0) 16 outs), (sB, aN (cT 0) 16 brd), (q, cPl pn1 pa1 qf qt qb qr ph1 qhf qht pl1 pm1 pb1 qs), (qf, aN (cT 0) 16 pfr1), (qt, aN (cT 0) 16 pto1), (qb, aI (cT 0) 16 pbf1), (qr, aI (cT 0) 16 ptr1), (qhf, aN (cT 0) 4 phf1), (qht, aN (cT 0) 4 pht1), (qs, aI (cT 0) 16 pbs1)] 2 [(0, .ref sw), (1, .int (nI i))] [] := by
    intro n2
    induction n2 with
    | zero => intro i pn1 pa1 ph1 pl1 pm1 pb1 pfr1 pto1 pbf1 ptr1 phf1 pht1 pbs1 hi2 hfr1 hq hn2; exact absurd hn2 (Nat.not_lt_zero _)
    | succ n2 ih2 =>
      intro i pn1 pa1 ph1 pl1 pm1 pb1 pfr1 pto1 pbf1 ptr1 phf1 pht1 pbs1 hi2 hfr1 hq hn2
      refine r_iln (pc := 2) C 1 rfl dX4_fewest_2 ?_
      refine r_aln (pc := 3) C 0 rfl dX4_fewest_3 ?_
      refine r_get (pc := 4) C iX4_fewest_X4 0 rfl rfl 0 (by decide) (mw 1 rfl) rfl rfl dX4_fewest_4 ?_
      refine r_get (pc := 7) C iX4_fewest_X3 1 rfl rfl 2 (by decide) (mw 2 rfl) rfl rfl dX4_fewest_7 ?_
      refine r_cgeN (pc := 10) (tgt := 36) C (by omega) (by omega) dX4_fewest_10 (by decide) (fun c10 => ?_) (fun c10 => ?_)
      · refine r_aln (pc := 36) C 0 rfl dX4_fewest_36 ?_
        refine r_get (pc := 37) C iX4_fewest_X4 0 rfl rfl 0 (by decide) (mw 1 rfl) rfl rfl dX4_fewest_37 ?_
        refine r_get (pc := 40) C iX4_fewest_X3 1 rfl rfl 2 (by decide) (mw 2 rfl) rfl rfl dX4_fewest_40 ?_
        subst hQ
        exact e_iW C hr hk (Nat.le_refl _) (Nat.le_refl _) ⟨pn1, pa1, ph1, pl1, pm1, pb1, pfr1, pto1, pbf1, ptr1, phf1, pht1, pbs1⟩ rfl (⟨Or.inr ⟨rfl, fun d hd => hq d (by omega)⟩, hfr1⟩) dX4_fewest_43
      · refine r_aln (pc := 13) C 0 rfl dX4_fewest_13 ?_
        refine r_get (pc := 14) C iX4_fewest_X4 0 rfl rfl 5 (by decide) (mw 3 rfl) rfl rfl dX4_fewest_14 ?_
        refine r_aln (pc := 17) C 0 rfl dX4_fewest_17 ?_
        refine r_get (pc := 18) C iX4_fewest_X4 0 rfl rfl 0 (by decide) (mw 1 rfl) rfl rfl dX4_fewest_18 ?_
        refine r_iln (pc := 21) C 1 rfl dX4_fewest_21 ?_
        refine c_WVi (pc := 22) (As := [.ref sA, .int (nI i)]) (wc := [(q, cPl pn1 pa1 qf qt qb qr ph1 qhf qht pl1 pm1 pb1 qs), (qf, aN (cT 0) 16 pfr1), (qt, aN (cT 0) 16 pto1), (qb, aI (cT 0) 16 pbf1), (qr, aI (cT 0) 16 ptr1), (qhf, aN (cT 0) 4 phf1), (qht, aN (cT 0) 4 pht1), (qs, aI (cT 0) 16 pbs1), (sA, cSt fst wid mid las pat bro mov cnt sI sO sB sM sG sW), (sI, aN (cT 0) 16 inp), (sO, aN (cT 0) 16 outs), (sB, aN (cT 0) 16 brd)]) (wr := [(sw, cSw sA sC ha aS aH q ra)]) (qr := 5) C hA (k_X1_wouldDo l D cT q pn1 pa1 qf qt qb qr ph1 qhf qht pl1 pm1 pb1 qs pfr1 pto1 pbf1 ptr1 phf1 pht1 pbs1 sA fst wid mid las pat bro mov cnt sI sO sB sM sG sW inp outs brd i hCn hIn hOu hBo hW1 hW2 hfr1 hok (by omega)) (cwV 2 C.1.2.2.2.2 gX4_fewest_X1_wouldDo rfl rfl rfl n_X1_wouldDo ⟨Nat.le_of_ble_eq_true rfl, Nat.le_of_ble_eq_true rfl⟩) rfl rfl [5, 6, 7, 8, 9, 10, 11, 12, 1, 2, 3, 4] [0] rfl rfl ⟨by decide, by decide⟩ (by decide) [0, 9, 10, 11, 12, 1, 2, 3, 4, 5, 6, 7, 8] (fun u2 => [(sw, cSw sA sC ha aS aH q ra), (sA, cSt fst wid mid las pat bro mov cnt sI sO sB sM sG sW), (sI, aN (cT 0) 16 inp), (sO, aN (cT 0) 16 outs), (sB, aN (cT 0) 16 brd), (q, cPl u2.1 u2.2.1 qf qt qb qr u2.2.2.1 qhf qht u2.2.2.2.1 u2.2.2.2.2.1 u2.2.2.2.2.2.1 qs), (qf, aN (cT 0) 16 u2.2.2.2.2.2.2.1), (qt, aN (cT 0) 16 u2.2.2.2.2.2.2.2.1), (qb, aI (cT 0) 16 u2.2.2.2.2.2.2.2.2.1), (qr, aI (cT 0) 16 u2.2.2.2.2.2.2.2.2.2.1), (qhf, aN (cT 0) 4 u2.2.2.2.2.2.2.2.2.2.2.1), (qht, aN (cT 0) 4 u2.2.2.2.2.2.2.2.2.2.2.2.1), (qs, aI (cT 0) 16 u2.2.2.2.2.2.2.2.2.2.2.2.2)]) (fun _ => rfl) (by decide) rfl rfl (Nat.le_of_ble_eq_true rfl) ⟨Nat.zero_le _, Nat.zero_le _⟩ dX4_fewest_22 (fun r22 u2 h1 => ?_)
        obtain ⟨h1, h1p⟩ := h1
        rcases h1 with ⟨rfl, h1⟩ | ⟨rfl, h1⟩
        · refine r_zeqN (pc := 25) (tgt := 30) C (by omega) dX4_fewest_25 (by decide) (fun h => absurd h (by decide)) (fun _ => ?_)
          refine r_iln (pc := 28) C 1 rfl dX4_fewest_28 ?_
          subst hQ
          exact e_iW C hr hk (Nat.le_refl _) (Nat.le_refl _) ⟨u2.1, u2.2.1, u2.2.2.1, u2.2.2.2.1, u2.2.2.2.2.1, u2.2.2.2.2.2.1, u2.2.2.2.2.2.2.1, u2.2.2.2.2.2.2.2.1, u2.2.2.2.2.2.2.2.2.1, u2.2.2.2.2.2.2.2.2.2.1, u2.2.2.2.2.2.2.2.2.2.2.1, u2.2.2.2.2.2.2.2.2.2.2.2.1, u2.2.2.2.2.2.2.2.2.2.2.2.2⟩ rfl (⟨Or.inl ⟨i, rfl, by omega, h1, hq⟩, h1p⟩) dX4_fewest_29
        · refine r_zeqN (pc := 25) (tgt := 30) C (by omega) dX4_fewest_25 (by decide) (fun _ => ?_) (fun h => absurd h (by decide))
          refine r_incN (pc := 30) C 1 [1, 0] [(0, .ref sw), (1, .int (nI (i + 1)))] rfl (by decide) rfl dX4_fewest_30 ?_
          refine r_goto (pc := 33) (tgt := 2) C dX4_fewest_33 (by decide) ?_
          exact ih2 (i + 1) u2.1 u2.2.1 u2.2.2.1 u2.2.2.2.1 u2.2.2.2.2.1 u2.2.2.2.2.2.1 u2.2.2.2.2.2.2.1 u2.2.2.2.2.2.2.2.1 u2.2.2.2.2.2.2.2.2.1 u2.2.2.2.2.2.2.2.2.2.1 u2.2.2.2.2.2.2.2.2.2.2.1 u2.2.2.2.2.2.2.2.2.2.2.2.1 u2.2.2.2.2.2.2.2.2.2.2.2.2 (by omega) h1p (fun d hd => by rcases Nat.lt_succ_iff_lt_or_eq.mp hd with g | g; exact hq d g; subst g; exact h1) (by omega)
  exact L2 _ 0 pn pa ph pl pm pb pfr pto pbf ptr phf pht pbs (Nat.zero_le _) hfr (fun d hd => absurd hd (Nat.not_lt_zero _)) (Nat.lt_succ_self _)

theorem iX4_weakest_X3 : ∀ w ∈ u_ws RX3 TX3 14, w ∈ wsX4_weakest := by decide +kernel
theorem iX4_weakest_X4 : ∀ w ∈ u_ws RX4 TX4 7, w ∈ wsX4_weakest := by decide +kernel
abbrev rmX4_weakest : Room := { frames := 27, cells := 0, slots := 0, locals := 672 }
theorem n_X4_weakest : yX4_weakest.cls = RX4 ∧ yX4_weakest.cls ≠ "java/lang/invoke/MethodHandle" ∧ yX4_weakest.cls ≠ "java/lang/invoke/VarHandle" ∧ (parseMethodDescriptor yX4_weakest.desc).map (fun d => d.parameters.length) = some 0 := by decide +kernel
set_option maxHeartbeats 4000000 in
set_option maxRecDepth 100000 in
theorem k_X4_weakest (l : Launch) (D : va_G) (cT : Nat → ClassId) (sw sA sC ha aS aH q ra fst wid mid las pat bro mov cnt sI sO sB sM sG sW : Nat) (inp outs brd : Nat → Nat) (pn : Nat) (pa : Int32) (qf qt qb qr ph qhf qht pl pm : Nat) (pb : Int32) (qs : Nat) (pfr pto : Nat → Nat) (pbf ptr : Nat → Int32) (phf pht : Nat → Nat) (pbs : Nat → Int32) (hCn : cnt ≤ 16) (hIn : ∀ c, c < 16 → inp c < 16) (hOu : ∀ c, c < 16 → outs c < 65536) (hBo : ∀ c, c < 16 → brd c < 4) (hW1 : 1 ≤ wid) (hW2 : wid ≤ 4) (hfr : ∀ c, c < 16 → pfr c < 65536 ∧ pto c < 65536) (hok : Ok1 cnt wid inp outs brd) (hM4 : mid ≤ 4) (hPa : pat ≤ 3) (hb2 : bro < 16) : MWi (S := Nat × Int32 × Nat × Nat × Nat × Int32 × (Nat → Nat) × (Nat → Nat) × (Nat → Int32) × (Nat → Int32) × (Nat → Nat) × (Nat → Nat) × (Nat → Int32)) l D cT yX4_weakest wsX4_weakest rmX4_weakest [.ref sw] [(sw, cSw sA sC ha aS aH q ra), (sA, cSt fst wid mid las pat bro mov cnt sI sO sB sM sG sW), (sI, aN (cT 0) 16 inp), (sO, aN (cT 0) 16 outs), (sB, aN (cT 0) 16 brd), (q, cPl pn pa qf qt qb qr ph qhf qht pl pm pb qs), (qf, aN (cT 0) 16 pfr), (qt, aN (cT 0) 16 pto), (qb, aI (cT 0) 16 pbf), (qr, aI (cT 0) 16 ptr), (qhf, aN (cT 0) 4 phf), (qht, aN (cT 0) 4 pht), (qs, aI (cT 0) 16 pbs)] (fun r u => (∃ fm wm, WKI wid mid bro cnt inp outs brd mid fm wm ∧ ((wm = -1 ∧ r = -1) ∨ (¬ wm = -1 ∧ r = nI 10 * fm + wm))) ∧ (∀ c, c < 16 → u.2.2.2.2.2.2.1 c < 65536 ∧ u.2.2.2.2.2.2.2.1 c < 65536)) (fun u => [(sw, cSw sA sC ha aS aH q ra), (sA, cSt fst wid mid las pat bro mov cnt sI sO sB sM sG sW), (sI, aN (cT 0) 16 inp), (sO, aN (cT 0) 16 outs), (sB, aN (cT 0) 16 brd), (q, cPl u.1 u.2.1 qf qt qb qr u.2.2.1 qhf qht u.2.2.2.1 u.2.2.2.2.1 u.2.2.2.2.2.1 qs), (qf, aN (cT 0) 16 u.2.2.2.2.2.2.1), (qt, aN (cT 0) 16 u.2.2.2.2.2.2.2.1), (qb, aI (cT 0) 16 u.2.2.2.2.2.2.2.2.1), (qr, aI (cT 0) 16 u.2.2.2.2.2.2.2.2.2.1), (qhf, aN (cT 0) 4 u.2.2.2.2.2.2.2.2.2.2.1), (qht, aN (cT 0) 4 u.2.2.2.2.2.2.2.2.2.2.2.1), (qs, aI (cT 0) 16 u.2.2.2.2.2.2.2.2.2.2.2.2)]) 0 0 := by
  refine m_Wi [(0, .ref sw)] (by decide +kernel) rfl (Nat.le_of_ble_eq_true rfl) rfl ?_
  intro p e s m args below meth c A hAe C hA hr hk hnm_
  generalize hQ : MQ below (va_Qi _ _ A) args s 0 0 A = Q
  refine r_ic (pc := 0) (v := (-1)) C rfl dX4_weakest_0 ?_
  refine r_isn (pc := 1) C [1, 0] [(0, .ref sw), (1, .int (-1))] rfl (by decide) rfl dX4_weakest_1 ?_
  refine r_ic (pc := 2) (v := (-1)) C rfl dX4_weakest_2 ?_
  refine r_isn (pc := 3) C [1, 2, 0] [(0, .ref sw), (1, .int (-1)), (2, .int (-1))] rfl (by decide) rfl dX4_weakest_3 ?_
  refine r_ic (pc := 4) (v := nI 0) C rfl dX4_weakest_4 ?_
  refine r_isn (pc := 5) C [1, 2, 3, 0] [(0, .ref sw), (1, .int (-1)), (2, .int (-1)), (3, .int (nI 0))] rfl (by decide) rfl dX4_weakest_5 ?_
  have L6 : ∀ (n6 : Nat) (m1 : Nat) (fm : Int32) (wm : Int32) (pn1 : Nat) (pa1 : Int32) (ph1 : Nat) (pl1 : Nat) (pm1 : Nat) (pb1 : Int32) (pfr1 : Nat → Nat) (pto1 : Nat → Nat) (pbf1 : Nat → Int32) (ptr1 : Nat → Int32) (phf1 : Nat → Nat) (pht1 : Nat → Nat) (pbs1 : Nat → Int32) (hm2 : m1 ≤ mid) (hfr1 : (∀ c, c < 16 → pfr1 c < 65536 ∧ pto1 c < 65536)) (hK : WKI wid mid bro cnt inp outs brd m1 fm wm), mid - m1 < n6 → RW p l e (headSpec wsX4_weakest rmX4_weakest).room s m args below meth c (IW s D A) 5 0 0 Q [(sw, cSw sA sC ha aS aH q ra), (sA, cSt fst wid mid las pat bro mov cnt sI sO sB sM sG sW), (sI, aN (cT 0) 16 inp), (sO, aN (cT 0) 16 outs), (sB, aN (cT 0) 16 brd), (q, cPl pn1 pa1 qf qt qb qr ph1 qhf qht pl1 pm1 pb1 qs), (qf, aN (cT 0) 16 pfr1), (qt, aN (cT 0) 16 pto1), (qb, aI (cT 0) 16 pbf1), (qr, aI (cT 0) 16 ptr1), (qhf, aN (cT 0) 4 phf1), (qht, aN (cT 0) 4 pht1), (qs, aI (cT 0) 16 pbs1)] 6 [(0, .ref sw), (1, .int fm), (2, .int wm), (3, .int (nI m1))] [] := by
    intro n6
    induction n6 with
    | zero => intro m1 fm wm pn1 pa1 ph1 pl1 pm1 pb1 pfr1 pto1 pbf1 ptr1 phf1 pht1 pbs1 hm2 hfr1 hK hn6; exact absurd hn6 (Nat.not_lt_zero _)
    | succ n6 ih6 =>
      intro m1 fm wm pn1 pa1 ph1 pl1 pm1 pb1 pfr1 pto1 pbf1 ptr1 phf1 pht1 pbs1 hm2 hfr1 hK hn6
      refine r_iln (pc := 6) C 3 rfl dX4_weakest_6 ?_
      refine r_aln (pc := 7) C 0 rfl dX4_weakest_7 ?_
      refine r_get (pc := 8) C iX4_weakest_X4 0 rfl rfl 0 (by decide) (mw 1 rfl) rfl rfl dX4_weakest_8 ?_
      refine r_get (pc := 11) C iX4_weakest_X3 1 rfl rfl 2 (by decide) (mw 2 rfl) rfl rfl dX4_weakest_11 ?_
      refine r_cgeN (pc := 14) (tgt := 74) C (by omega) (by omega) dX4_weakest_14 (by decide) (fun c14 => ?_) (fun c14 => ?_)
      · refine r_iln (pc := 74) C 2 rfl dX4_weakest_74 ?_
        refine r_ic (pc := 75) (v := (-1)) C rfl dX4_weakest_75 ?_
        refine r_cne (pc := 76) (tgt := 83) C dX4_weakest_76 (by decide) (fun c76 => ?_) (fun c76 => ?_)
        · refine r_bi (pc := 83) (v := nI 10) C rfl dX4_weakest_83 ?_
          refine r_iln (pc := 85) C 1 rfl dX4_weakest_85 ?_
          refine r_imul (pc := 86) C dX4_weakest_86 ?_
          refine r_iln (pc := 87) C 2 rfl dX4_weakest_87 ?_
          refine r_iadd (pc := 88) C dX4_weakest_88 ?_
          subst hQ
          exact e_iW C hr hk (Nat.le_refl _) (Nat.le_refl _) ⟨pn1, pa1, ph1, pl1, pm1, pb1, pfr1, pto1, pbf1, ptr1, phf1, pht1, pbs1⟩ rfl (⟨⟨fm, wm, ((show m1 = mid by omega) ▸ hK), Or.inr ⟨c76, rfl⟩⟩, hfr1⟩) dX4_weakest_89
        · refine r_ic (pc := 79) (v := (-1)) C rfl dX4_weakest_79 ?_
          refine r_goto (pc := 80) (tgt := 89) C dX4_weakest_80 (by decide) ?_
          subst hQ
          exact e_iW C hr hk (Nat.le_refl _) (Nat.le_refl _) ⟨pn1, pa1, ph1, pl1, pm1, pb1, pfr1, pto1, pbf1, ptr1, phf1, pht1, pbs1⟩ rfl (⟨⟨fm, wm, ((show m1 = mid by omega) ▸ hK), Or.inl ⟨c76, rfl⟩⟩, hfr1⟩) dX4_weakest_89
      · refine r_aln (pc := 17) C 0 rfl dX4_weakest_17 ?_
        refine r_get (pc := 18) C iX4_weakest_X4 0 rfl rfl 0 (by decide) (mw 1 rfl) rfl rfl dX4_weakest_18 ?_
        refine r_iln (pc := 21) C 3 rfl dX4_weakest_21 ?_
        refine c_RV (pc := 22) (As := [.int (nI m1)]) (wc := [(sA, cSt fst wid mid las pat bro mov cnt sI sO sB sM sG sW)]) (qr := 1) C (k_X3_isBroken l D cT sA fst wid mid las pat bro mov cnt sI sO sB sM sG sW m1 (by omega) hb2) (cwV 1 C.1.2.2.2.2 gX4_weakest_X3_isBroken rfl rfl rfl n_X3_isBroken ⟨Nat.le_of_ble_eq_true rfl, Nat.le_of_ble_eq_true rfl⟩) [1] rfl rfl rfl rfl rfl (Nat.le_of_ble_eq_true rfl) ⟨Nat.zero_le _, Nat.zero_le _⟩ dX4_weakest_22 (fun r22 h1 => ?_)
        rcases h1 with ⟨rfl, h1⟩ | ⟨rfl, h1⟩
        · refine r_zeqN (pc := 25) (tgt := 32) C (by omega) dX4_weakest_25 (by decide) (fun h => absurd h (by decide)) (fun _ => ?_)
          refine r_ic (pc := 28) (v := (-1)) C rfl dX4_weakest_28 ?_
          refine r_goto (pc := 29) (tgt := 44) C dX4_weakest_29 (by decide) ?_
          refine r_is (pc := 44) C [1, 2, 3, 4, 0] [(0, .ref sw), (1, .int fm), (2, .int wm), (3, .int (nI m1)), (4, .int (-1))] (by decide) rfl dX4_weakest_44 ?_
          refine r_il (pc := 46) C 4 rfl dX4_weakest_46 ?_
          refine r_ic (pc := 48) (v := (-1)) C rfl dX4_weakest_48 ?_
          refine r_ceq (pc := 49) (tgt := 68) C dX4_weakest_49 (by decide) (fun c49 => ?_) (fun c49 => absurd c49 (by exact fun h => h rfl))
          refine r_incN (pc := 68) C 3 [1, 2, 3, 0, 4] [(0, .ref sw), (1, .int fm), (2, .int wm), (3, .int (nI (m1 + 1))), (4, .int (-1))] rfl (by decide) rfl dX4_weakest_68 ?_
          refine r_goto (pc := 71) (tgt := 6) C dX4_weakest_71 (by decide) ?_
          refine r_lv [0, 1, 2, 3] (lv2 := [(0, .ref sw), (1, .int fm), (2, .int wm), (3, .int (nI (m1 + 1)))]) rfl ?_
          exact ih6 (m1 + 1) fm wm pn1 pa1 ph1 pl1 pm1 pb1 pfr1 pto1 pbf1 ptr1 phf1 pht1 pbs1 (by omega) hfr1 (wk_skip hK h1) (by omega)
        · refine r_zeqN (pc := 25) (tgt := 32) C (by omega) dX4_weakest_25 (by decide) (fun _ => ?_) (fun h => absurd h (by decide))
          refine r_aln (pc := 32) C 0 rfl dX4_weakest_32 ?_
          refine r_get (pc := 33) C iX4_weakest_X4 0 rfl rfl 5 (by decide) (mw 3 rfl) rfl rfl dX4_weakest_33 ?_
          refine r_aln (pc := 36) C 0 rfl dX4_weakest_36 ?_
          refine r_get (pc := 37) C iX4_weakest_X4 0 rfl rfl 0 (by decide) (mw 1 rfl) rfl rfl dX4_weakest_37 ?_
          refine r_iln (pc := 40) C 3 rfl dX4_weakest_40 ?_
          refine c_WVi (pc := 41) (As := [.ref sA, .int (nI m1)]) (wc := [(q, cPl pn1 pa1 qf qt qb qr ph1 qhf qht pl1 pm1 pb1 qs), (qf, aN (cT 0) 16 pfr1), (qt, aN (cT 0) 16 pto1), (qb, aI (cT 0) 16 pbf1), (qr, aI (cT 0) 16 ptr1), (qhf, aN (cT 0) 4 phf1), (qht, aN (cT 0) 4 pht1), (qs, aI (cT 0) 16 pbs1), (sA, cSt fst wid mid las pat bro mov cnt sI sO sB sM sG sW), (sI, aN (cT 0) 16 inp), (sO, aN (cT 0) 16 outs), (sB, aN (cT 0) 16 brd)]) (wr := [(sw, cSw sA sC ha aS aH q ra)]) (qr := 5) C hA (k_X1_forLosing l D cT q pn1 pa1 qf qt qb qr ph1 qhf qht pl1 pm1 pb1 qs pfr1 pto1 pbf1 ptr1 phf1 pht1 pbs1 sA fst wid mid las pat bro mov cnt sI sO sB sM sG sW inp outs brd m1 hCn hIn hOu hBo hW1 hW2 hfr1 hok hM4 hPa (by omega)) (cwV 2 C.1.2.2.2.2 gX4_weakest_X1_forLosing rfl rfl rfl n_X1_forLosing ⟨Nat.le_of_ble_eq_true rfl, Nat.le_of_ble_eq_true rfl⟩) rfl rfl [5, 6, 7, 8, 9, 10, 11, 12, 1, 2, 3, 4] [0] rfl rfl ⟨by decide, by decide⟩ (by decide) [0, 9, 10, 11, 12, 1, 2, 3, 4, 5, 6, 7, 8] (fun u3 => [(sw, cSw sA sC ha aS aH q ra), (sA, cSt fst wid mid las pat bro mov cnt sI sO sB sM sG sW), (sI, aN (cT 0) 16 inp), (sO, aN (cT 0) 16 outs), (sB, aN (cT 0) 16 brd), (q, cPl u3.1 u3.2.1 qf qt qb qr u3.2.2.1 qhf qht u3.2.2.2.1 u3.2.2.2.2.1 u3.2.2.2.2.2.1 qs), (qf, aN (cT 0) 16 u3.2.2.2.2.2.2.1), (qt, aN (cT 0) 16 u3.2.2.2.2.2.2.2.1), (qb, aI (cT 0) 16 u3.2.2.2.2.2.2.2.2.1), (qr, aI (cT 0) 16 u3.2.2.2.2.2.2.2.2.2.1), (qhf, aN (cT 0) 4 u3.2.2.2.2.2.2.2.2.2.2.1), (qht, aN (cT 0) 4 u3.2.2.2.2.2.2.2.2.2.2.2.1), (qs, aI (cT 0) 16 u3.2.2.2.2.2.2.2.2.2.2.2.2)]) (fun _ => rfl) (by decide) rfl rfl (Nat.le_of_ble_eq_true rfl) ⟨Nat.zero_le _, Nat.zero_le _⟩ dX4_weakest_41 (fun r41 u3 h2 => ?_)
          skip
          refine r_is (pc := 44) C [1, 2, 3, 4, 0] [(0, .ref sw), (1, .int fm), (2, .int wm), (3, .int (nI m1)), (4, .int r41)] (by decide) rfl dX4_weakest_44 ?_
          refine r_il (pc := 46) C 4 rfl dX4_weakest_46 ?_
          refine r_ic (pc := 48) (v := (-1)) C rfl dX4_weakest_48 ?_
          refine r_ceq (pc := 49) (tgt := 68) C dX4_weakest_49 (by decide) (fun c49 => ?_) (fun c49 => ?_)
          · refine r_incN (pc := 68) C 3 [1, 2, 3, 0, 4] [(0, .ref sw), (1, .int fm), (2, .int wm), (3, .int (nI (m1 + 1))), (4, .int r41)] rfl (by decide) rfl dX4_weakest_68 ?_
            refine r_goto (pc := 71) (tgt := 6) C dX4_weakest_71 (by decide) ?_
            refine r_lv [0, 1, 2, 3] (lv2 := [(0, .ref sw), (1, .int fm), (2, .int wm), (3, .int (nI (m1 + 1)))]) rfl ?_
            exact ih6 (m1 + 1) fm wm u3.1 u3.2.1 u3.2.2.1 u3.2.2.2.1 u3.2.2.2.2.1 u3.2.2.2.2.2.1 u3.2.2.2.2.2.2.1 u3.2.2.2.2.2.2.2.1 u3.2.2.2.2.2.2.2.2.1 u3.2.2.2.2.2.2.2.2.2.1 u3.2.2.2.2.2.2.2.2.2.2.1 u3.2.2.2.2.2.2.2.2.2.2.2.1 u3.2.2.2.2.2.2.2.2.2.2.2.2 (by omega) h2.2 (wk_none hCn hK h2.1 c49) (by omega)
          · refine r_iln (pc := 52) C 1 rfl dX4_weakest_52 ?_
            refine r_ic (pc := 53) (v := (-1)) C rfl dX4_weakest_53 ?_
            refine r_ceq (pc := 54) (tgt := 63) C dX4_weakest_54 (by decide) (fun c54 => ?_) (fun c54 => ?_)
            · refine r_il (pc := 63) C 4 rfl dX4_weakest_63 ?_
              refine r_isn (pc := 65) C [1, 0, 2, 3, 4] [(0, .ref sw), (1, .int r41), (2, .int wm), (3, .int (nI m1)), (4, .int r41)] rfl (by decide) rfl dX4_weakest_65 ?_
              refine r_iln (pc := 66) C 3 rfl dX4_weakest_66 ?_
              refine r_isn (pc := 67) C [1, 2, 0, 3, 4] [(0, .ref sw), (1, .int r41), (2, .int (nI m1)), (3, .int (nI m1)), (4, .int r41)] rfl (by decide) rfl dX4_weakest_67 ?_
              refine r_incN (pc := 68) C 3 [1, 2, 3, 0, 4] [(0, .ref sw), (1, .int r41), (2, .int (nI m1)), (3, .int (nI (m1 + 1))), (4, .int r41)] rfl (by decide) rfl dX4_weakest_68 ?_
              refine r_goto (pc := 71) (tgt := 6) C dX4_weakest_71 (by decide) ?_
              refine r_lv [0, 1, 2, 3] (lv2 := [(0, .ref sw), (1, .int r41), (2, .int (nI m1)), (3, .int (nI (m1 + 1)))]) rfl ?_
              exact ih6 (m1 + 1) r41 (nI m1) u3.1 u3.2.1 u3.2.2.1 u3.2.2.2.1 u3.2.2.2.2.1 u3.2.2.2.2.2.1 u3.2.2.2.2.2.2.1 u3.2.2.2.2.2.2.2.1 u3.2.2.2.2.2.2.2.2.1 u3.2.2.2.2.2.2.2.2.2.1 u3.2.2.2.2.2.2.2.2.2.2.1 u3.2.2.2.2.2.2.2.2.2.2.2.1 u3.2.2.2.2.2.2.2.2.2.2.2.2 (by omega) h2.2 (wk_new hCn hK h1 h2.1 c49 (Or.inl c54)) (by omega)
            · refine r_il (pc := 57) C 4 rfl dX4_weakest_57 ?_
              refine r_iln (pc := 59) C 1 rfl dX4_weakest_59 ?_
              refine r_cge (pc := 60) (tgt := 68) C dX4_weakest_60 (by decide) (fun c60 => ?_) (fun c60 => ?_)
              · refine r_incN (pc := 68) C 3 [1, 2, 3, 0, 4] [(0, .ref sw), (1, .int fm), (2, .int wm), (3, .int (nI (m1 + 1))), (4, .int r41)] rfl (by decide) rfl dX4_weakest_68 ?_
                refine r_goto (pc := 71) (tgt := 6) C dX4_weakest_71 (by decide) ?_
                refine r_lv [0, 1, 2, 3] (lv2 := [(0, .ref sw), (1, .int fm), (2, .int wm), (3, .int (nI (m1 + 1)))]) rfl ?_
                exact ih6 (m1 + 1) fm wm u3.1 u3.2.1 u3.2.2.1 u3.2.2.2.1 u3.2.2.2.2.1 u3.2.2.2.2.2.1 u3.2.2.2.2.2.2.1 u3.2.2.2.2.2.2.2.1 u3.2.2.2.2.2.2.2.2.1 u3.2.2.2.2.2.2.2.2.2.1 u3.2.2.2.2.2.2.2.2.2.2.1 u3.2.2.2.2.2.2.2.2.2.2.2.1 u3.2.2.2.2.2.2.2.2.2.2.2.2 (by omega) h2.2 (wk_ge hCn hK h2.1 c54 c60) (by omega)
              · refine r_il (pc := 63) C 4 rfl dX4_weakest_63 ?_
                refine r_isn (pc := 65) C [1, 0, 2, 3, 4] [(0, .ref sw), (1, .int r41), (2, .int wm), (3, .int (nI m1)), (4, .int r41)] rfl (by decide) rfl dX4_weakest_65 ?_
                refine r_iln (pc := 66) C 3 rfl dX4_weakest_66 ?_
                refine r_isn (pc := 67) C [1, 2, 0, 3, 4] [(0, .ref sw), (1, .int r41), (2, .int (nI m1)), (3, .int (nI m1)), (4, .int r41)] rfl (by decide) rfl dX4_weakest_67 ?_
                refine r_incN (pc := 68) C 3 [1, 2, 3, 0, 4] [(0, .ref sw), (1, .int r41), (2, .int (nI m1)), (3, .int (nI (m1 + 1))), (4, .int r41)] rfl (by decide) rfl dX4_weakest_68 ?_
                refine r_goto (pc := 71) (tgt := 6) C dX4_weakest_71 (by decide) ?_
                refine r_lv [0, 1, 2, 3] (lv2 := [(0, .ref sw), (1, .int r41), (2, .int (nI m1)), (3, .int (nI (m1 + 1)))]) rfl ?_
                exact ih6 (m1 + 1) r41 (nI m1) u3.1 u3.2.1 u3.2.2.1 u3.2.2.2.1 u3.2.2.2.2.1 u3.2.2.2.2.2.1 u3.2.2.2.2.2.2.1 u3.2.2.2.2.2.2.2.1 u3.2.2.2.2.2.2.2.2.1 u3.2.2.2.2.2.2.2.2.2.1 u3.2.2.2.2.2.2.2.2.2.2.1 u3.2.2.2.2.2.2.2.2.2.2.2.1 u3.2.2.2.2.2.2.2.2.2.2.2.2 (by omega) h2.2 (wk_new hCn hK h1 h2.1 c49 (Or.inr c60)) (by omega)
  exact L6 _ 0 (-1) (-1) pn pa ph pl pm pb pfr pto pbf ptr phf pht pbs (Nat.zero_le _) hfr wk_0 (Nat.lt_succ_self _)

