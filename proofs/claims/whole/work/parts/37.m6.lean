/-! the model's public methods, what they count -/
theorem op_yes {u : SS} {a b j : Nat} {r : Int32} {f' : Nat → Int32} (h : CNq u a b r f') (hi : InQ r.toInt64 0 (nI j).toInt64) (hj : j ≤ 3) : opV u j a b = 1 := by
  obtain ⟨r0, v, h1, h2, h3⟩ := h
  unfold InQ at hi
  rw [Int32.toInt_toInt64, Int32.toInt_toInt64, i64_0, nI_toInt (by omega)] at hi
  rcases h3 with ⟨e1, e2⟩ | ⟨k, e1, e2, hk⟩
  · rw [e2] at hi; exact absurd hi.1 (by decide)
  · rw [e2, nI_toInt (by omega)] at hi
    rw [e1] at h1
    exact if_pos ⟨k, v, by omega, h1⟩
theorem op_no {u : SS} {a b j : Nat} {r : Int32} {f' : Nat → Int32} (hJ : JQ u) (h : CNq u a b r f') (hi : ¬ InQ r.toInt64 0 (nI j).toInt64) (hj : j ≤ 3) : opV u j a b = 0 := by
  obtain ⟨r0, v, h1, h2, h3⟩ := h
  refine if_neg ?_
  rintro ⟨k, v', hk, h4⟩
  obtain ⟨e, -⟩ := acs_det hJ hJ (eqv_refl u) h1 h4
  apply hi
  unfold InQ
  rw [Int32.toInt_toInt64, Int32.toInt_toInt64, i64_0, nI_toInt (by omega)]
  rcases h3 with ⟨e1, e2⟩ | ⟨k', e1, e2, hk'⟩
  · rw [e1] at e; exact absurd e.symm (nI_m3 (by omega))
  · have := nI_inj4 (by omega) (by omega) (e1.symm.trans e)
    rw [e2, nI_toInt (by omega)]; omega
/-- so many whole boards below -/
def rkB (b m : Nat) : Nat := sumTo (fun i => (!b.testBit i).toNat) m
def GNp (u : SS) (n lo gone : Nat) : Prop := gone < 16 ∧ (∀ j, j < lo → gone.testBit j = false) ∧ ∀ j, lo ≤ j → j < u.mid → (gone.testBit j = true ↔ u.bro.testBit j = false ∧ n ≤ rkB u.bro j)
theorem gn_0 {u : SS} {n : Nat} : GNp u n u.mid 0 := ⟨by decide, fun j _ => Nat.zero_testBit j, fun j h1 h2 => by omega⟩
theorem rk_mid : ∀ m : Fin 5, ∀ b : Fin 16, b.val < 2 ^ m.val → m.val - pcn b.val = rkB b.val m.val := by decide +kernel
theorem rk_m {m b : Nat} (hm : m ≤ 4) (hb : b < 2 ^ m) : m - pcn b = rkB b m := by
  have h16 : b < 16 := Nat.lt_of_lt_of_le hb (Nat.pow_le_pow_right (by decide) hm)
  exact rk_mid ⟨m, by omega⟩ ⟨b, h16⟩ hb
theorem rk_s1 {b m : Nat} (h : b.testBit m = false) : rkB b (m + 1) = rkB b m + 1 := by
  show rkB b m + (!b.testBit m).toNat = _
  rw [h]; rfl
theorem rk_s0 {b m : Nat} (h : b.testBit m = true) : rkB b (m + 1) = rkB b m := by
  show rkB b m + (!b.testBit m).toNat = _
  rw [h]; rfl
theorem gn_keep {u : SS} {n z gone : Nat} (h : GNp u n (z + 1) gone) (hk : u.bro.testBit z = true ∨ rkB u.bro z < n) : GNp u n z (gone ||| 0) := by
  rw [Nat.or_zero]
  obtain ⟨h1, h2, h3⟩ := h
  refine ⟨h1, fun j hj => h2 j (by omega), fun j h4 h5 => ?_⟩
  by_cases e : j = z
  · subst e
    rw [h2 j (Nat.lt_succ_self _)]
    constructor
    · intro q; cases q
    · rintro ⟨q1, q2⟩
      rcases hk with k | k
      · rw [k] at q1; cases q1
      · omega
  · exact h3 j (by omega) h5
theorem gn_drop {u : SS} {n z gone : Nat} (hm : u.mid ≤ 4) (h : GNp u n (z + 1) gone) (hz : z < u.mid) (h1 : u.bro.testBit z = false) (h2 : n ≤ rkB u.bro z) : GNp u n z (gone ||| 2 ^ z) := by
  obtain ⟨g1, g2, g3⟩ := h
  refine ⟨Nat.or_lt_two_pow (n := 4) g1 (Nat.pow_lt_pow_right (by decide) (by omega)), fun j hj => ?_, fun j h4 h5 => ?_⟩
  · rw [Nat.testBit_or, Nat.testBit_two_pow, g2 j (by omega), decide_eq_false (by omega)]; rfl
  · rw [Nat.testBit_or, Nat.testBit_two_pow]
    by_cases e : j = z
    · subst e
      rw [decide_eq_true rfl, Bool.or_true]; exact ⟨fun _ => ⟨h1, h2⟩, fun _ => rfl⟩
    · rw [decide_eq_false (fun q => e q.symm), Bool.or_false]; exact g3 j (by omega) h5
/-- whether so many of the whole boards do -/
def HPn (u : SS) (n : Nat) : Prop := ∃ gone π, GNp u n 0 gone ∧ VAL u gone π
theorem gn_val {u : SS} {n g1 g2 : Nat} {π : Nat → Nat} (h1 : GNp u n 0 g1) (h2 : GNp u n 0 g2) (h : VAL u g1 π) : VAL u g2 π := by
  refine fun c hc => ⟨(h c hc).1, ?_, (h c hc).2.2⟩
  obtain ⟨q1, q2, q3⟩ := alm_iff.mp (h c hc).2.1
  refine alm_iff.mpr ⟨q1, q2, ?_⟩
  cases e : g2.testBit (π c) with
  | false => rfl
  | true =>
    have := (h1.2.2 _ (Nat.zero_le _) q1).mpr ((h2.2.2 _ (Nat.zero_le _) q1).mp e)
    rw [this] at q3; cases q3
theorem hp_yes {u : SS} {n gone : Nat} {r : Int32} {pl : Nat → Int32} (h : HPP u gone u.cnt r pl) (hr : r = nI 1) (g : GNp u n 0 gone) : HPn u n := by
  rcases h with ⟨-, π, -, h, -⟩ | ⟨e, -⟩
  · exact ⟨gone, π, g, h⟩
  · rw [hr] at e; exact absurd e (by decide)
theorem hp_no {u : SS} {n gone : Nat} {r : Int32} {pl : Nat → Int32} (h : HPP u gone u.cnt r pl) (hr : r = nI 0) (g : GNp u n 0 gone) : ¬ HPn u n := by
  rintro ⟨g2, π, q1, q2⟩
  rcases h with ⟨e, -⟩ | ⟨-, h⟩
  · rw [hr] at e; exact absurd e (by decide)
  · have q3 := h π (gn_val q1 g q2)
    have q4 : MVS u π ≤ u.cnt := Mvs_le u.cnt (bfm u) π
    omega
/-- the board that can be lost with the fewest moves -/
theorem pll_of {u : SS} {m : Nat} {r : Int32} {pl : Nat → Int32} (hn : u.cnt ≤ 16) (h : PlanR u.cnt (alm u (2 ^ m)) (frm u) (tom u) (bfm u) u.cnt r pl) : PLL u.wid u.mid u.bro u.cnt u.inp u.outs u.brd m r pl := by
  rcases h with ⟨e, h⟩ | ⟨k, π, e, hk, ho, hb⟩
  · exact Or.inl ⟨e, fun π hV => by have := h π hV; have := Mvs_le u.cnt (bfm u) π; omega⟩
  · exact Or.inr ⟨k, π, e, by omega, ho, hb⟩
def WKf (u : SS) (m : Nat) (fd fm wm : Int32) : Prop := WKI u.wid u.mid u.bro u.cnt u.inp u.outs u.brd m fm wm ∧ ((fm = -1 ∧ wm = -1 ∧ fd = -1) ∨ ∃ k w, fm = nI k ∧ k ≤ 16 ∧ wm = nI w ∧ w < 4 ∧ w < m ∧ fd = nI (10 * k + w))
theorem wf_0 {u : SS} : WKf u 0 (-1) (-1) (-1) := ⟨wk_0, Or.inl ⟨rfl, rfl, rfl⟩⟩
theorem wf_keep {u : SS} {m : Nat} {fd fm wm : Int32} (h : WKf u m fd fm wm) (g : WKI u.wid u.mid u.bro u.cnt u.inp u.outs u.brd m fm wm → WKI u.wid u.mid u.bro u.cnt u.inp u.outs u.brd (m + 1) fm wm) : WKf u (m + 1) fd fm wm :=
  ⟨g h.1, h.2.elim Or.inl (fun ⟨k, w, e1, h1, e2, h2, h3, e3⟩ => Or.inr ⟨k, w, e1, h1, e2, h2, by omega, e3⟩)⟩
theorem wf_m1 {u : SS} {m : Nat} {fd fm wm : Int32} (h : WKf u m fd fm wm) : fd = -1 ↔ fm = -1 := by
  rcases h.2 with ⟨e1, -, e2⟩ | ⟨k, w, e1, h1, e2, h2, h3, e3⟩
  · exact ⟨fun _ => e1, fun _ => e2⟩
  · constructor
    · intro q; rw [e3] at q; exact absurd q (nI_m1 (by omega))
    · intro q; rw [e1] at q; exact absurd q (nI_m1 (by omega))
theorem wf_div {u : SS} {m : Nat} {fd fm wm : Int32} (h : WKf u m fd fm wm) (hn : ¬ fd = -1) : ∃ k w, fd = nI (10 * k + w) ∧ fm = nI k ∧ k ≤ 16 ∧ w < 4 := by
  rcases h.2 with ⟨e1, -, e2⟩ | ⟨k, w, e1, h1, e2, h2, h3, e3⟩
  · exact absurd e2 hn
  · exact ⟨k, w, e3, e1, h1, h2⟩
theorem wf_new {u : SS} {m k : Nat} {fd fm wm : Int32} {pl : Nat → Int32} (hc : u.cnt ≤ 16) (hm : m < 4) (h : WKf u m fd fm wm) (hb : u.bro.testBit m = false) (hk : k ≤ 16) (hP : PlanR u.cnt (alm u (2 ^ m)) (frm u) (tom u) (bfm u) u.cnt (nI k) pl) (hr : fm = -1 ∨ ¬ fm ≤ nI k) : WKf u (m + 1) (nI (10 * k + m)) (nI k) (nI m) :=
  ⟨wk_new hc h.1 hb (pll_of hc hP) (nI_m1 (by omega)) hr, Or.inr ⟨k, m, rfl, hk, rfl, hm, Nat.lt_succ_self _, rfl⟩⟩
theorem wf_end {u : SS} {m n : Nat} {fd fm wm : Int32} (h : WKf u m fd fm wm) (e : m = n) : ∃ fm wm, WKI u.wid u.mid u.bro u.cnt u.inp u.outs u.brd n fm wm ∧ ((wm = -1 ∧ fd = -1) ∨ (¬ wm = -1 ∧ fd = nI 10 * fm + wm)) := by
  subst e
  refine ⟨fm, wm, h.1, ?_⟩
  rcases h.2 with ⟨e1, e2, e3⟩ | ⟨k, w, e1, h1, e2, h2, h3, e3⟩
  · exact Or.inl ⟨e2, e3⟩
  · refine Or.inr ⟨by rw [e2]; exact nI_m1 (by omega), ?_⟩
    rw [e3, e1, e2]
    show Int32.ofNat (10 * k + w) = Int32.ofNat 10 * Int32.ofNat k + Int32.ofNat w
    rw [Int32.ofNat_add, Int32.ofNat_mul]
def UNm (rf' ac ac' : Nat) (r : Int32) (fn fd fn' : Nat → Int32) : Prop := (rf' = 1 ∧ ac = 0 ∧ ac' = ac ∧ fn' = fn) ∨ (rf' = 0 ∧ ¬ ac = 0 ∧ ac' = ac - 1 ∧ r = nI (ac - 1) ∧ fn' = cpF fd fn (104 * (ac - 1)) 0 104)
theorem in_le1 {x : Int32} : InQ x.toInt64 0 1 ↔ CIn 2 x := in_lit (n := 1) (by decide) (by decide)

theorem iX5_link_X5 : ∀ w ∈ u_ws RX5 TX5 14, w ∈ wsX5_link := by decide +kernel
abbrev rmX5_link : Room := { frames := 2, cells := 0, slots := 0, locals := 46 }
theorem n_X5_link : yX5_link.cls = RX5 ∧ yX5_link.cls ≠ "java/lang/invoke/MethodHandle" ∧ yX5_link.cls ≠ "java/lang/invoke/VarHandle" ∧ (parseMethodDescriptor yX5_link.desc).map (fun d => d.parameters.length) = some 3 := by decide +kernel
set_option maxHeartbeats 4000000 in
set_option maxRecDepth 100000 in
theorem k_X5_link (l : Launch) (D : va_G) (cT : Nat → ClassId) (mA mref mscr msz mspot mgood mleft mread mnow mtri mdia macts mkept misk qp : Nat) (f : Nat → Int32) (lb : Nat) (x y : Int32) (u : SS) (hR : RowQ f u) (hJ : JQ u) (hlb : lb < 2) : MWi (S := Nat) l D cT yX5_link wsX5_link rmX5_link [.ref mA, .int (nI lb), .int x, .int y] [(mA, cMo mref mscr msz mspot mgood mleft mread mnow mtri mdia macts mkept misk qp), (mnow, aI (cT 0) 104 f)] (fun r w9 => (w9 = 1 ∧ ¬ (CIn u.mid x ∧ CIn (if lb = 0 then u.fst else u.las) y)) ∨ (w9 = 0 ∧ ∃ mb bd, x = nI mb ∧ mb < u.mid ∧ y = nI bd ∧ bd < (if lb = 0 then u.fst else u.las) ∧ (lb = 0 → lxQ u.cnt (fun k => u.brd k = mb ∧ u.inp k / u.wid = bd) r) ∧ (¬ lb = 0 → lxQ u.cnt (fun k => u.brd k = mb ∧ (lbs u.wid (u.outs k)).testBit bd = true) r))) (fun w9 => [(mA, cMo w9 mscr msz mspot mgood mleft mread mnow mtri mdia macts mkept misk qp), (mnow, aI (cT 0) 104 f)]) 0 0 := by
  refine m_Wi [(0, .ref mA), (1, .int (nI lb)), (2, .int x), (3, .int y)] (by decide +kernel) rfl (Nat.le_of_ble_eq_true rfl) rfl ?_
  intro p e s m args below meth c A hAe C hA hr hk hnm_
  generalize hQ : MQ below (va_Qi _ _ A) args s 0 0 A = Q
  have hB := bd_of hJ
  obtain ⟨hF, hW, hM, hL, hPa, hBr, hCn, hFL, hE⟩ := id hB
  have hFW1 := mul44 hF hW
  have hLW1 := mul44 hL hW
  have hBo := fun k (h : k < u.cnt) => (hJ.1.2.2.2.2.2.2.2.1 k (by omega)).2.2
  refine r_aln (pc := 0) C 0 rfl dX5_link_0 ?_
  refine r_iln (pc := 1) C 2 rfl dX5_link_1 ?_
  refine c_RV (pc := 2) (As := [.int x]) (wc := [(mA, cMo mref mscr msz mspot mgood mleft mread mnow mtri mdia macts mkept misk qp), (mnow, aI (cT 0) 104 f)]) (qr := 0) C (k_X5_isMiddle l D cT mA mref mscr msz mspot mgood mleft mread mnow mtri mdia macts mkept misk qp f x u (by first | assumption | omega) (by first | assumption | omega)) (cwV 1 C.1.2.2.2.2 gX5_link_X5_isMiddle rfl rfl rfl n_X5_isMiddle ⟨Nat.le_of_ble_eq_true rfl, Nat.le_of_ble_eq_true rfl⟩) [0, 1] rfl rfl rfl rfl rfl (Nat.le_of_ble_eq_true rfl) ⟨Nat.zero_le _, Nat.zero_le _⟩ dX5_link_2 (fun r2 h1 => ?_)
  rcases h1 with ⟨rfl, h1j, rfl, h1⟩ | ⟨rfl, h1⟩
  · refine r_zeqN (pc := 5) (tgt := 38) C (by first | omega | (have := hBo i (by omega); omega) | exact lt_trans2 (lbTo_lt _ _ 16 (by omega)) | (have := hE i (by omega); have := Nat.div_le_self (u.inp i) u.wid; omega)) dX5_link_5 (by decide) (fun h => absurd h (by decide)) (fun _ => ?_)
    refine r_iln (pc := 8) C 3 rfl dX5_link_8 ?_
    refine r_i2l (pc := 9) C rfl dX5_link_9 ?_
    refine r_lc (pc := 10) (v := 0) C rfl dX5_link_10 ?_
    refine r_aln (pc := 11) C 0 rfl dX5_link_11 ?_
    refine r_get (pc := 12) C iX5_link_X5 0 rfl rfl 7 (by decide) (mw 1 rfl) rfl rfl dX5_link_12 ?_
    refine r_iln (pc := 15) C 1 rfl dX5_link_15 ?_
    refine r_zeqN (pc := 16) (tgt := 23) C (by first | omega | (have := hBo i (by omega); omega) | exact lt_trans2 (lbTo_lt _ _ 16 (by omega)) | (have := hE i (by omega); have := Nat.div_le_self (u.inp i) u.wid; omega)) dX5_link_16 (by decide) (fun c16 => ?_) (fun c16 => ?_)
    · refine r_ic (pc := 23) (v := nI 0) C rfl dX5_link_23 ?_
      refine r_ialI (pc := 24) C 1 rfl (by first | omega | (have := hBo i (by omega); omega) | exact lt_trans2 (lbTo_lt _ _ 16 (by omega)) | (have := hE i (by omega); have := Nat.div_le_self (u.inp i) u.wid; omega)) (by decide) dX5_link_24 ?_
      refine r_v (y := nI u.fst) hR.1.1 ?_
      refine r_ic (pc := 25) (v := nI 1) C rfl dX5_link_25 ?_
      refine r_isub (pc := 26) C dX5_link_26 ?_
      refine r_i2l (pc := 27) C rfl dX5_link_27 ?_
      refine c_RS (pc := 28) (As := [.long y.toInt64, .long 0, .long ((nI u.fst - nI 1).toInt64)]) (wc := [])  C (k_X5_in l D cT y.toInt64 0 ((nI u.fst - nI 1).toInt64)) (va_cwS 3 C.1.2.2.2.2 gX5_link_X5_in rfl rfl rfl n_X5_in ⟨Nat.le_of_ble_eq_true rfl, Nat.le_of_ble_eq_true rfl⟩) [] rfl rfl rfl (Nat.le_of_ble_eq_true rfl) ⟨Nat.zero_le _, Nat.zero_le _⟩ dX5_link_28 (fun r28 h2 => ?_)
      rcases h2 with ⟨rfl, h2⟩ | ⟨rfl, h2⟩
      · obtain ⟨h2j, rfl, h2l⟩ := (in_ci (n := u.fst) (by omega)).mp h2
        refine r_zeqN (pc := 31) (tgt := 38) C (by first | omega | (have := hBo i (by omega); omega) | exact lt_trans2 (lbTo_lt _ _ 16 (by omega)) | (have := hE i (by omega); have := Nat.div_le_self (u.inp i) u.wid; omega)) dX5_link_31 (by decide) (fun h => absurd h (by decide)) (fun _ => ?_)
        refine r_ic (pc := 34) (v := nI 1) C rfl dX5_link_34 ?_
        refine r_goto (pc := 35) (tgt := 39) C dX5_link_35 (by decide) ?_
        refine r_is (pc := 39) C [1, 2, 3, 4, 0] [(0, .ref mA), (1, .int (nI lb)), (2, .int (nI h1j)), (3, .int (nI h2j)), (4, .int (nI 1))] (by decide) rfl dX5_link_39 ?_
        refine r_aln (pc := 41) C 0 rfl dX5_link_41 ?_
        refine r_il (pc := 42) C 4 rfl dX5_link_42 ?_
        refine r_zeqN (pc := 44) (tgt := 51) C (by first | omega | (have := hBo i (by omega); omega) | exact lt_trans2 (lbTo_lt _ _ 16 (by omega)) | (have := hE i (by omega); have := Nat.div_le_self (u.inp i) u.wid; omega)) dX5_link_44 (by decide) (fun h => absurd h (by decide)) (fun _ => ?_)
        refine r_ic (pc := 47) (v := nI 0) C rfl dX5_link_47 ?_
        refine r_goto (pc := 48) (tgt := 52) C dX5_link_48 (by decide) ?_
        refine c_WVi (pc := 52) (As := [.int (nI 0)]) (wc := [(mA, cMo mref mscr msz mspot mgood mleft mread mnow mtri mdia macts mkept misk qp)]) (wr := [(mnow, aI (cT 0) 104 f)]) (qr := 0) C hA (k_X5_refused l D cT mA mref mscr msz mspot mgood mleft mread mnow mtri mdia macts mkept misk qp 0 (by first | assumption | omega)) (cwV 1 C.1.2.2.2.2 gX5_link_X5_refused rfl rfl rfl n_X5_refused ⟨Nat.le_of_ble_eq_true rfl, Nat.le_of_ble_eq_true rfl⟩) rfl rfl [0] [1] rfl rfl ⟨by decide, by decide⟩ (by decide) [1, 0] (fun u4 => [(mA, cMo u4 mscr msz mspot mgood mleft mread mnow mtri mdia macts mkept misk qp), (mnow, aI (cT 0) 104 f)]) (fun _ => rfl) (by decide) rfl rfl (Nat.le_of_ble_eq_true rfl) ⟨Nat.zero_le _, Nat.zero_le _⟩ dX5_link_52 (fun r52 u4 h3 => ?_)
        obtain ⟨h3, h3m⟩ := h3
        have h3 := h3.trans (if_pos rfl)
        subst h3
        subst h3m
        refine r_zeqN (pc := 55) (tgt := 60) C (by first | omega | (have := hBo i (by omega); omega) | exact lt_trans2 (lbTo_lt _ _ 16 (by omega)) | (have := hE i (by omega); have := Nat.div_le_self (u.inp i) u.wid; omega)) dX5_link_55 (by decide) (fun _ => ?_) (fun h => absurd h (by decide))
        refine r_ic (pc := 60) (v := (-1)) C rfl dX5_link_60 ?_
        refine r_is (pc := 61) C [1, 2, 3, 4, 5, 0] [(0, .ref mA), (1, .int (nI lb)), (2, .int (nI h1j)), (3, .int (nI h2j)), (4, .int (nI 1)), (5, .int (-1))] (by decide) rfl dX5_link_61 ?_
        refine r_ic (pc := 63) (v := nI 0) C rfl dX5_link_63 ?_
        refine r_is (pc := 64) C [1, 2, 3, 4, 5, 6, 0] [(0, .ref mA), (1, .int (nI lb)), (2, .int (nI h1j)), (3, .int (nI h2j)), (4, .int (nI 1)), (5, .int (-1)), (6, .int (nI 0))] (by decide) rfl dX5_link_64 ?_
        have L66 : ∀ (n66 : Nat) (i : Nat) (fd : Int32) (hi : i ≤ u.cnt) (hq : lxQ i (fun k => u.brd k = h1j ∧ u.inp k / u.wid = h2j) fd), u.cnt - i < n66 → RW p l e (headSpec wsX5_link rmX5_link).room s m args below meth c (IW s D A) 8 0 0 Q [(mA, cMo 0 mscr msz mspot mgood mleft mread mnow mtri mdia macts mkept misk qp), (mnow, aI (cT 0) 104 f)] 66 [(0, .ref mA), (1, .int (nI lb)), (2, .int (nI h1j)), (3, .int (nI h2j)), (4, .int (nI 1)), (5, .int fd), (6, .int (nI i))] [] := by
          intro n66
          induction n66 with
          | zero => intro i fd hi hq hn66; exact absurd hn66 (Nat.not_lt_zero _)
          | succ n66 ih66 =>
            intro i fd hi hq hn66
            refine r_il (pc := 66) C 6 rfl dX5_link_66 ?_
            refine r_aln (pc := 68) C 0 rfl dX5_link_68 ?_
            refine r_get (pc := 69) C iX5_link_X5 0 rfl rfl 7 (by decide) (mw 1 rfl) rfl rfl dX5_link_69 ?_
            refine r_ic (pc := 72) (v := nI 4) C rfl dX5_link_72 ?_
            refine r_ialI (pc := 73) C 1 rfl (by first | omega | (have := hBo i (by omega); omega) | exact lt_trans2 (lbTo_lt _ _ 16 (by omega)) | (have := hE i (by omega); have := Nat.div_le_self (u.inp i) u.wid; omega)) (by decide) dX5_link_73 ?_
            refine r_v (y := nI u.cnt) hR.1.2.2.2.2.1 ?_
            refine r_cgeN (pc := 74) (tgt := 161) C (by first | omega | (have := hBo i (by omega); omega) | exact lt_trans2 (lbTo_lt _ _ 16 (by omega)) | (have := hE i (by omega); have := Nat.div_le_self (u.inp i) u.wid; omega)) (by first | omega | (have := hBo i (by omega); omega) | exact lt_trans2 (lbTo_lt _ _ 16 (by omega)) | (have := hE i (by omega); have := Nat.div_le_self (u.inp i) u.wid; omega)) dX5_link_74 (by decide) (fun c74 => ?_) (fun c74 => ?_)
            · refine r_il (pc := 161) C 5 rfl dX5_link_161 ?_
              subst hQ
              exact e_iW C hr hk (Nat.le_refl _) (Nat.le_refl _) 0 rfl (Or.inr ⟨rfl, _, _, rfl, h1, rfl, by rw [if_pos c16]; exact h2l, fun _ => lx_e hq (by omega) (by omega), fun g => absurd c16 g⟩) dX5_link_163
            · refine r_iln (pc := 77) C 1 rfl dX5_link_77 ?_
              refine r_zeqN (pc := 78) (tgt := 106) C (by first | omega | (have := hBo i (by omega); omega) | exact lt_trans2 (lbTo_lt _ _ 16 (by omega)) | (have := hE i (by omega); have := Nat.div_le_self (u.inp i) u.wid; omega)) dX5_link_78 (by decide) (fun c78 => ?_) (fun c78 => absurd c78 (by exact fun h => by omega))
              refine r_aln (pc := 106) C 0 rfl dX5_link_106 ?_
              refine r_get (pc := 107) C iX5_link_X5 0 rfl rfl 7 (by decide) (mw 1 rfl) rfl rfl dX5_link_107 ?_
              refine r_il (pc := 110) C 6 rfl dX5_link_110 ?_
              refine c_RS (pc := 112) (As := [.ref mnow, .int (nI i)]) (wc := [(mnow, aI (cT 0) 104 f)])  C (k_X5_firstOf l D cT mnow f i u (by first | assumption | omega) (by first | assumption | omega) (by first | assumption | omega)) (va_cwS 2 C.1.2.2.2.2 gX5_link_X5_firstOf rfl rfl rfl n_X5_firstOf ⟨Nat.le_of_ble_eq_true rfl, Nat.le_of_ble_eq_true rfl⟩) [1] rfl rfl rfl (Nat.le_of_ble_eq_true rfl) ⟨Nat.zero_le _, Nat.zero_le _⟩ dX5_link_112 (fun r112 h5 => ?_)
              subst h5
              refine r_iln (pc := 115) C 3 rfl dX5_link_115 ?_
              refine r_cneN (pc := 116) (tgt := 123) C (by first | omega | (have := hBo i (by omega); omega) | exact lt_trans2 (lbTo_lt _ _ 16 (by omega)) | (have := hE i (by omega); have := Nat.div_le_self (u.inp i) u.wid; omega)) (by first | omega | (have := hBo i (by omega); omega) | exact lt_trans2 (lbTo_lt _ _ 16 (by omega)) | (have := hE i (by omega); have := Nat.div_le_self (u.inp i) u.wid; omega)) dX5_link_116 (by decide) (fun c116 => ?_) (fun c116 => ?_)
              · refine r_ic (pc := 123) (v := nI 0) C rfl dX5_link_123 ?_
                refine r_is (pc := 124) C [1, 2, 3, 4, 5, 6, 7, 0] [(0, .ref mA), (1, .int (nI lb)), (2, .int (nI h1j)), (3, .int (nI h2j)), (4, .int (nI 1)), (5, .int fd), (6, .int (nI i)), (7, .int (nI 0))] (by decide) rfl dX5_link_124 ?_
                refine r_il (pc := 126) C 7 rfl dX5_link_126 ?_
                refine r_zeqN (pc := 128) (tgt := 151) C (by first | omega | (have := hBo i (by omega); omega) | exact lt_trans2 (lbTo_lt _ _ 16 (by omega)) | (have := hE i (by omega); have := Nat.div_le_self (u.inp i) u.wid; omega)) dX5_link_128 (by decide) (fun _ => ?_) (fun h => absurd h (by decide))
                refine r_il (pc := 151) C 5 rfl dX5_link_151 ?_
                refine r_is (pc := 153) C [1, 2, 3, 4, 5, 0, 6, 7] [(0, .ref mA), (1, .int (nI lb)), (2, .int (nI h1j)), (3, .int (nI h2j)), (4, .int (nI 1)), (5, .int fd), (6, .int (nI i)), (7, .int (nI 0))] (by decide) rfl dX5_link_153 ?_
                refine r_incN (pc := 155) C 6 [1, 2, 3, 4, 5, 6, 0, 7] [(0, .ref mA), (1, .int (nI lb)), (2, .int (nI h1j)), (3, .int (nI h2j)), (4, .int (nI 1)), (5, .int fd), (6, .int (nI (i + 1))), (7, .int (nI 0))] rfl (by decide) rfl dX5_link_155 ?_
                refine r_goto (pc := 158) (tgt := 66) C dX5_link_158 (by decide) ?_
                refine r_lv [0, 1, 2, 3, 4, 5, 6] (lv2 := [(0, .ref mA), (1, .int (nI lb)), (2, .int (nI h1j)), (3, .int (nI h2j)), (4, .int (nI 1)), (5, .int fd), (6, .int (nI (i + 1)))]) rfl ?_
                exact ih66 (i + 1) fd (by omega) (lx_no hq (fun g => c116 g.2)) (by omega)
              · refine r_ic (pc := 119) (v := nI 1) C rfl dX5_link_119 ?_
                refine r_goto (pc := 120) (tgt := 124) C dX5_link_120 (by decide) ?_
                refine r_is (pc := 124) C [1, 2, 3, 4, 5, 6, 7, 0] [(0, .ref mA), (1, .int (nI lb)), (2, .int (nI h1j)), (3, .int (nI h2j)), (4, .int (nI 1)), (5, .int fd), (6, .int (nI i)), (7, .int (nI 1))] (by decide) rfl dX5_link_124 ?_
                refine r_il (pc := 126) C 7 rfl dX5_link_126 ?_
                refine r_zeqN (pc := 128) (tgt := 151) C (by first | omega | (have := hBo i (by omega); omega) | exact lt_trans2 (lbTo_lt _ _ 16 (by omega)) | (have := hE i (by omega); have := Nat.div_le_self (u.inp i) u.wid; omega)) dX5_link_128 (by decide) (fun h => absurd h (by decide)) (fun _ => ?_)
                refine r_aln (pc := 131) C 0 rfl dX5_link_131 ?_
                refine r_get (pc := 132) C iX5_link_X5 0 rfl rfl 7 (by decide) (mw 1 rfl) rfl rfl dX5_link_132 ?_
                refine r_il (pc := 135) C 6 rfl dX5_link_135 ?_
                refine r_ic (pc := 137) (v := nI 2) C rfl dX5_link_137 ?_
                refine c_RS (pc := 138) (As := [.int (nI i), .int (nI 2)]) (wc := [])  C (k_X5_callAt l D cT i 2) (va_cwS 2 C.1.2.2.2.2 gX5_link_X5_callAt rfl rfl rfl n_X5_callAt ⟨Nat.le_of_ble_eq_true rfl, Nat.le_of_ble_eq_true rfl⟩) [] rfl rfl rfl (Nat.le_of_ble_eq_true rfl) ⟨Nat.zero_le _, Nat.zero_le _⟩ dX5_link_138 (fun r138 h6 => ?_)
                subst h6
                refine r_ialI (pc := 141) C 1 rfl (by first | omega | (have := hBo i (by omega); omega) | exact lt_trans2 (lbTo_lt _ _ 16 (by omega)) | (have := hE i (by omega); have := Nat.div_le_self (u.inp i) u.wid; omega)) (by decide) dX5_link_141 ?_
                refine r_v (y := nI (u.brd i)) ((hR.2.1 i (by first | omega | (have := hBo i (by omega); omega) | exact lt_trans2 (lbTo_lt _ _ 16 (by omega)) | (have := hE i (by omega); have := Nat.div_le_self (u.inp i) u.wid; omega))).2.2.1) ?_
                refine r_iln (pc := 142) C 2 rfl dX5_link_142 ?_
                refine r_cneN (pc := 143) (tgt := 151) C (by first | omega | (have := hBo i (by omega); omega) | exact lt_trans2 (lbTo_lt _ _ 16 (by omega)) | (have := hE i (by omega); have := Nat.div_le_self (u.inp i) u.wid; omega)) (by first | omega | (have := hBo i (by omega); omega) | exact lt_trans2 (lbTo_lt _ _ 16 (by omega)) | (have := hE i (by omega); have := Nat.div_le_self (u.inp i) u.wid; omega)) dX5_link_143 (by decide) (fun c143 => ?_) (fun c143 => ?_)
                · refine r_il (pc := 151) C 5 rfl dX5_link_151 ?_
                  refine r_is (pc := 153) C [1, 2, 3, 4, 5, 0, 6, 7] [(0, .ref mA), (1, .int (nI lb)), (2, .int (nI h1j)), (3, .int (nI h2j)), (4, .int (nI 1)), (5, .int fd), (6, .int (nI i)), (7, .int (nI 1))] (by decide) rfl dX5_link_153 ?_
                  refine r_incN (pc := 155) C 6 [1, 2, 3, 4, 5, 6, 0, 7] [(0, .ref mA), (1, .int (nI lb)), (2, .int (nI h1j)), (3, .int (nI h2j)), (4, .int (nI 1)), (5, .int fd), (6, .int (nI (i + 1))), (7, .int (nI 1))] rfl (by decide) rfl dX5_link_155 ?_
                  refine r_goto (pc := 158) (tgt := 66) C dX5_link_158 (by decide) ?_
                  refine r_lv [0, 1, 2, 3, 4, 5, 6] (lv2 := [(0, .ref mA), (1, .int (nI lb)), (2, .int (nI h1j)), (3, .int (nI h2j)), (4, .int (nI 1)), (5, .int fd), (6, .int (nI (i + 1)))]) rfl ?_
                  exact ih66 (i + 1) fd (by omega) (lx_no hq (fun g => c143 g.1)) (by omega)
                · refine r_il (pc := 146) C 6 rfl dX5_link_146 ?_
                  refine r_goto (pc := 148) (tgt := 153) C dX5_link_148 (by decide) ?_
                  refine r_is (pc := 153) C [1, 2, 3, 4, 5, 0, 6, 7] [(0, .ref mA), (1, .int (nI lb)), (2, .int (nI h1j)), (3, .int (nI h2j)), (4, .int (nI 1)), (5, .int (nI i)), (6, .int (nI i)), (7, .int (nI 1))] (by decide) rfl dX5_link_153 ?_
                  refine r_incN (pc := 155) C 6 [1, 2, 3, 4, 5, 6, 0, 7] [(0, .ref mA), (1, .int (nI lb)), (2, .int (nI h1j)), (3, .int (nI h2j)), (4, .int (nI 1)), (5, .int (nI i)), (6, .int (nI (i + 1))), (7, .int (nI 1))] rfl (by decide) rfl dX5_link_155 ?_
                  refine r_goto (pc := 158) (tgt := 66) C dX5_link_158 (by decide) ?_
                  refine r_lv [0, 1, 2, 3, 4, 5, 6] (lv2 := [(0, .ref mA), (1, .int (nI lb)), (2, .int (nI h1j)), (3, .int (nI h2j)), (4, .int (nI 1)), (5, .int (nI i)), (6, .int (nI (i + 1)))]) rfl ?_
                  exact ih66 (i + 1) (nI i) (by omega) (lx_hit (P := (fun k => u.brd k = h1j ∧ u.inp k / u.wid = h2j)) ⟨c143, c116⟩) (by omega)
        exact L66 _ 0 (-1) (Nat.zero_le _) lx_0 (Nat.lt_succ_self _)
      · have h2 := fun g => h2 ((in_ci (n := u.fst) (by omega)).mpr g)
        refine r_zeqN (pc := 31) (tgt := 38) C (by first | omega | (have := hBo i (by omega); omega) | exact lt_trans2 (lbTo_lt _ _ 16 (by omega)) | (have := hE i (by omega); have := Nat.div_le_self (u.inp i) u.wid; omega)) dX5_link_31 (by decide) (fun _ => ?_) (fun h => absurd h (by decide))
        refine r_ic (pc := 38) (v := nI 0) C rfl dX5_link_38 ?_
        refine r_is (pc := 39) C [1, 2, 3, 4, 0] [(0, .ref mA), (1, .int (nI lb)), (2, .int (nI h1j)), (3, .int y), (4, .int (nI 0))] (by decide) rfl dX5_link_39 ?_
        refine r_aln (pc := 41) C 0 rfl dX5_link_41 ?_
        refine r_il (pc := 42) C 4 rfl dX5_link_42 ?_
        refine r_zeqN (pc := 44) (tgt := 51) C (by first | omega | (have := hBo i (by omega); omega) | exact lt_trans2 (lbTo_lt _ _ 16 (by omega)) | (have := hE i (by omega); have := Nat.div_le_self (u.inp i) u.wid; omega)) dX5_link_44 (by decide) (fun _ => ?_) (fun h => absurd h (by decide))
        refine r_ic (pc := 51) (v := nI 1) C rfl dX5_link_51 ?_
        refine c_WVi (pc := 52) (As := [.int (nI 1)]) (wc := [(mA, cMo mref mscr msz mspot mgood mleft mread mnow mtri mdia macts mkept misk qp)]) (wr := [(mnow, aI (cT 0) 104 f)]) (qr := 0) C hA (k_X5_refused l D cT mA mref mscr msz mspot mgood mleft mread mnow mtri mdia macts mkept misk qp 1 (by first | assumption | omega)) (cwV 1 C.1.2.2.2.2 gX5_link_X5_refused rfl rfl rfl n_X5_refused ⟨Nat.le_of_ble_eq_true rfl, Nat.le_of_ble_eq_true rfl⟩) rfl rfl [0] [1] rfl rfl ⟨by decide, by decide⟩ (by decide) [1, 0] (fun u8 => [(mA, cMo u8 mscr msz mspot mgood mleft mread mnow mtri mdia macts mkept misk qp), (mnow, aI (cT 0) 104 f)]) (fun _ => rfl) (by decide) rfl rfl (Nat.le_of_ble_eq_true rfl) ⟨Nat.zero_le _, Nat.zero_le _⟩ dX5_link_52 (fun r52 u8 h7 => ?_)
        obtain ⟨h7, h7m⟩ := h7
        have h7 := h7.trans (if_neg (by decide))
        subst h7
        subst h7m
        refine r_zeqN (pc := 55) (tgt := 60) C (by first | omega | (have := hBo i (by omega); omega) | exact lt_trans2 (lbTo_lt _ _ 16 (by omega)) | (have := hE i (by omega); have := Nat.div_le_self (u.inp i) u.wid; omega)) dX5_link_55 (by decide) (fun h => absurd h (by decide)) (fun _ => ?_)
        refine r_ic (pc := 58) (v := nI 0) C rfl dX5_link_58 ?_
        subst hQ
        exact e_iW C hr hk (Nat.le_refl _) (Nat.le_refl _) 1 rfl (Or.inl ⟨rfl, fun g => h2 (by have q := g.2; rw [if_pos c16] at q; exact q)⟩) dX5_link_59
    · refine r_ic (pc := 19) (v := nI 3) C rfl dX5_link_19 ?_
      refine r_goto (pc := 20) (tgt := 24) C dX5_link_20 (by decide) ?_
      refine r_ialI (pc := 24) C 1 rfl (by first | omega | (have := hBo i (by omega); omega) | exact lt_trans2 (lbTo_lt _ _ 16 (by omega)) | (have := hE i (by omega); have := Nat.div_le_self (u.inp i) u.wid; omega)) (by decide) dX5_link_24 ?_
      refine r_v (y := nI u.las) hR.1.2.2.2.1 ?_
      refine r_ic (pc := 25) (v := nI 1) C rfl dX5_link_25 ?_
      refine r_isub (pc := 26) C dX5_link_26 ?_
      refine r_i2l (pc := 27) C rfl dX5_link_27 ?_
      refine c_RS (pc := 28) (As := [.long y.toInt64, .long 0, .long ((nI u.las - nI 1).toInt64)]) (wc := [])  C (k_X5_in l D cT y.toInt64 0 ((nI u.las - nI 1).toInt64)) (va_cwS 3 C.1.2.2.2.2 gX5_link_X5_in rfl rfl rfl n_X5_in ⟨Nat.le_of_ble_eq_true rfl, Nat.le_of_ble_eq_true rfl⟩) [] rfl rfl rfl (Nat.le_of_ble_eq_true rfl) ⟨Nat.zero_le _, Nat.zero_le _⟩ dX5_link_28 (fun r28 h9 => ?_)
      rcases h9 with ⟨rfl, h9⟩ | ⟨rfl, h9⟩
      · obtain ⟨h9j, rfl, h9l⟩ := (in_ci (n := u.las) (by omega)).mp h9
        refine r_zeqN (pc := 31) (tgt := 38) C (by first | omega | (have := hBo i (by omega); omega) | exact lt_trans2 (lbTo_lt _ _ 16 (by omega)) | (have := hE i (by omega); have := Nat.div_le_self (u.inp i) u.wid; omega)) dX5_link_31 (by decide) (fun h => absurd h (by decide)) (fun _ => ?_)
        refine r_ic (pc := 34) (v := nI 1) C rfl dX5_link_34 ?_
        refine r_goto (pc := 35) (tgt := 39) C dX5_link_35 (by decide) ?_
        refine r_is (pc := 39) C [1, 2, 3, 4, 0] [(0, .ref mA), (1, .int (nI lb)), (2, .int (nI h1j)), (3, .int (nI h9j)), (4, .int (nI 1))] (by decide) rfl dX5_link_39 ?_
        refine r_aln (pc := 41) C 0 rfl dX5_link_41 ?_
        refine r_il (pc := 42) C 4 rfl dX5_link_42 ?_
        refine r_zeqN (pc := 44) (tgt := 51) C (by first | omega | (have := hBo i (by omega); omega) | exact lt_trans2 (lbTo_lt _ _ 16 (by omega)) | (have := hE i (by omega); have := Nat.div_le_self (u.inp i) u.wid; omega)) dX5_link_44 (by decide) (fun h => absurd h (by decide)) (fun _ => ?_)
        refine r_ic (pc := 47) (v := nI 0) C rfl dX5_link_47 ?_
        refine r_goto (pc := 48) (tgt := 52) C dX5_link_48 (by decide) ?_
        refine c_WVi (pc := 52) (As := [.int (nI 0)]) (wc := [(mA, cMo mref mscr msz mspot mgood mleft mread mnow mtri mdia macts mkept misk qp)]) (wr := [(mnow, aI (cT 0) 104 f)]) (qr := 0) C hA (k_X5_refused l D cT mA mref mscr msz mspot mgood mleft mread mnow mtri mdia macts mkept misk qp 0 (by first | assumption | omega)) (cwV 1 C.1.2.2.2.2 gX5_link_X5_refused rfl rfl rfl n_X5_refused ⟨Nat.le_of_ble_eq_true rfl, Nat.le_of_ble_eq_true rfl⟩) rfl rfl [0] [1] rfl rfl ⟨by decide, by decide⟩ (by decide) [1, 0] (fun u11 => [(mA, cMo u11 mscr msz mspot mgood mleft mread mnow mtri mdia macts mkept misk qp), (mnow, aI (cT 0) 104 f)]) (fun _ => rfl) (by decide) rfl rfl (Nat.le_of_ble_eq_true rfl) ⟨Nat.zero_le _, Nat.zero_le _⟩ dX5_link_52 (fun r52 u11 h10 => ?_)
        obtain ⟨h10, h10m⟩ := h10
        have h10 := h10.trans (if_pos rfl)
        subst h10
        subst h10m
        refine r_zeqN (pc := 55) (tgt := 60) C (by first | omega | (have := hBo i (by omega); omega) | exact lt_trans2 (lbTo_lt _ _ 16 (by omega)) | (have := hE i (by omega); have := Nat.div_le_self (u.inp i) u.wid; omega)) dX5_link_55 (by decide) (fun _ => ?_) (fun h => absurd h (by decide))
        refine r_ic (pc := 60) (v := (-1)) C rfl dX5_link_60 ?_
        refine r_is (pc := 61) C [1, 2, 3, 4, 5, 0] [(0, .ref mA), (1, .int (nI lb)), (2, .int (nI h1j)), (3, .int (nI h9j)), (4, .int (nI 1)), (5, .int (-1))] (by decide) rfl dX5_link_61 ?_
        refine r_ic (pc := 63) (v := nI 0) C rfl dX5_link_63 ?_
        refine r_is (pc := 64) C [1, 2, 3, 4, 5, 6, 0] [(0, .ref mA), (1, .int (nI lb)), (2, .int (nI h1j)), (3, .int (nI h9j)), (4, .int (nI 1)), (5, .int (-1)), (6, .int (nI 0))] (by decide) rfl dX5_link_64 ?_
        have L66 : ∀ (n66 : Nat) (i : Nat) (fd : Int32) (hi : i ≤ u.cnt) (hq : lxQ i (fun k => u.brd k = h1j ∧ (lbs u.wid (u.outs k)).testBit h9j = true) fd), u.cnt - i < n66 → RW p l e (headSpec wsX5_link rmX5_link).room s m args below meth c (IW s D A) 8 0 0 Q [(mA, cMo 0 mscr msz mspot mgood mleft mread mnow mtri mdia macts mkept misk qp), (mnow, aI (cT 0) 104 f)] 66 [(0, .ref mA), (1, .int (nI lb)), (2, .int (nI h1j)), (3, .int (nI h9j)), (4, .int (nI 1)), (5, .int fd), (6, .int (nI i))] [] := by
          intro n66
          induction n66 with
          | zero => intro i fd hi hq hn66; exact absurd hn66 (Nat.not_lt_zero _)
          | succ n66 ih66 =>
            intro i fd hi hq hn66
            refine r_il (pc := 66) C 6 rfl dX5_link_66 ?_
            refine r_aln (pc := 68) C 0 rfl dX5_link_68 ?_
            refine r_get (pc := 69) C iX5_link_X5 0 rfl rfl 7 (by decide) (mw 1 rfl) rfl rfl dX5_link_69 ?_
            refine r_ic (pc := 72) (v := nI 4) C rfl dX5_link_72 ?_
            refine r_ialI (pc := 73) C 1 rfl (by first | omega | (have := hBo i (by omega); omega) | exact lt_trans2 (lbTo_lt _ _ 16 (by omega)) | (have := hE i (by omega); have := Nat.div_le_self (u.inp i) u.wid; omega)) (by decide) dX5_link_73 ?_
            refine r_v (y := nI u.cnt) hR.1.2.2.2.2.1 ?_
            refine r_cgeN (pc := 74) (tgt := 161) C (by first | omega | (have := hBo i (by omega); omega) | exact lt_trans2 (lbTo_lt _ _ 16 (by omega)) | (have := hE i (by omega); have := Nat.div_le_self (u.inp i) u.wid; omega)) (by first | omega | (have := hBo i (by omega); omega) | exact lt_trans2 (lbTo_lt _ _ 16 (by omega)) | (have := hE i (by omega); have := Nat.div_le_self (u.inp i) u.wid; omega)) dX5_link_74 (by decide) (fun c74 => ?_) (fun c74 => ?_)
            · refine r_il (pc := 161) C 5 rfl dX5_link_161 ?_
              subst hQ
              exact e_iW C hr hk (Nat.le_refl _) (Nat.le_refl _) 0 rfl (Or.inr ⟨rfl, _, _, rfl, h1, rfl, by rw [if_neg (Nat.ne_of_gt c16)]; exact h9l, fun g => absurd g (Nat.ne_of_gt c16), fun _ => lx_e hq (by omega) (by omega)⟩) dX5_link_163
            · refine r_iln (pc := 77) C 1 rfl dX5_link_77 ?_
              refine r_zeqN (pc := 78) (tgt := 106) C (by first | omega | (have := hBo i (by omega); omega) | exact lt_trans2 (lbTo_lt _ _ 16 (by omega)) | (have := hE i (by omega); have := Nat.div_le_self (u.inp i) u.wid; omega)) dX5_link_78 (by decide) (fun c78 => absurd c78 (by omega)) (fun c78 => ?_)
              refine r_aln (pc := 81) C 0 rfl dX5_link_81 ?_
              refine r_get (pc := 82) C iX5_link_X5 0 rfl rfl 7 (by decide) (mw 1 rfl) rfl rfl dX5_link_82 ?_
              refine r_il (pc := 85) C 6 rfl dX5_link_85 ?_
              refine c_RS (pc := 87) (As := [.ref mnow, .int (nI i)]) (wc := [(mnow, aI (cT 0) 104 f)])  C (k_X5_boards l D cT mnow f i u (by first | assumption | omega) (by first | assumption | omega) (by first | assumption | omega)) (va_cwS 2 C.1.2.2.2.2 gX5_link_X5_boards rfl rfl rfl n_X5_boards ⟨Nat.le_of_ble_eq_true rfl, Nat.le_of_ble_eq_true rfl⟩) [1] rfl rfl rfl (Nat.le_of_ble_eq_true rfl) ⟨Nat.zero_le _, Nat.zero_le _⟩ dX5_link_87 (fun r87 h12 => ?_)
              subst h12
              refine r_iln (pc := 90) C 3 rfl dX5_link_90 ?_
              refine r_ishrN (pc := 91) C (by omega) (by first | omega | (have := hBo i (by omega); omega) | exact lt_trans2 (lbTo_lt _ _ 16 (by omega)) | (have := hE i (by omega); have := Nat.div_le_self (u.inp i) u.wid; omega)) dX5_link_91 ?_
              refine r_ic (pc := 92) (v := nI 1) C rfl dX5_link_92 ?_
              refine r_iandN (pc := 93) C dX5_link_93 ?_
              refine r_v (y := nI ((lbs u.wid (u.outs i)).testBit h9j).toNat) (congrArg nI (rw_bit _ _)) ?_
              refine r_ic (pc := 94) (v := nI 1) C rfl dX5_link_94 ?_
              refine r_cneN (pc := 95) (tgt := 102) C bool_lt (by decide) dX5_link_95 (by decide) (fun c95 => ?_) (fun c95 => ?_)
              · have c95 := bool1n.mp c95
                refine r_ic (pc := 102) (v := nI 0) C rfl dX5_link_102 ?_
                refine r_goto (pc := 103) (tgt := 124) C dX5_link_103 (by decide) ?_
                refine r_is (pc := 124) C [1, 2, 3, 4, 5, 6, 7, 0] [(0, .ref mA), (1, .int (nI lb)), (2, .int (nI h1j)), (3, .int (nI h9j)), (4, .int (nI 1)), (5, .int fd), (6, .int (nI i)), (7, .int (nI 0))] (by decide) rfl dX5_link_124 ?_
                refine r_il (pc := 126) C 7 rfl dX5_link_126 ?_
                refine r_zeqN (pc := 128) (tgt := 151) C (by first | omega | (have := hBo i (by omega); omega) | exact lt_trans2 (lbTo_lt _ _ 16 (by omega)) | (have := hE i (by omega); have := Nat.div_le_self (u.inp i) u.wid; omega)) dX5_link_128 (by decide) (fun _ => ?_) (fun h => absurd h (by decide))
                refine r_il (pc := 151) C 5 rfl dX5_link_151 ?_
                refine r_is (pc := 153) C [1, 2, 3, 4, 5, 0, 6, 7] [(0, .ref mA), (1, .int (nI lb)), (2, .int (nI h1j)), (3, .int (nI h9j)), (4, .int (nI 1)), (5, .int fd), (6, .int (nI i)), (7, .int (nI 0))] (by decide) rfl dX5_link_153 ?_
                refine r_incN (pc := 155) C 6 [1, 2, 3, 4, 5, 6, 0, 7] [(0, .ref mA), (1, .int (nI lb)), (2, .int (nI h1j)), (3, .int (nI h9j)), (4, .int (nI 1)), (5, .int fd), (6, .int (nI (i + 1))), (7, .int (nI 0))] rfl (by decide) rfl dX5_link_155 ?_
                refine r_goto (pc := 158) (tgt := 66) C dX5_link_158 (by decide) ?_
                refine r_lv [0, 1, 2, 3, 4, 5, 6] (lv2 := [(0, .ref mA), (1, .int (nI lb)), (2, .int (nI h1j)), (3, .int (nI h9j)), (4, .int (nI 1)), (5, .int fd), (6, .int (nI (i + 1)))]) rfl ?_
                exact ih66 (i + 1) fd (by omega) (lx_no hq (fun g => by have := g.2; rw [c95] at this; cases this)) (by omega)
              · have c95 := bool1.mp c95
                refine r_ic (pc := 98) (v := nI 1) C rfl dX5_link_98 ?_
                refine r_goto (pc := 99) (tgt := 124) C dX5_link_99 (by decide) ?_
                refine r_is (pc := 124) C [1, 2, 3, 4, 5, 6, 7, 0] [(0, .ref mA), (1, .int (nI lb)), (2, .int (nI h1j)), (3, .int (nI h9j)), (4, .int (nI 1)), (5, .int fd), (6, .int (nI i)), (7, .int (nI 1))] (by decide) rfl dX5_link_124 ?_
                refine r_il (pc := 126) C 7 rfl dX5_link_126 ?_
                refine r_zeqN (pc := 128) (tgt := 151) C (by first | omega | (have := hBo i (by omega); omega) | exact lt_trans2 (lbTo_lt _ _ 16 (by omega)) | (have := hE i (by omega); have := Nat.div_le_self (u.inp i) u.wid; omega)) dX5_link_128 (by decide) (fun h => absurd h (by decide)) (fun _ => ?_)
                refine r_aln (pc := 131) C 0 rfl dX5_link_131 ?_
                refine r_get (pc := 132) C iX5_link_X5 0 rfl rfl 7 (by decide) (mw 1 rfl) rfl rfl dX5_link_132 ?_
                refine r_il (pc := 135) C 6 rfl dX5_link_135 ?_
                refine r_ic (pc := 137) (v := nI 2) C rfl dX5_link_137 ?_
                refine c_RS (pc := 138) (As := [.int (nI i), .int (nI 2)]) (wc := [])  C (k_X5_callAt l D cT i 2) (va_cwS 2 C.1.2.2.2.2 gX5_link_X5_callAt rfl rfl rfl n_X5_callAt ⟨Nat.le_of_ble_eq_true rfl, Nat.le_of_ble_eq_true rfl⟩) [] rfl rfl rfl (Nat.le_of_ble_eq_true rfl) ⟨Nat.zero_le _, Nat.zero_le _⟩ dX5_link_138 (fun r138 h13 => ?_)
                subst h13
                refine r_ialI (pc := 141) C 1 rfl (by first | omega | (have := hBo i (by omega); omega) | exact lt_trans2 (lbTo_lt _ _ 16 (by omega)) | (have := hE i (by omega); have := Nat.div_le_self (u.inp i) u.wid; omega)) (by decide) dX5_link_141 ?_
                refine r_v (y := nI (u.brd i)) ((hR.2.1 i (by first | omega | (have := hBo i (by omega); omega) | exact lt_trans2 (lbTo_lt _ _ 16 (by omega)) | (have := hE i (by omega); have := Nat.div_le_self (u.inp i) u.wid; omega))).2.2.1) ?_
                refine r_iln (pc := 142) C 2 rfl dX5_link_142 ?_
                refine r_cneN (pc := 143) (tgt := 151) C (by first | omega | (have := hBo i (by omega); omega) | exact lt_trans2 (lbTo_lt _ _ 16 (by omega)) | (have := hE i (by omega); have := Nat.div_le_self (u.inp i) u.wid; omega)) (by first | omega | (have := hBo i (by omega); omega) | exact lt_trans2 (lbTo_lt _ _ 16 (by omega)) | (have := hE i (by omega); have := Nat.div_le_self (u.inp i) u.wid; omega)) dX5_link_143 (by decide) (fun c143 => ?_) (fun c143 => ?_)
                · refine r_il (pc := 151) C 5 rfl dX5_link_151 ?_
                  refine r_is (pc := 153) C [1, 2, 3, 4, 5, 0, 6, 7] [(0, .ref mA), (1, .int (nI lb)), (2, .int (nI h1j)), (3, .int (nI h9j)), (4, .int (nI 1)), (5, .int fd), (6, .int (nI i)), (7, .int (nI 1))] (by decide) rfl dX5_link_153 ?_
                  refine r_incN (pc := 155) C 6 [1, 2, 3, 4, 5, 6, 0, 7] [(0, .ref mA), (1, .int (nI lb)), (2, .int (nI h1j)), (3, .int (nI h9j)), (4, .int (nI 1)), (5, .int fd), (6, .int (nI (i + 1))), (7, .int (nI 1))] rfl (by decide) rfl dX5_link_155 ?_
                  refine r_goto (pc := 158) (tgt := 66) C dX5_link_158 (by decide) ?_
                  refine r_lv [0, 1, 2, 3, 4, 5, 6] (lv2 := [(0, .ref mA), (1, .int (nI lb)), (2, .int (nI h1j)), (3, .int (nI h9j)), (4, .int (nI 1)), (5, .int fd), (6, .int (nI (i + 1)))]) rfl ?_
                  exact ih66 (i + 1) fd (by omega) (lx_no hq (fun g => c143 g.1)) (by omega)
                · refine r_il (pc := 146) C 6 rfl dX5_link_146 ?_
                  refine r_goto (pc := 148) (tgt := 153) C dX5_link_148 (by decide) ?_
                  refine r_is (pc := 153) C [1, 2, 3, 4, 5, 0, 6, 7] [(0, .ref mA), (1, .int (nI lb)), (2, .int (nI h1j)), (3, .int (nI h9j)), (4, .int (nI 1)), (5, .int (nI i)), (6, .int (nI i)), (7, .int (nI 1))] (by decide) rfl dX5_link_153 ?_
                  refine r_incN (pc := 155) C 6 [1, 2, 3, 4, 5, 6, 0, 7] [(0, .ref mA), (1, .int (nI lb)), (2, .int (nI h1j)), (3, .int (nI h9j)), (4, .int (nI 1)), (5, .int (nI i)), (6, .int (nI (i + 1))), (7, .int (nI 1))] rfl (by decide) rfl dX5_link_155 ?_
                  refine r_goto (pc := 158) (tgt := 66) C dX5_link_158 (by decide) ?_
                  refine r_lv [0, 1, 2, 3, 4, 5, 6] (lv2 := [(0, .ref mA), (1, .int (nI lb)), (2, .int (nI h1j)), (3, .int (nI h9j)), (4, .int (nI 1)), (5, .int (nI i)), (6, .int (nI (i + 1)))]) rfl ?_
                  exact ih66 (i + 1) (nI i) (by omega) (lx_hit (P := (fun k => u.brd k = h1j ∧ (lbs u.wid (u.outs k)).testBit h9j = true)) ⟨c143, c95⟩) (by omega)
        exact L66 _ 0 (-1) (Nat.zero_le _) lx_0 (Nat.lt_succ_self _)
      · have h9 := fun g => h9 ((in_ci (n := u.las) (by omega)).mpr g)
        refine r_zeqN (pc := 31) (tgt := 38) C (by first | omega | (have := hBo i (by omega); omega) | exact lt_trans2 (lbTo_lt _ _ 16 (by omega)) | (have := hE i (by omega); have := Nat.div_le_self (u.inp i) u.wid; omega)) dX5_link_31 (by decide) (fun _ => ?_) (fun h => absurd h (by decide))
        refine r_ic (pc := 38) (v := nI 0) C rfl dX5_link_38 ?_
        refine r_is (pc := 39) C [1, 2, 3, 4, 0] [(0, .ref mA), (1, .int (nI lb)), (2, .int (nI h1j)), (3, .int y), (4, .int (nI 0))] (by decide) rfl dX5_link_39 ?_
        refine r_aln (pc := 41) C 0 rfl dX5_link_41 ?_
        refine r_il (pc := 42) C 4 rfl dX5_link_42 ?_
        refine r_zeqN (pc := 44) (tgt := 51) C (by first | omega | (have := hBo i (by omega); omega) | exact lt_trans2 (lbTo_lt _ _ 16 (by omega)) | (have := hE i (by omega); have := Nat.div_le_self (u.inp i) u.wid; omega)) dX5_link_44 (by decide) (fun _ => ?_) (fun h => absurd h (by decide))
        refine r_ic (pc := 51) (v := nI 1) C rfl dX5_link_51 ?_
        refine c_WVi (pc := 52) (As := [.int (nI 1)]) (wc := [(mA, cMo mref mscr msz mspot mgood mleft mread mnow mtri mdia macts mkept misk qp)]) (wr := [(mnow, aI (cT 0) 104 f)]) (qr := 0) C hA (k_X5_refused l D cT mA mref mscr msz mspot mgood mleft mread mnow mtri mdia macts mkept misk qp 1 (by first | assumption | omega)) (cwV 1 C.1.2.2.2.2 gX5_link_X5_refused rfl rfl rfl n_X5_refused ⟨Nat.le_of_ble_eq_true rfl, Nat.le_of_ble_eq_true rfl⟩) rfl rfl [0] [1] rfl rfl ⟨by decide, by decide⟩ (by decide) [1, 0] (fun u15 => [(mA, cMo u15 mscr msz mspot mgood mleft mread mnow mtri mdia macts mkept misk qp), (mnow, aI (cT 0) 104 f)]) (fun _ => rfl) (by decide) rfl rfl (Nat.le_of_ble_eq_true rfl) ⟨Nat.zero_le _, Nat.zero_le _⟩ dX5_link_52 (fun r52 u15 h14 => ?_)
        obtain ⟨h14, h14m⟩ := h14
        have h14 := h14.trans (if_neg (by decide))
        subst h14
        subst h14m
        refine r_zeqN (pc := 55) (tgt := 60) C (by first | omega | (have := hBo i (by omega); omega) | exact lt_trans2 (lbTo_lt _ _ 16 (by omega)) | (have := hE i (by omega); have := Nat.div_le_self (u.inp i) u.wid; omega)) dX5_link_55 (by decide) (fun h => absurd h (by decide)) (fun _ => ?_)
        refine r_ic (pc := 58) (v := nI 0) C rfl dX5_link_58 ?_
        subst hQ
        exact e_iW C hr hk (Nat.le_refl _) (Nat.le_refl _) 1 rfl (Or.inl ⟨rfl, fun g => h9 (by have q := g.2; rw [if_neg (Nat.ne_of_gt c16)] at q; exact q)⟩) dX5_link_59
  · refine r_zeqN (pc := 5) (tgt := 38) C (by first | omega | (have := hBo i (by omega); omega) | exact lt_trans2 (lbTo_lt _ _ 16 (by omega)) | (have := hE i (by omega); have := Nat.div_le_self (u.inp i) u.wid; omega)) dX5_link_5 (by decide) (fun _ => ?_) (fun h => absurd h (by decide))
    refine r_ic (pc := 38) (v := nI 0) C rfl dX5_link_38 ?_
    refine r_is (pc := 39) C [1, 2, 3, 4, 0] [(0, .ref mA), (1, .int (nI lb)), (2, .int x), (3, .int y), (4, .int (nI 0))] (by decide) rfl dX5_link_39 ?_
    refine r_aln (pc := 41) C 0 rfl dX5_link_41 ?_
    refine r_il (pc := 42) C 4 rfl dX5_link_42 ?_
    refine r_zeqN (pc := 44) (tgt := 51) C (by first | omega | (have := hBo i (by omega); omega) | exact lt_trans2 (lbTo_lt _ _ 16 (by omega)) | (have := hE i (by omega); have := Nat.div_le_self (u.inp i) u.wid; omega)) dX5_link_44 (by decide) (fun _ => ?_) (fun h => absurd h (by decide))
    refine r_ic (pc := 51) (v := nI 1) C rfl dX5_link_51 ?_
    refine c_WVi (pc := 52) (As := [.int (nI 1)]) (wc := [(mA, cMo mref mscr msz mspot mgood mleft mread mnow mtri mdia macts mkept misk qp)]) (wr := [(mnow, aI (cT 0) 104 f)]) (qr := 0) C hA (k_X5_refused l D cT mA mref mscr msz mspot mgood mleft mread mnow mtri mdia macts mkept misk qp 1 (by first | assumption | omega)) (cwV 1 C.1.2.2.2.2 gX5_link_X5_refused rfl rfl rfl n_X5_refused ⟨Nat.le_of_ble_eq_true rfl, Nat.le_of_ble_eq_true rfl⟩) rfl rfl [0] [1] rfl rfl ⟨by decide, by decide⟩ (by decide) [1, 0] (fun u17 => [(mA, cMo u17 mscr msz mspot mgood mleft mread mnow mtri mdia macts mkept misk qp), (mnow, aI (cT 0) 104 f)]) (fun _ => rfl) (by decide) rfl rfl (Nat.le_of_ble_eq_true rfl) ⟨Nat.zero_le _, Nat.zero_le _⟩ dX5_link_52 (fun r52 u17 h16 => ?_)
    obtain ⟨h16, h16m⟩ := h16
    have h16 := h16.trans (if_neg (by decide))
    subst h16
    subst h16m
    refine r_zeqN (pc := 55) (tgt := 60) C (by first | omega | (have := hBo i (by omega); omega) | exact lt_trans2 (lbTo_lt _ _ 16 (by omega)) | (have := hE i (by omega); have := Nat.div_le_self (u.inp i) u.wid; omega)) dX5_link_55 (by decide) (fun h => absurd h (by decide)) (fun _ => ?_)
    refine r_ic (pc := 58) (v := nI 0) C rfl dX5_link_58 ?_
    subst hQ
    exact e_iW C hr hk (Nat.le_refl _) (Nat.le_refl _) 1 rfl (Or.inl ⟨rfl, fun g => h1 g.1⟩) dX5_link_59

theorem iX5_at_X5 : ∀ w ∈ u_ws RX5 TX5 14, w ∈ wsX5_at := by decide +kernel
abbrev rmX5_at : Room := { frames := 2, cells := 0, slots := 0, locals := 46 }
theorem n_X5_at : yX5_at.cls = RX5 ∧ yX5_at.cls ≠ "java/lang/invoke/MethodHandle" ∧ yX5_at.cls ≠ "java/lang/invoke/VarHandle" ∧ (parseMethodDescriptor yX5_at.desc).map (fun d => d.parameters.length) = some 2 := by decide +kernel
set_option maxHeartbeats 4000000 in
set_option maxRecDepth 100000 in
theorem k_X5_at (l : Launch) (D : va_G) (cT : Nat → ClassId) (mA mref mscr msz mspot mgood mleft mread mnow mtri mdia macts mkept misk qp : Nat) (f : Nat → Int32) (lb : Nat) (x : Int32) (u : SS) (hR : RowQ f u) (hJ : JQ u) (hlb : lb < 2) : MWi (S := Nat) l D cT yX5_at wsX5_at rmX5_at [.ref mA, .int (nI lb), .int x] [(mA, cMo mref mscr msz mspot mgood mleft mread mnow mtri mdia macts mkept misk qp), (mnow, aI (cT 0) 104 f)] (fun r w9 => (w9 = 1 ∧ ¬ CIn (if lb = 0 then u.fst * u.wid else u.las * u.wid) x) ∨ (w9 = 0 ∧ ∃ j, x = nI j ∧ j < (if lb = 0 then u.fst * u.wid else u.las * u.wid) ∧ (lb = 0 → lxQ u.cnt (fun k => u.inp k = j) r) ∧ (¬ lb = 0 → lxQ u.cnt (fun k => (u.outs k).testBit j = true) r))) (fun w9 => [(mA, cMo w9 mscr msz mspot mgood mleft mread mnow mtri mdia macts mkept misk qp), (mnow, aI (cT 0) 104 f)]) 0 0 := by
  refine m_Wi [(0, .ref mA), (1, .int (nI lb)), (2, .int x)] (by decide +kernel) rfl (Nat.le_of_ble_eq_true rfl) rfl ?_
  intro p e s m args below meth c A hAe C hA hr hk hnm_
  generalize hQ : MQ below (va_Qi _ _ A) args s 0 0 A = Q
  have hB := bd_of hJ
  obtain ⟨hF, hW, hM, hL, hPa, hBr, hCn, hFL, hE⟩ := id hB
  have hFW1 := mul44 hF hW
  have hLW1 := mul44 hL hW
  refine r_iln (pc := 0) C 1 rfl dX5_at_0 ?_
  refine r_zeqN (pc := 1) (tgt := 12) C (by omega) dX5_at_1 (by decide) (fun c1 => ?_) (fun c1 => ?_)
  · refine r_aln (pc := 12) C 0 rfl dX5_at_12 ?_
    refine r_iln (pc := 13) C 2 rfl dX5_at_13 ?_
    refine c_RV (pc := 14) (As := [.int x]) (wc := [(mA, cMo mref mscr msz mspot mgood mleft mread mnow mtri mdia macts mkept misk qp), (mnow, aI (cT 0) 104 f)]) (qr := 0) C (k_X5_isInput l D cT mA mref mscr msz mspot mgood mleft mread mnow mtri mdia macts mkept misk qp f x u (by first | assumption | omega) (by first | assumption | omega)) (cwV 1 C.1.2.2.2.2 gX5_at_X5_isInput rfl rfl rfl n_X5_isInput ⟨Nat.le_of_ble_eq_true rfl, Nat.le_of_ble_eq_true rfl⟩) [0, 1] rfl rfl rfl rfl rfl (Nat.le_of_ble_eq_true rfl) ⟨Nat.zero_le _, Nat.zero_le _⟩ dX5_at_14 (fun r14 h1 => ?_)
    rcases h1 with ⟨rfl, h1j, rfl, h1⟩ | ⟨rfl, h1⟩
    · refine r_isn (pc := 17) C [1, 2, 3, 0] [(0, .ref mA), (1, .int (nI lb)), (2, .int (nI h1j)), (3, .int (nI 1))] rfl (by decide) rfl dX5_at_17 ?_
      refine r_aln (pc := 18) C 0 rfl dX5_at_18 ?_
      refine r_iln (pc := 19) C 3 rfl dX5_at_19 ?_
      refine r_zeqN (pc := 20) (tgt := 27) C (by omega) dX5_at_20 (by decide) (fun h => absurd h (by decide)) (fun _ => ?_)
      refine r_ic (pc := 23) (v := nI 0) C rfl dX5_at_23 ?_
      refine r_goto (pc := 24) (tgt := 28) C dX5_at_24 (by decide) ?_
      refine c_WVi (pc := 28) (As := [.int (nI 0)]) (wc := [(mA, cMo mref mscr msz mspot mgood mleft mread mnow mtri mdia macts mkept misk qp)]) (wr := [(mnow, aI (cT 0) 104 f)]) (qr := 0) C hA (k_X5_refused l D cT mA mref mscr msz mspot mgood mleft mread mnow mtri mdia macts mkept misk qp 0 (by first | assumption | omega)) (cwV 1 C.1.2.2.2.2 gX5_at_X5_refused rfl rfl rfl n_X5_refused ⟨Nat.le_of_ble_eq_true rfl, Nat.le_of_ble_eq_true rfl⟩) rfl rfl [0] [1] rfl rfl ⟨by decide, by decide⟩ (by decide) [1, 0] (fun u3 => [(mA, cMo u3 mscr msz mspot mgood mleft mread mnow mtri mdia macts mkept misk qp), (mnow, aI (cT 0) 104 f)]) (fun _ => rfl) (by decide) rfl rfl (Nat.le_of_ble_eq_true rfl) ⟨Nat.zero_le _, Nat.zero_le _⟩ dX5_at_28 (fun r28 u3 h2 => ?_)
      obtain ⟨h2, h2m⟩ := h2
      have h2 := h2.trans (if_pos rfl)
      subst h2
      subst h2m
      refine r_zeqN (pc := 31) (tgt := 36) C (by omega) dX5_at_31 (by decide) (fun _ => ?_) (fun h => absurd h (by decide))
      refine r_iln (pc := 36) C 1 rfl dX5_at_36 ?_
      refine r_zeqN (pc := 37) (tgt := 51) C (by omega) dX5_at_37 (by decide) (fun c37 => ?_) (fun c37 => absurd c37 (by exact fun h => by omega))
      refine r_aln (pc := 51) C 0 rfl dX5_at_51 ?_
      refine r_get (pc := 52) C iX5_at_X5 0 rfl rfl 7 (by decide) (mw 1 rfl) rfl rfl dX5_at_52 ?_
      refine r_iln (pc := 55) C 2 rfl dX5_at_55 ?_
      refine c_RS (pc := 56) (As := [.ref mnow, .int (nI h1j)]) (wc := [(mnow, aI (cT 0) 104 f)])  C (k_X5_byInput l D cT mnow f h1j u hR hB (by omega)) (va_cwS 2 C.1.2.2.2.2 gX5_at_X5_byInput rfl rfl rfl n_X5_byInput ⟨Nat.le_of_ble_eq_true rfl, Nat.le_of_ble_eq_true rfl⟩) [1] rfl rfl rfl (Nat.le_of_ble_eq_true rfl) ⟨Nat.zero_le _, Nat.zero_le _⟩ dX5_at_56 (fun r56 h4 => ?_)
      skip
      subst hQ
      exact e_iW C hr hk (Nat.le_refl _) (Nat.le_refl _) 0 rfl (Or.inr ⟨rfl, _, rfl, by rw [if_pos c1]; exact h1, fun _ => h4, fun g => absurd c1 g⟩) dX5_at_59
    · refine r_isn (pc := 17) C [1, 2, 3, 0] [(0, .ref mA), (1, .int (nI lb)), (2, .int x), (3, .int (nI 0))] rfl (by decide) rfl dX5_at_17 ?_
      refine r_aln (pc := 18) C 0 rfl dX5_at_18 ?_
      refine r_iln (pc := 19) C 3 rfl dX5_at_19 ?_
      refine r_zeqN (pc := 20) (tgt := 27) C (by omega) dX5_at_20 (by decide) (fun _ => ?_) (fun h => absurd h (by decide))
      refine r_ic (pc := 27) (v := nI 1) C rfl dX5_at_27 ?_
      refine c_WVi (pc := 28) (As := [.int (nI 1)]) (wc := [(mA, cMo mref mscr msz mspot mgood mleft mread mnow mtri mdia macts mkept misk qp)]) (wr := [(mnow, aI (cT 0) 104 f)]) (qr := 0) C hA (k_X5_refused l D cT mA mref mscr msz mspot mgood mleft mread mnow mtri mdia macts mkept misk qp 1 (by first | assumption | omega)) (cwV 1 C.1.2.2.2.2 gX5_at_X5_refused rfl rfl rfl n_X5_refused ⟨Nat.le_of_ble_eq_true rfl, Nat.le_of_ble_eq_true rfl⟩) rfl rfl [0] [1] rfl rfl ⟨by decide, by decide⟩ (by decide) [1, 0] (fun u6 => [(mA, cMo u6 mscr msz mspot mgood mleft mread mnow mtri mdia macts mkept misk qp), (mnow, aI (cT 0) 104 f)]) (fun _ => rfl) (by decide) rfl rfl (Nat.le_of_ble_eq_true rfl) ⟨Nat.zero_le _, Nat.zero_le _⟩ dX5_at_28 (fun r28 u6 h5 => ?_)
      obtain ⟨h5, h5m⟩ := h5
      have h5 := h5.trans (if_neg (by decide))
      subst h5
      subst h5m
      refine r_zeqN (pc := 31) (tgt := 36) C (by omega) dX5_at_31 (by decide) (fun h => absurd h (by decide)) (fun _ => ?_)
      refine r_ic (pc := 34) (v := nI 0) C rfl dX5_at_34 ?_
      subst hQ
      exact e_iW C hr hk (Nat.le_refl _) (Nat.le_refl _) 1 rfl (Or.inl ⟨rfl, fun g => h1 (by rw [if_pos c1] at g; exact g)⟩) dX5_at_35
  · refine r_aln (pc := 4) C 0 rfl dX5_at_4 ?_
    refine r_iln (pc := 5) C 2 rfl dX5_at_5 ?_
    refine c_RV (pc := 6) (As := [.int x]) (wc := [(mA, cMo mref mscr msz mspot mgood mleft mread mnow mtri mdia macts mkept misk qp), (mnow, aI (cT 0) 104 f)]) (qr := 0) C (k_X5_isOutput l D cT mA mref mscr msz mspot mgood mleft mread mnow mtri mdia macts mkept misk qp f x u (by first | assumption | omega) (by first | assumption | omega)) (cwV 1 C.1.2.2.2.2 gX5_at_X5_isOutput rfl rfl rfl n_X5_isOutput ⟨Nat.le_of_ble_eq_true rfl, Nat.le_of_ble_eq_true rfl⟩) [0, 1] rfl rfl rfl rfl rfl (Nat.le_of_ble_eq_true rfl) ⟨Nat.zero_le _, Nat.zero_le _⟩ dX5_at_6 (fun r6 h7 => ?_)
    rcases h7 with ⟨rfl, h7j, rfl, h7⟩ | ⟨rfl, h7⟩
    · refine r_goto (pc := 9) (tgt := 17) C dX5_at_9 (by decide) ?_
      refine r_isn (pc := 17) C [1, 2, 3, 0] [(0, .ref mA), (1, .int (nI lb)), (2, .int (nI h7j)), (3, .int (nI 1))] rfl (by decide) rfl dX5_at_17 ?_
      refine r_aln (pc := 18) C 0 rfl dX5_at_18 ?_
      refine r_iln (pc := 19) C 3 rfl dX5_at_19 ?_
      refine r_zeqN (pc := 20) (tgt := 27) C (by omega) dX5_at_20 (by decide) (fun h => absurd h (by decide)) (fun _ => ?_)
      refine r_ic (pc := 23) (v := nI 0) C rfl dX5_at_23 ?_
      refine r_goto (pc := 24) (tgt := 28) C dX5_at_24 (by decide) ?_
      refine c_WVi (pc := 28) (As := [.int (nI 0)]) (wc := [(mA, cMo mref mscr msz mspot mgood mleft mread mnow mtri mdia macts mkept misk qp)]) (wr := [(mnow, aI (cT 0) 104 f)]) (qr := 0) C hA (k_X5_refused l D cT mA mref mscr msz mspot mgood mleft mread mnow mtri mdia macts mkept misk qp 0 (by first | assumption | omega)) (cwV 1 C.1.2.2.2.2 gX5_at_X5_refused rfl rfl rfl n_X5_refused ⟨Nat.le_of_ble_eq_true rfl, Nat.le_of_ble_eq_true rfl⟩) rfl rfl [0] [1] rfl rfl ⟨by decide, by decide⟩ (by decide) [1, 0] (fun u9 => [(mA, cMo u9 mscr msz mspot mgood mleft mread mnow mtri mdia macts mkept misk qp), (mnow, aI (cT 0) 104 f)]) (fun _ => rfl) (by decide) rfl rfl (Nat.le_of_ble_eq_true rfl) ⟨Nat.zero_le _, Nat.zero_le _⟩ dX5_at_28 (fun r28 u9 h8 => ?_)
      obtain ⟨h8, h8m⟩ := h8
      have h8 := h8.trans (if_pos rfl)
      subst h8
      subst h8m
      refine r_zeqN (pc := 31) (tgt := 36) C (by omega) dX5_at_31 (by decide) (fun _ => ?_) (fun h => absurd h (by decide))
      refine r_iln (pc := 36) C 1 rfl dX5_at_36 ?_
      refine r_zeqN (pc := 37) (tgt := 51) C (by omega) dX5_at_37 (by decide) (fun c37 => absurd c37 (by omega)) (fun c37 => ?_)
      refine r_aln (pc := 40) C 0 rfl dX5_at_40 ?_
      refine r_get (pc := 41) C iX5_at_X5 0 rfl rfl 7 (by decide) (mw 1 rfl) rfl rfl dX5_at_41 ?_
      refine r_iln (pc := 44) C 2 rfl dX5_at_44 ?_
      refine c_RS (pc := 45) (As := [.ref mnow, .int (nI h7j)]) (wc := [(mnow, aI (cT 0) 104 f)])  C (k_X5_byOutput l D cT mnow f h7j u hR hB (by omega)) (va_cwS 2 C.1.2.2.2.2 gX5_at_X5_byOutput rfl rfl rfl n_X5_byOutput ⟨Nat.le_of_ble_eq_true rfl, Nat.le_of_ble_eq_true rfl⟩) [1] rfl rfl rfl (Nat.le_of_ble_eq_true rfl) ⟨Nat.zero_le _, Nat.zero_le _⟩ dX5_at_45 (fun r45 h10 => ?_)
      skip
      refine r_goto (pc := 48) (tgt := 59) C dX5_at_48 (by decide) ?_
      subst hQ
      exact e_iW C hr hk (Nat.le_refl _) (Nat.le_refl _) 0 rfl (Or.inr ⟨rfl, _, rfl, by rw [if_neg (Nat.ne_of_gt c1)]; exact h7, fun g => absurd g (Nat.ne_of_gt c1), fun _ => h10⟩) dX5_at_59
    · refine r_goto (pc := 9) (tgt := 17) C dX5_at_9 (by decide) ?_
      refine r_isn (pc := 17) C [1, 2, 3, 0] [(0, .ref mA), (1, .int (nI lb)), (2, .int x), (3, .int (nI 0))] rfl (by decide) rfl dX5_at_17 ?_
      refine r_aln (pc := 18) C 0 rfl dX5_at_18 ?_
      refine r_iln (pc := 19) C 3 rfl dX5_at_19 ?_
      refine r_zeqN (pc := 20) (tgt := 27) C (by omega) dX5_at_20 (by decide) (fun _ => ?_) (fun h => absurd h (by decide))
      refine r_ic (pc := 27) (v := nI 1) C rfl dX5_at_27 ?_
      refine c_WVi (pc := 28) (As := [.int (nI 1)]) (wc := [(mA, cMo mref mscr msz mspot mgood mleft mread mnow mtri mdia macts mkept misk qp)]) (wr := [(mnow, aI (cT 0) 104 f)]) (qr := 0) C hA (k_X5_refused l D cT mA mref mscr msz mspot mgood mleft mread mnow mtri mdia macts mkept misk qp 1 (by first | assumption | omega)) (cwV 1 C.1.2.2.2.2 gX5_at_X5_refused rfl rfl rfl n_X5_refused ⟨Nat.le_of_ble_eq_true rfl, Nat.le_of_ble_eq_true rfl⟩) rfl rfl [0] [1] rfl rfl ⟨by decide, by decide⟩ (by decide) [1, 0] (fun u12 => [(mA, cMo u12 mscr msz mspot mgood mleft mread mnow mtri mdia macts mkept misk qp), (mnow, aI (cT 0) 104 f)]) (fun _ => rfl) (by decide) rfl rfl (Nat.le_of_ble_eq_true rfl) ⟨Nat.zero_le _, Nat.zero_le _⟩ dX5_at_28 (fun r28 u12 h11 => ?_)
      obtain ⟨h11, h11m⟩ := h11
      have h11 := h11.trans (if_neg (by decide))
      subst h11
      subst h11m
      refine r_zeqN (pc := 31) (tgt := 36) C (by omega) dX5_at_31 (by decide) (fun h => absurd h (by decide)) (fun _ => ?_)
      refine r_ic (pc := 34) (v := nI 0) C rfl dX5_at_34 ?_
      subst hQ
      exact e_iW C hr hk (Nat.le_refl _) (Nat.le_refl _) 1 rfl (Or.inl ⟨rfl, fun g => h7 (by rw [if_neg (Nat.ne_of_gt c1)] at g; exact g)⟩) dX5_at_35

theorem iX5_thanks_X5 : ∀ w ∈ u_ws RX5 TX5 14, w ∈ wsX5_thanks := by decide +kernel
abbrev rmX5_thanks : Room := { frames := 2, cells := 0, slots := 0, locals := 46 }
theorem n_X5_thanks : yX5_thanks.cls = RX5 ∧ yX5_thanks.cls ≠ "java/lang/invoke/MethodHandle" ∧ yX5_thanks.cls ≠ "java/lang/invoke/VarHandle" ∧ (parseMethodDescriptor yX5_thanks.desc).map (fun d => d.parameters.length) = some 2 := by decide +kernel
set_option maxHeartbeats 4000000 in
set_option maxRecDepth 100000 in
theorem k_X5_thanks (l : Launch) (D : va_G) (cT : Nat → ClassId) (mA mref mscr msz mspot mgood mleft mread mnow mtri mdia macts mkept misk qp : Nat) (f : Nat → Int32) (x : Int32) (lb : Nat) (u : SS) (hR : RowQ f u) (hJ : JQ u) (hlb : lb < 2) : MWi (S := Nat) l D cT yX5_thanks wsX5_thanks rmX5_thanks [.ref mA, .int x, .int (nI lb)] [(mA, cMo mref mscr msz mspot mgood mleft mread mnow mtri mdia macts mkept misk qp), (mnow, aI (cT 0) 104 f)] (fun r w9 => (w9 = 1 ∧ ¬ CIn (u.fst * u.wid) x) ∨ (w9 = 0 ∧ ∃ j, x = nI j ∧ j < u.fst * u.wid ∧ r = nI (if lb = 0 then u.got j else u.owe j))) (fun w9 => [(mA, cMo w9 mscr msz mspot mgood mleft mread mnow mtri mdia macts mkept misk qp), (mnow, aI (cT 0) 104 f)]) 0 0 := by
  refine m_Wi [(0, .ref mA), (1, .int x), (2, .int (nI lb))] (by decide +kernel) rfl (Nat.le_of_ble_eq_true rfl) rfl ?_
  intro p e s m args below meth c A hAe C hA hr hk hnm_
  generalize hQ : MQ below (va_Qi _ _ A) args s 0 0 A = Q
  have hB := bd_of hJ
  obtain ⟨hF, hW, hM, hL, hPa, hBr, hCn, hFL, hE⟩ := id hB
  have hFW1 := mul44 hF hW
  have hLW1 := mul44 hL hW
  refine r_aln (pc := 0) C 0 rfl dX5_thanks_0 ?_
  refine r_aln (pc := 1) C 0 rfl dX5_thanks_1 ?_
  refine r_iln (pc := 2) C 1 rfl dX5_thanks_2 ?_
  refine c_RV (pc := 3) (As := [.int x]) (wc := [(mA, cMo mref mscr msz mspot mgood mleft mread mnow mtri mdia macts mkept misk qp), (mnow, aI (cT 0) 104 f)]) (qr := 0) C (k_X5_isInput l D cT mA mref mscr msz mspot mgood mleft mread mnow mtri mdia macts mkept misk qp f x u (by first | assumption | omega) (by first | assumption | omega)) (cwV 1 C.1.2.2.2.2 gX5_thanks_X5_isInput rfl rfl rfl n_X5_isInput ⟨Nat.le_of_ble_eq_true rfl, Nat.le_of_ble_eq_true rfl⟩) [0, 1] rfl rfl rfl rfl rfl (Nat.le_of_ble_eq_true rfl) ⟨Nat.zero_le _, Nat.zero_le _⟩ dX5_thanks_3 (fun r3 h1 => ?_)
  rcases h1 with ⟨rfl, h1j, rfl, h1⟩ | ⟨rfl, h1⟩
  · refine r_zeqN (pc := 6) (tgt := 13) C (by omega) dX5_thanks_6 (by decide) (fun h => absurd h (by decide)) (fun _ => ?_)
    refine r_ic (pc := 9) (v := nI 0) C rfl dX5_thanks_9 ?_
    refine r_goto (pc := 10) (tgt := 14) C dX5_thanks_10 (by decide) ?_
    refine c_WVi (pc := 14) (As := [.int (nI 0)]) (wc := [(mA, cMo mref mscr msz mspot mgood mleft mread mnow mtri mdia macts mkept misk qp)]) (wr := [(mnow, aI (cT 0) 104 f)]) (qr := 0) C hA (k_X5_refused l D cT mA mref mscr msz mspot mgood mleft mread mnow mtri mdia macts mkept misk qp 0 (by first | assumption | omega)) (cwV 1 C.1.2.2.2.2 gX5_thanks_X5_refused rfl rfl rfl n_X5_refused ⟨Nat.le_of_ble_eq_true rfl, Nat.le_of_ble_eq_true rfl⟩) rfl rfl [0] [1] rfl rfl ⟨by decide, by decide⟩ (by decide) [1, 0] (fun u3 => [(mA, cMo u3 mscr msz mspot mgood mleft mread mnow mtri mdia macts mkept misk qp), (mnow, aI (cT 0) 104 f)]) (fun _ => rfl) (by decide) rfl rfl (Nat.le_of_ble_eq_true rfl) ⟨Nat.zero_le _, Nat.zero_le _⟩ dX5_thanks_14 (fun r14 u3 h2 => ?_)
    obtain ⟨h2, h2m⟩ := h2
    have h2 := h2.trans (if_pos rfl)
    subst h2
    subst h2m
    refine r_zeqN (pc := 17) (tgt := 24) C (by omega) dX5_thanks_17 (by decide) (fun _ => ?_) (fun h => absurd h (by decide))
    refine r_aln (pc := 24) C 0 rfl dX5_thanks_24 ?_
    refine r_get (pc := 25) C iX5_thanks_X5 0 rfl rfl 7 (by decide) (mw 1 rfl) rfl rfl dX5_thanks_25 ?_
    refine r_iln (pc := 28) C 2 rfl dX5_thanks_28 ?_
    refine r_zeqN (pc := 29) (tgt := 37) C (by omega) dX5_thanks_29 (by decide) (fun c29 => ?_) (fun c29 => ?_)
    · refine r_bi (pc := 37) (v := nI 88) C rfl dX5_thanks_37 ?_
      refine r_iln (pc := 39) C 1 rfl dX5_thanks_39 ?_
      refine r_iaddN (pc := 40) C dX5_thanks_40 ?_
      refine r_ialI (pc := 41) C 1 rfl (by omega) (by decide) dX5_thanks_41 ?_
      refine r_v (y := nI (u.got h1j)) ((hR.2.2 h1j (by omega)).2) ?_
      subst hQ
      exact e_iW C hr hk (Nat.le_refl _) (Nat.le_refl _) 0 rfl (Or.inr ⟨rfl, _, rfl, h1, by rw [if_pos c29]⟩) dX5_thanks_42
    · refine r_bi (pc := 32) (v := nI 72) C rfl dX5_thanks_32 ?_
      refine r_goto (pc := 34) (tgt := 39) C dX5_thanks_34 (by decide) ?_
      refine r_iln (pc := 39) C 1 rfl dX5_thanks_39 ?_
      refine r_iaddN (pc := 40) C dX5_thanks_40 ?_
      refine r_ialI (pc := 41) C 1 rfl (by omega) (by decide) dX5_thanks_41 ?_
      refine r_v (y := nI (u.owe h1j)) ((hR.2.2 h1j (by omega)).1) ?_
      subst hQ
      exact e_iW C hr hk (Nat.le_refl _) (Nat.le_refl _) 0 rfl (Or.inr ⟨rfl, _, rfl, h1, by rw [if_neg (Nat.ne_of_gt c29)]⟩) dX5_thanks_42
  · refine r_zeqN (pc := 6) (tgt := 13) C (by omega) dX5_thanks_6 (by decide) (fun _ => ?_) (fun h => absurd h (by decide))
    refine r_ic (pc := 13) (v := nI 1) C rfl dX5_thanks_13 ?_
    refine c_WVi (pc := 14) (As := [.int (nI 1)]) (wc := [(mA, cMo mref mscr msz mspot mgood mleft mread mnow mtri mdia macts mkept misk qp)]) (wr := [(mnow, aI (cT 0) 104 f)]) (qr := 0) C hA (k_X5_refused l D cT mA mref mscr msz mspot mgood mleft mread mnow mtri mdia macts mkept misk qp 1 (by first | assumption | omega)) (cwV 1 C.1.2.2.2.2 gX5_thanks_X5_refused rfl rfl rfl n_X5_refused ⟨Nat.le_of_ble_eq_true rfl, Nat.le_of_ble_eq_true rfl⟩) rfl rfl [0] [1] rfl rfl ⟨by decide, by decide⟩ (by decide) [1, 0] (fun u5 => [(mA, cMo u5 mscr msz mspot mgood mleft mread mnow mtri mdia macts mkept misk qp), (mnow, aI (cT 0) 104 f)]) (fun _ => rfl) (by decide) rfl rfl (Nat.le_of_ble_eq_true rfl) ⟨Nat.zero_le _, Nat.zero_le _⟩ dX5_thanks_14 (fun r14 u5 h4 => ?_)
    obtain ⟨h4, h4m⟩ := h4
    have h4 := h4.trans (if_neg (by decide))
    subst h4
    subst h4m
    refine r_zeqN (pc := 17) (tgt := 24) C (by omega) dX5_thanks_17 (by decide) (fun h => absurd h (by decide)) (fun _ => ?_)
    refine r_ic (pc := 20) (v := nI 0) C rfl dX5_thanks_20 ?_
    refine r_goto (pc := 21) (tgt := 42) C dX5_thanks_21 (by decide) ?_
    subst hQ
    exact e_iW C hr hk (Nat.le_refl _) (Nat.le_refl _) 1 rfl (Or.inl ⟨rfl, h1⟩) dX5_thanks_42

theorem iX5_take_X5 : ∀ w ∈ u_ws RX5 TX5 14, w ∈ wsX5_take := by decide +kernel
abbrev rmX5_take : Room := { frames := 2, cells := 0, slots := 0, locals := 45 }
theorem n_X5_take : yX5_take.cls = RX5 ∧ yX5_take.cls ≠ "java/lang/invoke/MethodHandle" ∧ yX5_take.cls ≠ "java/lang/invoke/VarHandle" ∧ (parseMethodDescriptor yX5_take.desc).map (fun d => d.parameters.length) = some 1 := by decide +kernel
set_option maxHeartbeats 4000000 in
set_option maxRecDepth 100000 in
theorem k_X5_take (l : Launch) (D : va_G) (cT : Nat → ClassId) (mA mref mscr msz mspot mgood mleft mread mnow mtri mdia macts mkept misk qp : Nat) (fn ft fd : Nat → Int32) (mv : Int32) (ha : macts ≤ 14) : MWi (S := Nat × Nat × (Nat → Int32) × (Nat → Int32)) l D cT yX5_take wsX5_take rmX5_take [.ref mA, .int mv] [(mA, cMo mref mscr msz mspot mgood mleft mread mnow mtri mdia macts mkept misk qp), (mnow, aI (cT 0) 104 fn), (mtri, aI (cT 0) 104 ft), (mdia, aI (cT 0) 1456 fd)] (fun r w9 => (mv = -1 ∧ w9.1 = 2 ∧ w9.2.2.1 = fn ∧ w9.2.2.2 = fd ∧ w9.2.1 = macts) ∨ (¬ mv = -1 ∧ w9.1 = 0 ∧ r = mv ∧ w9.2.2.1 = cpF ft fn 0 0 104 ∧ RMq macts fn fd w9.2.1 w9.2.2.2)) (fun w9 => [(mA, cMo w9.1 mscr msz mspot mgood mleft mread mnow mtri mdia w9.2.1 mkept misk qp), (mnow, aI (cT 0) 104 w9.2.2.1), (mtri, aI (cT 0) 104 ft), (mdia, aI (cT 0) 1456 w9.2.2.2)]) 0 0 := by
  refine m_Wi [(0, .ref mA), (1, .int mv)] (by decide +kernel) rfl (Nat.le_of_ble_eq_true rfl) rfl ?_
  intro p e s m args below meth c A hAe C hA hr hk hnm_
  generalize hQ : MQ below (va_Qi _ _ A) args s 0 0 A = Q
  refine r_aln (pc := 0) C 0 rfl dX5_take_0 ?_
  refine r_iln (pc := 1) C 1 rfl dX5_take_1 ?_
  refine r_ic (pc := 2) (v := (-1)) C rfl dX5_take_2 ?_
  refine r_cne (pc := 3) (tgt := 10) C dX5_take_3 (by decide) (fun c3 => ?_) (fun c3 => ?_)
  · refine r_ic (pc := 10) (v := nI 0) C rfl dX5_take_10 ?_
    refine c_WVi (pc := 11) (As := [.int (nI 0)]) (wc := [(mA, cMo mref mscr msz mspot mgood mleft mread mnow mtri mdia macts mkept misk qp)]) (wr := [(mnow, aI (cT 0) 104 fn), (mtri, aI (cT 0) 104 ft), (mdia, aI (cT 0) 1456 fd)]) (qr := 0) C hA (k_X5_refused l D cT mA mref mscr msz mspot mgood mleft mread mnow mtri mdia macts mkept misk qp 0 (by first | assumption | omega)) (cwV 1 C.1.2.2.2.2 gX5_take_X5_refused rfl rfl rfl n_X5_refused ⟨Nat.le_of_ble_eq_true rfl, Nat.le_of_ble_eq_true rfl⟩) rfl rfl [0] [1, 2, 3] rfl rfl ⟨by decide, by decide⟩ (by decide) [3, 0, 1, 2] (fun u2 => [(mA, cMo u2 mscr msz mspot mgood mleft mread mnow mtri mdia macts mkept misk qp), (mnow, aI (cT 0) 104 fn), (mtri, aI (cT 0) 104 ft), (mdia, aI (cT 0) 1456 fd)]) (fun _ => rfl) (by decide) rfl rfl (Nat.le_of_ble_eq_true rfl) ⟨Nat.zero_le _, Nat.zero_le _⟩ dX5_take_11 (fun r11 u2 h1 => ?_)
    obtain ⟨h1, h1m⟩ := h1
    have h1 := h1.trans (if_pos rfl)
    subst h1
    subst h1m
    refine r_zeqN (pc := 14) (tgt := 19) C (by omega) dX5_take_14 (by decide) (fun _ => ?_) (fun h => absurd h (by decide))
    refine r_aln (pc := 19) C 0 rfl dX5_take_19 ?_
    refine c_WVv (pc := 20) (As := []) (wc := [(mA, cMo 0 mscr msz mspot mgood mleft mread mnow mtri mdia macts mkept misk qp), (mnow, aI (cT 0) 104 fn), (mdia, aI (cT 0) 1456 fd)]) (wr := [(mtri, aI (cT 0) 104 ft)]) (qr := 0) C hA (k_X5_remember l D cT mA 0 mscr msz mspot mgood mleft mread mnow mtri mdia macts mkept misk qp fn fd (by first | assumption | omega)) (cwV 0 C.1.2.2.2.2 gX5_take_X5_remember rfl rfl rfl n_X5_remember ⟨Nat.le_of_ble_eq_true rfl, Nat.le_of_ble_eq_true rfl⟩) rfl rfl [0, 1, 3] [2] rfl rfl ⟨by decide, by decide⟩ (by decide) [1, 2, 0, 3] (fun u4 => [(mA, cMo 0 mscr msz mspot mgood mleft mread mnow mtri mdia u4.1 mkept misk qp), (mnow, aI (cT 0) 104 fn), (mtri, aI (cT 0) 104 ft), (mdia, aI (cT 0) 1456 u4.2)]) (fun _ => rfl) (by decide) rfl rfl (Nat.le_of_ble_eq_true rfl) ⟨Nat.zero_le _, Nat.zero_le _⟩ dX5_take_20 (fun u4 h3 => ?_)
    refine r_aln (pc := 23) C 0 rfl dX5_take_23 ?_
    refine r_get (pc := 24) C iX5_take_X5 0 rfl rfl 8 (by decide) (mw 1 rfl) rfl rfl dX5_take_24 ?_
    refine r_ic (pc := 27) (v := nI 0) C rfl dX5_take_27 ?_
    refine r_aln (pc := 28) C 0 rfl dX5_take_28 ?_
    refine r_get (pc := 29) C iX5_take_X5 0 rfl rfl 7 (by decide) (mw 2 rfl) rfl rfl dX5_take_29 ?_
    refine r_ic (pc := 32) (v := nI 0) C rfl dX5_take_32 ?_
    refine r_bi (pc := 33) (v := nI 104) C rfl dX5_take_33 ?_
    refine c_WSv (pc := 35) (As := [.ref mtri, .int (nI 0), .ref mnow, .int (nI 0), .int (nI 104)]) (wc := [(mtri, aI (cT 0) 104 ft), (mnow, aI (cT 0) 104 fn)]) (wr := [(mA, cMo 0 mscr msz mspot mgood mleft mread mnow mtri mdia u4.1 mkept misk qp), (mdia, aI (cT 0) 1456 u4.2)])  C hA (k_X5_copy l D cT mtri 104 ft mnow 104 fn 0 0 104 (⟨by decide, by decide⟩) (by decide) (by decide)) (va_cwS 5 C.1.2.2.2.2 gX5_take_X5_copy rfl rfl rfl n_X5_copy ⟨Nat.le_of_ble_eq_true rfl, Nat.le_of_ble_eq_true rfl⟩) [2, 1] [0, 3] rfl rfl ⟨by decide, by decide⟩ (by decide) [0, 3, 2, 1] (fun u6 => [(mA, cMo 0 mscr msz mspot mgood mleft mread mnow mtri mdia u4.1 mkept misk qp), (mnow, aI (cT 0) 104 u6), (mtri, aI (cT 0) 104 ft), (mdia, aI (cT 0) 1456 u4.2)]) (fun _ => rfl) (by decide) rfl rfl (Nat.le_of_ble_eq_true rfl) ⟨Nat.zero_le _, Nat.zero_le _⟩ dX5_take_35 (fun u6 h5 => ?_)
    obtain ⟨m7, rfl⟩ : ∃ z, z = u6 := ⟨_, rfl⟩
    try dsimp only at h5
    subst h5
    refine r_iln (pc := 38) C 1 rfl dX5_take_38 ?_
    subst hQ
    exact e_iW C hr hk (Nat.le_refl _) (Nat.le_refl _) ⟨0, u4.1, cpF ft fn 0 0 104, u4.2⟩ rfl (Or.inr ⟨c3, rfl, rfl, rfl, h3⟩) dX5_take_39
  · refine r_ic (pc := 6) (v := nI 2) C rfl dX5_take_6 ?_
    refine r_goto (pc := 7) (tgt := 11) C dX5_take_7 (by decide) ?_
    refine c_WVi (pc := 11) (As := [.int (nI 2)]) (wc := [(mA, cMo mref mscr msz mspot mgood mleft mread mnow mtri mdia macts mkept misk qp)]) (wr := [(mnow, aI (cT 0) 104 fn), (mtri, aI (cT 0) 104 ft), (mdia, aI (cT 0) 1456 fd)]) (qr := 0) C hA (k_X5_refused l D cT mA mref mscr msz mspot mgood mleft mread mnow mtri mdia macts mkept misk qp 2 (by first | assumption | omega)) (cwV 1 C.1.2.2.2.2 gX5_take_X5_refused rfl rfl rfl n_X5_refused ⟨Nat.le_of_ble_eq_true rfl, Nat.le_of_ble_eq_true rfl⟩) rfl rfl [0] [1, 2, 3] rfl rfl ⟨by decide, by decide⟩ (by decide) [3, 0, 1, 2] (fun u9 => [(mA, cMo u9 mscr msz mspot mgood mleft mread mnow mtri mdia macts mkept misk qp), (mnow, aI (cT 0) 104 fn), (mtri, aI (cT 0) 104 ft), (mdia, aI (cT 0) 1456 fd)]) (fun _ => rfl) (by decide) rfl rfl (Nat.le_of_ble_eq_true rfl) ⟨Nat.zero_le _, Nat.zero_le _⟩ dX5_take_11 (fun r11 u9 h8 => ?_)
    obtain ⟨h8, h8m⟩ := h8
    have h8 := h8.trans (if_neg (by decide))
    subst h8
    subst h8m
    refine r_zeqN (pc := 14) (tgt := 19) C (by omega) dX5_take_14 (by decide) (fun h => absurd h (by decide)) (fun _ => ?_)
    refine r_ic (pc := 17) (v := nI 0) C rfl dX5_take_17 ?_
    subst hQ
    exact e_iW C hr hk (Nat.le_refl _) (Nat.le_refl _) ⟨2, macts, fn, fd⟩ rfl (Or.inl ⟨c3, rfl, rfl, rfl, rfl⟩) dX5_take_18

theorem iX5_connect_X5 : ∀ w ∈ u_ws RX5 TX5 14, w ∈ wsX5_connect := by decide +kernel
abbrev rmX5_connect : Room := { frames := 8, cells := 0, slots := 0, locals := 192 }
theorem n_X5_connect : yX5_connect.cls = RX5 ∧ yX5_connect.cls ≠ "java/lang/invoke/MethodHandle" ∧ yX5_connect.cls ≠ "java/lang/invoke/VarHandle" ∧ (parseMethodDescriptor yX5_connect.desc).map (fun d => d.parameters.length) = some 2 := by decide +kernel
set_option maxHeartbeats 4000000 in
set_option maxRecDepth 100000 in
theorem k_X5_connect (l : Launch) (D : va_G) (cT : Nat → ClassId) (mA mref mscr msz mspot mgood mleft mread mnow mtri mdia macts mkept misk qp : Nat) (pl f ft fd : Nat → Int32) (x y : Int32) (u : SS) (hR : RowQ f u) (hJ : JQ u) (ha : macts ≤ 14) : MWi (S := Nat × Nat × (Nat → Int32) × (Nat → Int32) × (Nat → Int32) × (Nat → Int32)) l D cT yX5_connect wsX5_connect rmX5_connect [.ref mA, .int x, .int y] [(mA, cMo mref mscr msz mspot mgood mleft mread mnow mtri mdia macts mkept misk qp), (qp, aI (cT 0) 16 pl), (mnow, aI (cT 0) 104 f), (mtri, aI (cT 0) 104 ft), (mdia, aI (cT 0) 1456 fd)] (fun r w9 => ∃ r0 v, ACs u x y r0 v ∧ MA w9.1 r r0 v f fd macts w9.2.2.2.1 w9.2.2.2.2.2 w9.2.1) (fun w9 => [(mA, cMo w9.1 mscr msz mspot mgood mleft mread mnow mtri mdia w9.2.1 mkept misk qp), (qp, aI (cT 0) 16 w9.2.2.1), (mnow, aI (cT 0) 104 w9.2.2.2.1), (mtri, aI (cT 0) 104 w9.2.2.2.2.1), (mdia, aI (cT 0) 1456 w9.2.2.2.2.2)]) 0 0 := by
  refine m_Wi [(0, .ref mA), (1, .int x), (2, .int y)] (by decide +kernel) rfl (Nat.le_of_ble_eq_true rfl) rfl ?_
  intro p e s m args below meth c A hAe C hA hr hk hnm_
  generalize hQ : MQ below (va_Qi _ _ A) args s 0 0 A = Q
  have hB := bd_of hJ
  obtain ⟨hF, hW, hM, hL, hPa, hBr, hCn, hFL, hE⟩ := id hB
  have hFW1 := mul44 hF hW
  have hLW1 := mul44 hL hW
  refine r_aln (pc := 0) C 0 rfl dX5_connect_0 ?_
  refine r_aln (pc := 1) C 0 rfl dX5_connect_1 ?_
  refine r_iln (pc := 2) C 1 rfl dX5_connect_2 ?_
  refine c_RV (pc := 3) (As := [.int x]) (wc := [(mA, cMo mref mscr msz mspot mgood mleft mread mnow mtri mdia macts mkept misk qp), (mnow, aI (cT 0) 104 f)]) (qr := 0) C (k_X5_isInput l D cT mA mref mscr msz mspot mgood mleft mread mnow mtri mdia macts mkept misk qp f x u (by first | assumption | omega) (by first | assumption | omega)) (cwV 1 C.1.2.2.2.2 gX5_connect_X5_isInput rfl rfl rfl n_X5_isInput ⟨Nat.le_of_ble_eq_true rfl, Nat.le_of_ble_eq_true rfl⟩) [0, 2] rfl rfl rfl rfl rfl (Nat.le_of_ble_eq_true rfl) ⟨Nat.zero_le _, Nat.zero_le _⟩ dX5_connect_3 (fun r3 h1 => ?_)
  rcases h1 with ⟨rfl, h1j, rfl, h1⟩ | ⟨rfl, h1⟩
  · refine r_zeqN (pc := 6) (tgt := 21) C (by omega) dX5_connect_6 (by decide) (fun h => absurd h (by decide)) (fun _ => ?_)
    refine r_aln (pc := 9) C 0 rfl dX5_connect_9 ?_
    refine r_iln (pc := 10) C 2 rfl dX5_connect_10 ?_
    refine c_RV (pc := 11) (As := [.int y]) (wc := [(mA, cMo mref mscr msz mspot mgood mleft mread mnow mtri mdia macts mkept misk qp), (mnow, aI (cT 0) 104 f)]) (qr := 0) C (k_X5_isOutput l D cT mA mref mscr msz mspot mgood mleft mread mnow mtri mdia macts mkept misk qp f y u (by first | assumption | omega) (by first | assumption | omega)) (cwV 1 C.1.2.2.2.2 gX5_connect_X5_isOutput rfl rfl rfl n_X5_isOutput ⟨Nat.le_of_ble_eq_true rfl, Nat.le_of_ble_eq_true rfl⟩) [0, 2] rfl rfl rfl rfl rfl (Nat.le_of_ble_eq_true rfl) ⟨Nat.zero_le _, Nat.zero_le _⟩ dX5_connect_11 (fun r11 h2 => ?_)
    rcases h2 with ⟨rfl, h2j, rfl, h2⟩ | ⟨rfl, h2⟩
    · refine r_zeqN (pc := 14) (tgt := 21) C (by omega) dX5_connect_14 (by decide) (fun h => absurd h (by decide)) (fun _ => ?_)
      refine r_ic (pc := 17) (v := nI 0) C rfl dX5_connect_17 ?_
      refine r_goto (pc := 18) (tgt := 22) C dX5_connect_18 (by decide) ?_
      refine c_WVi (pc := 22) (As := [.int (nI 0)]) (wc := [(mA, cMo mref mscr msz mspot mgood mleft mread mnow mtri mdia macts mkept misk qp)]) (wr := [(qp, aI (cT 0) 16 pl), (mnow, aI (cT 0) 104 f), (mtri, aI (cT 0) 104 ft), (mdia, aI (cT 0) 1456 fd)]) (qr := 0) C hA (k_X5_refused l D cT mA mref mscr msz mspot mgood mleft mread mnow mtri mdia macts mkept misk qp 0 (by first | assumption | omega)) (cwV 1 C.1.2.2.2.2 gX5_connect_X5_refused rfl rfl rfl n_X5_refused ⟨Nat.le_of_ble_eq_true rfl, Nat.le_of_ble_eq_true rfl⟩) rfl rfl [0] [1, 2, 3, 4] rfl rfl ⟨by decide, by decide⟩ (by decide) [4, 0, 1, 2, 3] (fun u4 => [(mA, cMo u4 mscr msz mspot mgood mleft mread mnow mtri mdia macts mkept misk qp), (qp, aI (cT 0) 16 pl), (mnow, aI (cT 0) 104 f), (mtri, aI (cT 0) 104 ft), (mdia, aI (cT 0) 1456 fd)]) (fun _ => rfl) (by decide) rfl rfl (Nat.le_of_ble_eq_true rfl) ⟨Nat.zero_le _, Nat.zero_le _⟩ dX5_connect_22 (fun r22 u4 h3 => ?_)
      obtain ⟨h3, h3m⟩ := h3
      have h3 := h3.trans (if_pos rfl)
      subst h3
      subst h3m
      refine r_zeqN (pc := 25) (tgt := 30) C (by omega) dX5_connect_25 (by decide) (fun _ => ?_) (fun h => absurd h (by decide))
      refine r_aln (pc := 30) C 0 rfl dX5_connect_30 ?_
      refine c_WVv (pc := 31) (As := []) (wc := [(mA, cMo 0 mscr msz mspot mgood mleft mread mnow mtri mdia macts mkept misk qp), (mnow, aI (cT 0) 104 f), (mtri, aI (cT 0) 104 ft)]) (wr := [(qp, aI (cT 0) 16 pl), (mdia, aI (cT 0) 1456 fd)]) (qr := 0) C hA (k_X5_tryIt l D cT mA 0 mscr msz mspot mgood mleft mread mnow mtri mdia macts mkept misk qp f ft) (cwV 0 C.1.2.2.2.2 gX5_connect_X5_tryIt rfl rfl rfl n_X5_tryIt ⟨Nat.le_of_ble_eq_true rfl, Nat.le_of_ble_eq_true rfl⟩) rfl rfl [0, 2, 3] [1, 4] rfl rfl ⟨by decide, by decide⟩ (by decide) [2, 0, 3, 4, 1] (fun u6 => [(mA, cMo 0 mscr msz mspot mgood mleft mread mnow mtri mdia macts mkept misk qp), (qp, aI (cT 0) 16 pl), (mnow, aI (cT 0) 104 f), (mtri, aI (cT 0) 104 u6), (mdia, aI (cT 0) 1456 fd)]) (fun _ => rfl) (by decide) rfl rfl (Nat.le_of_ble_eq_true rfl) ⟨Nat.zero_le _, Nat.zero_le _⟩ dX5_connect_31 (fun u6 h5 => ?_)
      obtain ⟨m7, rfl⟩ : ∃ z, z = u6 := ⟨_, rfl⟩
      try dsimp only at h5
      subst h5
      refine r_aln (pc := 34) C 0 rfl dX5_connect_34 ?_
      refine r_aln (pc := 35) C 0 rfl dX5_connect_35 ?_
      refine r_aln (pc := 36) C 0 rfl dX5_connect_36 ?_
      refine r_get (pc := 37) C iX5_connect_X5 0 rfl rfl 8 (by decide) (mw 1 rfl) rfl rfl dX5_connect_37 ?_
      refine r_iln (pc := 40) C 1 rfl dX5_connect_40 ?_
      refine r_iln (pc := 41) C 2 rfl dX5_connect_41 ?_
      refine c_WVi (pc := 42) (As := [.ref mtri, .int (nI h1j), .int (nI h2j)]) (wc := [(mA, cMo 0 mscr msz mspot mgood mleft mread mnow mtri mdia macts mkept misk qp), (qp, aI (cT 0) 16 pl), (mtri, aI (cT 0) 104 (cpF f ft 0 0 104))]) (wr := [(mnow, aI (cT 0) 104 f), (mdia, aI (cT 0) 1456 fd)]) (qr := 0) C hA (k_X5_connectIn l D cT mA 0 mscr msz mspot mgood mleft mread mnow mtri mdia macts mkept misk qp pl mtri (cpF f ft 0 0 104) h1j h2j u (rq_cp hJ hR) hJ h1 h2) (cwV 3 C.1.2.2.2.2 gX5_connect_X5_connectIn rfl rfl rfl n_X5_connectIn ⟨Nat.le_of_ble_eq_true rfl, Nat.le_of_ble_eq_true rfl⟩) rfl rfl [0, 1, 3] [2, 4] rfl rfl ⟨by decide, by decide⟩ (by decide) [2, 3, 0, 4, 1] (fun u9 => [(mA, cMo 0 mscr msz mspot mgood mleft mread mnow mtri mdia macts mkept misk qp), (qp, aI (cT 0) 16 u9.1), (mnow, aI (cT 0) 104 f), (mtri, aI (cT 0) 104 u9.2), (mdia, aI (cT 0) 1456 fd)]) (fun _ => rfl) (by decide) rfl rfl (Nat.le_of_ble_eq_true rfl) ⟨Nat.zero_le _, Nat.zero_le _⟩ dX5_connect_42 (fun r42 u9 h8 => ?_)
      obtain ⟨h80, h8v, h8, h8R, h8Q⟩ := h8
      refine c_WVi (pc := 45) (As := [.int r42]) (wc := [(mA, cMo 0 mscr msz mspot mgood mleft mread mnow mtri mdia macts mkept misk qp), (mnow, aI (cT 0) 104 f), (mtri, aI (cT 0) 104 u9.2), (mdia, aI (cT 0) 1456 fd)]) (wr := [(qp, aI (cT 0) 16 u9.1)]) (qr := 0) C hA (k_X5_take l D cT mA 0 mscr msz mspot mgood mleft mread mnow mtri mdia macts mkept misk qp f u9.2 fd r42 (by first | assumption | omega)) (cwV 1 C.1.2.2.2.2 gX5_connect_X5_take rfl rfl rfl n_X5_take ⟨Nat.le_of_ble_eq_true rfl, Nat.le_of_ble_eq_true rfl⟩) rfl rfl [0, 2, 3, 4] [1] rfl rfl ⟨by decide, by decide⟩ (by decide) [1, 0, 2, 3, 4] (fun u11 => [(mA, cMo u11.1 mscr msz mspot mgood mleft mread mnow mtri mdia u11.2.1 mkept misk qp), (qp, aI (cT 0) 16 u9.1), (mnow, aI (cT 0) 104 u11.2.2.1), (mtri, aI (cT 0) 104 u9.2), (mdia, aI (cT 0) 1456 u11.2.2.2)]) (fun _ => rfl) (by decide) rfl rfl (Nat.le_of_ble_eq_true rfl) ⟨Nat.zero_le _, Nat.zero_le _⟩ dX5_connect_45 (fun r45 u11 h10 => ?_)
      subst hQ
      exact e_iW C hr hk (Nat.le_refl _) (Nat.le_refl _) ⟨u11.1, u11.2.1, u9.1, u11.2.2.1, u9.2, u11.2.2.2⟩ rfl (⟨_, _, h8, ma_take (jq_ac hJ h8) h8R h8Q h10⟩) dX5_connect_48
    · refine r_zeqN (pc := 14) (tgt := 21) C (by omega) dX5_connect_14 (by decide) (fun _ => ?_) (fun h => absurd h (by decide))
      refine r_ic (pc := 21) (v := nI 1) C rfl dX5_connect_21 ?_
      refine c_WVi (pc := 22) (As := [.int (nI 1)]) (wc := [(mA, cMo mref mscr msz mspot mgood mleft mread mnow mtri mdia macts mkept misk qp)]) (wr := [(qp, aI (cT 0) 16 pl), (mnow, aI (cT 0) 104 f), (mtri, aI (cT 0) 104 ft), (mdia, aI (cT 0) 1456 fd)]) (qr := 0) C hA (k_X5_refused l D cT mA mref mscr msz mspot mgood mleft mread mnow mtri mdia macts mkept misk qp 1 (by first | assumption | omega)) (cwV 1 C.1.2.2.2.2 gX5_connect_X5_refused rfl rfl rfl n_X5_refused ⟨Nat.le_of_ble_eq_true rfl, Nat.le_of_ble_eq_true rfl⟩) rfl rfl [0] [1, 2, 3, 4] rfl rfl ⟨by decide, by decide⟩ (by decide) [4, 0, 1, 2, 3] (fun u13 => [(mA, cMo u13 mscr msz mspot mgood mleft mread mnow mtri mdia macts mkept misk qp), (qp, aI (cT 0) 16 pl), (mnow, aI (cT 0) 104 f), (mtri, aI (cT 0) 104 ft), (mdia, aI (cT 0) 1456 fd)]) (fun _ => rfl) (by decide) rfl rfl (Nat.le_of_ble_eq_true rfl) ⟨Nat.zero_le _, Nat.zero_le _⟩ dX5_connect_22 (fun r22 u13 h12 => ?_)
      obtain ⟨h12, h12m⟩ := h12
      have h12 := h12.trans (if_neg (by decide))
      subst h12
      subst h12m
      refine r_zeqN (pc := 25) (tgt := 30) C (by omega) dX5_connect_25 (by decide) (fun h => absurd h (by decide)) (fun _ => ?_)
      refine r_ic (pc := 28) (v := nI 0) C rfl dX5_connect_28 ?_
      subst hQ
      exact e_iW C hr hk (Nat.le_refl _) (Nat.le_refl _) ⟨1, macts, pl, f, ft, fd⟩ rfl (⟨-2, u, ac_out (fun g => h2 g.2), Or.inl ⟨rfl, rfl, rfl, rfl, rfl⟩⟩) dX5_connect_29
  · refine r_zeqN (pc := 6) (tgt := 21) C (by omega) dX5_connect_6 (by decide) (fun _ => ?_) (fun h => absurd h (by decide))
    refine r_ic (pc := 21) (v := nI 1) C rfl dX5_connect_21 ?_
    refine c_WVi (pc := 22) (As := [.int (nI 1)]) (wc := [(mA, cMo mref mscr msz mspot mgood mleft mread mnow mtri mdia macts mkept misk qp)]) (wr := [(qp, aI (cT 0) 16 pl), (mnow, aI (cT 0) 104 f), (mtri, aI (cT 0) 104 ft), (mdia, aI (cT 0) 1456 fd)]) (qr := 0) C hA (k_X5_refused l D cT mA mref mscr msz mspot mgood mleft mread mnow mtri mdia macts mkept misk qp 1 (by first | assumption | omega)) (cwV 1 C.1.2.2.2.2 gX5_connect_X5_refused rfl rfl rfl n_X5_refused ⟨Nat.le_of_ble_eq_true rfl, Nat.le_of_ble_eq_true rfl⟩) rfl rfl [0] [1, 2, 3, 4] rfl rfl ⟨by decide, by decide⟩ (by decide) [4, 0, 1, 2, 3] (fun u15 => [(mA, cMo u15 mscr msz mspot mgood mleft mread mnow mtri mdia macts mkept misk qp), (qp, aI (cT 0) 16 pl), (mnow, aI (cT 0) 104 f), (mtri, aI (cT 0) 104 ft), (mdia, aI (cT 0) 1456 fd)]) (fun _ => rfl) (by decide) rfl rfl (Nat.le_of_ble_eq_true rfl) ⟨Nat.zero_le _, Nat.zero_le _⟩ dX5_connect_22 (fun r22 u15 h14 => ?_)
    obtain ⟨h14, h14m⟩ := h14
    have h14 := h14.trans (if_neg (by decide))
    subst h14
    subst h14m
    refine r_zeqN (pc := 25) (tgt := 30) C (by omega) dX5_connect_25 (by decide) (fun h => absurd h (by decide)) (fun _ => ?_)
    refine r_ic (pc := 28) (v := nI 0) C rfl dX5_connect_28 ?_
    subst hQ
    exact e_iW C hr hk (Nat.le_refl _) (Nat.le_refl _) ⟨1, macts, pl, f, ft, fd⟩ rfl (⟨-2, u, ac_out (fun g => h1 g.1), Or.inl ⟨rfl, rfl, rfl, rfl, rfl⟩⟩) dX5_connect_29

theorem iX5_join_X5 : ∀ w ∈ u_ws RX5 TX5 14, w ∈ wsX5_join := by decide +kernel
abbrev rmX5_join : Room := { frames := 8, cells := 0, slots := 0, locals := 191 }
theorem n_X5_join : yX5_join.cls = RX5 ∧ yX5_join.cls ≠ "java/lang/invoke/MethodHandle" ∧ yX5_join.cls ≠ "java/lang/invoke/VarHandle" ∧ (parseMethodDescriptor yX5_join.desc).map (fun d => d.parameters.length) = some 2 := by decide +kernel
set_option maxHeartbeats 4000000 in
set_option maxRecDepth 100000 in
theorem k_X5_join (l : Launch) (D : va_G) (cT : Nat → ClassId) (mA mref mscr msz mspot mgood mleft mread mnow mtri mdia macts mkept misk qp : Nat) (pl f ft fd : Nat → Int32) (x y : Int32) (u : SS) (hR : RowQ f u) (hJ : JQ u) (ha : macts ≤ 14) : MWi (S := Nat × Nat × (Nat → Int32) × (Nat → Int32) × (Nat → Int32) × (Nat → Int32)) l D cT yX5_join wsX5_join rmX5_join [.ref mA, .int x, .int y] [(mA, cMo mref mscr msz mspot mgood mleft mread mnow mtri mdia macts mkept misk qp), (qp, aI (cT 0) 16 pl), (mnow, aI (cT 0) 104 f), (mtri, aI (cT 0) 104 ft), (mdia, aI (cT 0) 1456 fd)] (fun r w9 => ∃ r0 v, AOs u x y r0 v ∧ MA w9.1 r r0 v f fd macts w9.2.2.2.1 w9.2.2.2.2.2 w9.2.1) (fun w9 => [(mA, cMo w9.1 mscr msz mspot mgood mleft mread mnow mtri mdia w9.2.1 mkept misk qp), (qp, aI (cT 0) 16 w9.2.2.1), (mnow, aI (cT 0) 104 w9.2.2.2.1), (mtri, aI (cT 0) 104 w9.2.2.2.2.1), (mdia, aI (cT 0) 1456 w9.2.2.2.2.2)]) 0 0 := by
  refine m_Wi [(0, .ref mA), (1, .int x), (2, .int y)] (by decide +kernel) rfl (Nat.le_of_ble_eq_true rfl) rfl ?_
  intro p e s m args below meth c A hAe C hA hr hk hnm_
  generalize hQ : MQ below (va_Qi _ _ A) args s 0 0 A = Q
  have hB := bd_of hJ
  obtain ⟨hF, hW, hM, hL, hPa, hBr, hCn, hFL, hE⟩ := id hB
  have hFW1 := mul44 hF hW
  have hLW1 := mul44 hL hW
  refine r_aln (pc := 0) C 0 rfl dX5_join_0 ?_
  refine r_aln (pc := 1) C 0 rfl dX5_join_1 ?_
  refine r_iln (pc := 2) C 1 rfl dX5_join_2 ?_
  refine c_RV (pc := 3) (As := [.int x]) (wc := [(mA, cMo mref mscr msz mspot mgood mleft mread mnow mtri mdia macts mkept misk qp), (mnow, aI (cT 0) 104 f)]) (qr := 0) C (k_X5_isCall l D cT mA mref mscr msz mspot mgood mleft mread mnow mtri mdia macts mkept misk qp f x u (by first | assumption | omega) (by first | assumption | omega)) (cwV 1 C.1.2.2.2.2 gX5_join_X5_isCall rfl rfl rfl n_X5_isCall ⟨Nat.le_of_ble_eq_true rfl, Nat.le_of_ble_eq_true rfl⟩) [0, 2] rfl rfl rfl rfl rfl (Nat.le_of_ble_eq_true rfl) ⟨Nat.zero_le _, Nat.zero_le _⟩ dX5_join_3 (fun r3 h1 => ?_)
  rcases h1 with ⟨rfl, h1j, rfl, h1⟩ | ⟨rfl, h1⟩
  · refine r_zeqN (pc := 6) (tgt := 21) C (by omega) dX5_join_6 (by decide) (fun h => absurd h (by decide)) (fun _ => ?_)
    refine r_aln (pc := 9) C 0 rfl dX5_join_9 ?_
    refine r_iln (pc := 10) C 2 rfl dX5_join_10 ?_
    refine c_RV (pc := 11) (As := [.int y]) (wc := [(mA, cMo mref mscr msz mspot mgood mleft mread mnow mtri mdia macts mkept misk qp), (mnow, aI (cT 0) 104 f)]) (qr := 0) C (k_X5_isOutput l D cT mA mref mscr msz mspot mgood mleft mread mnow mtri mdia macts mkept misk qp f y u (by first | assumption | omega) (by first | assumption | omega)) (cwV 1 C.1.2.2.2.2 gX5_join_X5_isOutput rfl rfl rfl n_X5_isOutput ⟨Nat.le_of_ble_eq_true rfl, Nat.le_of_ble_eq_true rfl⟩) [0, 2] rfl rfl rfl rfl rfl (Nat.le_of_ble_eq_true rfl) ⟨Nat.zero_le _, Nat.zero_le _⟩ dX5_join_11 (fun r11 h2 => ?_)
    rcases h2 with ⟨rfl, h2j, rfl, h2⟩ | ⟨rfl, h2⟩
    · refine r_zeqN (pc := 14) (tgt := 21) C (by omega) dX5_join_14 (by decide) (fun h => absurd h (by decide)) (fun _ => ?_)
      refine r_ic (pc := 17) (v := nI 0) C rfl dX5_join_17 ?_
      refine r_goto (pc := 18) (tgt := 22) C dX5_join_18 (by decide) ?_
      refine c_WVi (pc := 22) (As := [.int (nI 0)]) (wc := [(mA, cMo mref mscr msz mspot mgood mleft mread mnow mtri mdia macts mkept misk qp)]) (wr := [(qp, aI (cT 0) 16 pl), (mnow, aI (cT 0) 104 f), (mtri, aI (cT 0) 104 ft), (mdia, aI (cT 0) 1456 fd)]) (qr := 0) C hA (k_X5_refused l D cT mA mref mscr msz mspot mgood mleft mread mnow mtri mdia macts mkept misk qp 0 (by first | assumption | omega)) (cwV 1 C.1.2.2.2.2 gX5_join_X5_refused rfl rfl rfl n_X5_refused ⟨Nat.le_of_ble_eq_true rfl, Nat.le_of_ble_eq_true rfl⟩) rfl rfl [0] [1, 2, 3, 4] rfl rfl ⟨by decide, by decide⟩ (by decide) [4, 0, 1, 2, 3] (fun u4 => [(mA, cMo u4 mscr msz mspot mgood mleft mread mnow mtri mdia macts mkept misk qp), (qp, aI (cT 0) 16 pl), (mnow, aI (cT 0) 104 f), (mtri, aI (cT 0) 104 ft), (mdia, aI (cT 0) 1456 fd)]) (fun _ => rfl) (by decide) rfl rfl (Nat.le_of_ble_eq_true rfl) ⟨Nat.zero_le _, Nat.zero_le _⟩ dX5_join_22 (fun r22 u4 h3 => ?_)
      obtain ⟨h3, h3m⟩ := h3
      have h3 := h3.trans (if_pos rfl)
      subst h3
      subst h3m
      refine r_zeqN (pc := 25) (tgt := 30) C (by omega) dX5_join_25 (by decide) (fun _ => ?_) (fun h => absurd h (by decide))
      refine r_aln (pc := 30) C 0 rfl dX5_join_30 ?_
      refine c_WVv (pc := 31) (As := []) (wc := [(mA, cMo 0 mscr msz mspot mgood mleft mread mnow mtri mdia macts mkept misk qp), (mnow, aI (cT 0) 104 f), (mtri, aI (cT 0) 104 ft)]) (wr := [(qp, aI (cT 0) 16 pl), (mdia, aI (cT 0) 1456 fd)]) (qr := 0) C hA (k_X5_tryIt l D cT mA 0 mscr msz mspot mgood mleft mread mnow mtri mdia macts mkept misk qp f ft) (cwV 0 C.1.2.2.2.2 gX5_join_X5_tryIt rfl rfl rfl n_X5_tryIt ⟨Nat.le_of_ble_eq_true rfl, Nat.le_of_ble_eq_true rfl⟩) rfl rfl [0, 2, 3] [1, 4] rfl rfl ⟨by decide, by decide⟩ (by decide) [2, 0, 3, 4, 1] (fun u6 => [(mA, cMo 0 mscr msz mspot mgood mleft mread mnow mtri mdia macts mkept misk qp), (qp, aI (cT 0) 16 pl), (mnow, aI (cT 0) 104 f), (mtri, aI (cT 0) 104 u6), (mdia, aI (cT 0) 1456 fd)]) (fun _ => rfl) (by decide) rfl rfl (Nat.le_of_ble_eq_true rfl) ⟨Nat.zero_le _, Nat.zero_le _⟩ dX5_join_31 (fun u6 h5 => ?_)
      obtain ⟨m7, rfl⟩ : ∃ z, z = u6 := ⟨_, rfl⟩
      try dsimp only at h5
      subst h5
      refine r_aln (pc := 34) C 0 rfl dX5_join_34 ?_
      refine r_aln (pc := 35) C 0 rfl dX5_join_35 ?_
      refine r_aln (pc := 36) C 0 rfl dX5_join_36 ?_
      refine r_get (pc := 37) C iX5_join_X5 0 rfl rfl 8 (by decide) (mw 1 rfl) rfl rfl dX5_join_37 ?_
      refine r_iln (pc := 40) C 1 rfl dX5_join_40 ?_
      refine r_iln (pc := 41) C 2 rfl dX5_join_41 ?_
      refine c_WVi (pc := 42) (As := [.ref mtri, .int (nI h1j), .int (nI h2j)]) (wc := [(mA, cMo 0 mscr msz mspot mgood mleft mread mnow mtri mdia macts mkept misk qp), (qp, aI (cT 0) 16 pl), (mtri, aI (cT 0) 104 (cpF f ft 0 0 104))]) (wr := [(mnow, aI (cT 0) 104 f), (mdia, aI (cT 0) 1456 fd)]) (qr := 0) C hA (k_X5_joinIn l D cT mA 0 mscr msz mspot mgood mleft mread mnow mtri mdia macts mkept misk qp pl mtri (cpF f ft 0 0 104) h1j h2j u (rq_cp hJ hR) hJ h1 h2) (cwV 3 C.1.2.2.2.2 gX5_join_X5_joinIn rfl rfl rfl n_X5_joinIn ⟨Nat.le_of_ble_eq_true rfl, Nat.le_of_ble_eq_true rfl⟩) rfl rfl [0, 1, 3] [2, 4] rfl rfl ⟨by decide, by decide⟩ (by decide) [2, 3, 0, 4, 1] (fun u9 => [(mA, cMo 0 mscr msz mspot mgood mleft mread mnow mtri mdia macts mkept misk qp), (qp, aI (cT 0) 16 u9.1), (mnow, aI (cT 0) 104 f), (mtri, aI (cT 0) 104 u9.2), (mdia, aI (cT 0) 1456 fd)]) (fun _ => rfl) (by decide) rfl rfl (Nat.le_of_ble_eq_true rfl) ⟨Nat.zero_le _, Nat.zero_le _⟩ dX5_join_42 (fun r42 u9 h8 => ?_)
      obtain ⟨h80, h8v, h8, h8R, h8Q⟩ := h8
      refine c_WVi (pc := 45) (As := [.int r42]) (wc := [(mA, cMo 0 mscr msz mspot mgood mleft mread mnow mtri mdia macts mkept misk qp), (mnow, aI (cT 0) 104 f), (mtri, aI (cT 0) 104 u9.2), (mdia, aI (cT 0) 1456 fd)]) (wr := [(qp, aI (cT 0) 16 u9.1)]) (qr := 0) C hA (k_X5_take l D cT mA 0 mscr msz mspot mgood mleft mread mnow mtri mdia macts mkept misk qp f u9.2 fd r42 (by first | assumption | omega)) (cwV 1 C.1.2.2.2.2 gX5_join_X5_take rfl rfl rfl n_X5_take ⟨Nat.le_of_ble_eq_true rfl, Nat.le_of_ble_eq_true rfl⟩) rfl rfl [0, 2, 3, 4] [1] rfl rfl ⟨by decide, by decide⟩ (by decide) [1, 0, 2, 3, 4] (fun u11 => [(mA, cMo u11.1 mscr msz mspot mgood mleft mread mnow mtri mdia u11.2.1 mkept misk qp), (qp, aI (cT 0) 16 u9.1), (mnow, aI (cT 0) 104 u11.2.2.1), (mtri, aI (cT 0) 104 u9.2), (mdia, aI (cT 0) 1456 u11.2.2.2)]) (fun _ => rfl) (by decide) rfl rfl (Nat.le_of_ble_eq_true rfl) ⟨Nat.zero_le _, Nat.zero_le _⟩ dX5_join_45 (fun r45 u11 h10 => ?_)
      subst hQ
      exact e_iW C hr hk (Nat.le_refl _) (Nat.le_refl _) ⟨u11.1, u11.2.1, u9.1, u11.2.2.1, u9.2, u11.2.2.2⟩ rfl (⟨_, _, h8, ma_take (jq_ao hJ h8) h8R h8Q h10⟩) dX5_join_48
    · refine r_zeqN (pc := 14) (tgt := 21) C (by omega) dX5_join_14 (by decide) (fun _ => ?_) (fun h => absurd h (by decide))
      refine r_ic (pc := 21) (v := nI 1) C rfl dX5_join_21 ?_
      refine c_WVi (pc := 22) (As := [.int (nI 1)]) (wc := [(mA, cMo mref mscr msz mspot mgood mleft mread mnow mtri mdia macts mkept misk qp)]) (wr := [(qp, aI (cT 0) 16 pl), (mnow, aI (cT 0) 104 f), (mtri, aI (cT 0) 104 ft), (mdia, aI (cT 0) 1456 fd)]) (qr := 0) C hA (k_X5_refused l D cT mA mref mscr msz mspot mgood mleft mread mnow mtri mdia macts mkept misk qp 1 (by first | assumption | omega)) (cwV 1 C.1.2.2.2.2 gX5_join_X5_refused rfl rfl rfl n_X5_refused ⟨Nat.le_of_ble_eq_true rfl, Nat.le_of_ble_eq_true rfl⟩) rfl rfl [0] [1, 2, 3, 4] rfl rfl ⟨by decide, by decide⟩ (by decide) [4, 0, 1, 2, 3] (fun u13 => [(mA, cMo u13 mscr msz mspot mgood mleft mread mnow mtri mdia macts mkept misk qp), (qp, aI (cT 0) 16 pl), (mnow, aI (cT 0) 104 f), (mtri, aI (cT 0) 104 ft), (mdia, aI (cT 0) 1456 fd)]) (fun _ => rfl) (by decide) rfl rfl (Nat.le_of_ble_eq_true rfl) ⟨Nat.zero_le _, Nat.zero_le _⟩ dX5_join_22 (fun r22 u13 h12 => ?_)
      obtain ⟨h12, h12m⟩ := h12
      have h12 := h12.trans (if_neg (by decide))
      subst h12
      subst h12m
      refine r_zeqN (pc := 25) (tgt := 30) C (by omega) dX5_join_25 (by decide) (fun h => absurd h (by decide)) (fun _ => ?_)
      refine r_ic (pc := 28) (v := nI 0) C rfl dX5_join_28 ?_
      subst hQ
      exact e_iW C hr hk (Nat.le_refl _) (Nat.le_refl _) ⟨1, macts, pl, f, ft, fd⟩ rfl (⟨-2, u, ao_out2 (fun g => h2 g.2), Or.inl ⟨rfl, rfl, rfl, rfl, rfl⟩⟩) dX5_join_29
  · refine r_zeqN (pc := 6) (tgt := 21) C (by omega) dX5_join_6 (by decide) (fun _ => ?_) (fun h => absurd h (by decide))
    refine r_ic (pc := 21) (v := nI 1) C rfl dX5_join_21 ?_
    refine c_WVi (pc := 22) (As := [.int (nI 1)]) (wc := [(mA, cMo mref mscr msz mspot mgood mleft mread mnow mtri mdia macts mkept misk qp)]) (wr := [(qp, aI (cT 0) 16 pl), (mnow, aI (cT 0) 104 f), (mtri, aI (cT 0) 104 ft), (mdia, aI (cT 0) 1456 fd)]) (qr := 0) C hA (k_X5_refused l D cT mA mref mscr msz mspot mgood mleft mread mnow mtri mdia macts mkept misk qp 1 (by first | assumption | omega)) (cwV 1 C.1.2.2.2.2 gX5_join_X5_refused rfl rfl rfl n_X5_refused ⟨Nat.le_of_ble_eq_true rfl, Nat.le_of_ble_eq_true rfl⟩) rfl rfl [0] [1, 2, 3, 4] rfl rfl ⟨by decide, by decide⟩ (by decide) [4, 0, 1, 2, 3] (fun u15 => [(mA, cMo u15 mscr msz mspot mgood mleft mread mnow mtri mdia macts mkept misk qp), (qp, aI (cT 0) 16 pl), (mnow, aI (cT 0) 104 f), (mtri, aI (cT 0) 104 ft), (mdia, aI (cT 0) 1456 fd)]) (fun _ => rfl) (by decide) rfl rfl (Nat.le_of_ble_eq_true rfl) ⟨Nat.zero_le _, Nat.zero_le _⟩ dX5_join_22 (fun r22 u15 h14 => ?_)
    obtain ⟨h14, h14m⟩ := h14
    have h14 := h14.trans (if_neg (by decide))
    subst h14
    subst h14m
    refine r_zeqN (pc := 25) (tgt := 30) C (by omega) dX5_join_25 (by decide) (fun h => absurd h (by decide)) (fun _ => ?_)
    refine r_ic (pc := 28) (v := nI 0) C rfl dX5_join_28 ?_
    subst hQ
    exact e_iW C hr hk (Nat.le_refl _) (Nat.le_refl _) ⟨1, macts, pl, f, ft, fd⟩ rfl (⟨-2, u, ao_out2 (fun g => h1 g.1), Or.inl ⟨rfl, rfl, rfl, rfl, rfl⟩⟩) dX5_join_29

theorem iX5_hang_X5 : ∀ w ∈ u_ws RX5 TX5 14, w ∈ wsX5_hang := by decide +kernel
abbrev rmX5_hang : Room := { frames := 2, cells := 0, slots := 0, locals := 46 }
theorem n_X5_hang : yX5_hang.cls = RX5 ∧ yX5_hang.cls ≠ "java/lang/invoke/MethodHandle" ∧ yX5_hang.cls ≠ "java/lang/invoke/VarHandle" ∧ (parseMethodDescriptor yX5_hang.desc).map (fun d => d.parameters.length) = some 1 := by decide +kernel
set_option maxHeartbeats 4000000 in
set_option maxRecDepth 100000 in
theorem k_X5_hang (l : Launch) (D : va_G) (cT : Nat → ClassId) (mA mref mscr msz mspot mgood mleft mread mnow mtri mdia macts mkept misk qp : Nat) (f fd : Nat → Int32) (x : Int32) (u : SS) (hR : RowQ f u) (hJ : JQ u) (ha : macts ≤ 14) : MWi (S := Nat × Nat × (Nat → Int32) × (Nat → Int32)) l D cT yX5_hang wsX5_hang rmX5_hang [.ref mA, .int x] [(mA, cMo mref mscr msz mspot mgood mleft mread mnow mtri mdia macts mkept misk qp), (mnow, aI (cT 0) 104 f), (mdia, aI (cT 0) 1456 fd)] (fun r w9 => ∃ r0 v, HGs u x r0 v ∧ MA w9.1 r r0 v f fd macts w9.2.2.1 w9.2.2.2 w9.2.1) (fun w9 => [(mA, cMo w9.1 mscr msz mspot mgood mleft mread mnow mtri mdia w9.2.1 mkept misk qp), (mnow, aI (cT 0) 104 w9.2.2.1), (mdia, aI (cT 0) 1456 w9.2.2.2)]) 0 0 := by
  refine m_Wi [(0, .ref mA), (1, .int x)] (by decide +kernel) rfl (Nat.le_of_ble_eq_true rfl) rfl ?_
  intro p e s m args below meth c A hAe C hA hr hk hnm_
  generalize hQ : MQ below (va_Qi _ _ A) args s 0 0 A = Q
  have hB := bd_of hJ
  obtain ⟨hF, hW, hM, hL, hPa, hBr, hCn, hFL, hE⟩ := id hB
  have hFW1 := mul44 hF hW
  have hLW1 := mul44 hL hW
  refine r_aln (pc := 0) C 0 rfl dX5_hang_0 ?_
  refine r_aln (pc := 1) C 0 rfl dX5_hang_1 ?_
  refine r_iln (pc := 2) C 1 rfl dX5_hang_2 ?_
  refine c_RV (pc := 3) (As := [.int x]) (wc := [(mA, cMo mref mscr msz mspot mgood mleft mread mnow mtri mdia macts mkept misk qp), (mnow, aI (cT 0) 104 f)]) (qr := 0) C (k_X5_isCall l D cT mA mref mscr msz mspot mgood mleft mread mnow mtri mdia macts mkept misk qp f x u (by first | assumption | omega) (by first | assumption | omega)) (cwV 1 C.1.2.2.2.2 gX5_hang_X5_isCall rfl rfl rfl n_X5_isCall ⟨Nat.le_of_ble_eq_true rfl, Nat.le_of_ble_eq_true rfl⟩) [0, 1] rfl rfl rfl rfl rfl (Nat.le_of_ble_eq_true rfl) ⟨Nat.zero_le _, Nat.zero_le _⟩ dX5_hang_3 (fun r3 h1 => ?_)
  rcases h1 with ⟨rfl, h1j, rfl, h1⟩ | ⟨rfl, h1⟩
  · refine r_zeqN (pc := 6) (tgt := 13) C (by omega) dX5_hang_6 (by decide) (fun h => absurd h (by decide)) (fun _ => ?_)
    refine r_ic (pc := 9) (v := nI 0) C rfl dX5_hang_9 ?_
    refine r_goto (pc := 10) (tgt := 14) C dX5_hang_10 (by decide) ?_
    refine c_WVi (pc := 14) (As := [.int (nI 0)]) (wc := [(mA, cMo mref mscr msz mspot mgood mleft mread mnow mtri mdia macts mkept misk qp)]) (wr := [(mnow, aI (cT 0) 104 f), (mdia, aI (cT 0) 1456 fd)]) (qr := 0) C hA (k_X5_refused l D cT mA mref mscr msz mspot mgood mleft mread mnow mtri mdia macts mkept misk qp 0 (by first | assumption | omega)) (cwV 1 C.1.2.2.2.2 gX5_hang_X5_refused rfl rfl rfl n_X5_refused ⟨Nat.le_of_ble_eq_true rfl, Nat.le_of_ble_eq_true rfl⟩) rfl rfl [0] [1, 2] rfl rfl ⟨by decide, by decide⟩ (by decide) [2, 0, 1] (fun u3 => [(mA, cMo u3 mscr msz mspot mgood mleft mread mnow mtri mdia macts mkept misk qp), (mnow, aI (cT 0) 104 f), (mdia, aI (cT 0) 1456 fd)]) (fun _ => rfl) (by decide) rfl rfl (Nat.le_of_ble_eq_true rfl) ⟨Nat.zero_le _, Nat.zero_le _⟩ dX5_hang_14 (fun r14 u3 h2 => ?_)
    obtain ⟨h2, h2m⟩ := h2
    have h2 := h2.trans (if_pos rfl)
    subst h2
    subst h2m
    refine r_zeqN (pc := 17) (tgt := 22) C (by omega) dX5_hang_17 (by decide) (fun _ => ?_) (fun h => absurd h (by decide))
    refine r_aln (pc := 22) C 0 rfl dX5_hang_22 ?_
    refine c_WVv (pc := 23) (As := []) (wc := [(mA, cMo 0 mscr msz mspot mgood mleft mread mnow mtri mdia macts mkept misk qp), (mnow, aI (cT 0) 104 f), (mdia, aI (cT 0) 1456 fd)]) (wr := []) (qr := 0) C hA (k_X5_remember l D cT mA 0 mscr msz mspot mgood mleft mread mnow mtri mdia macts mkept misk qp f fd (by first | assumption | omega)) (cwV 0 C.1.2.2.2.2 gX5_hang_X5_remember rfl rfl rfl n_X5_remember ⟨Nat.le_of_ble_eq_true rfl, Nat.le_of_ble_eq_true rfl⟩) rfl rfl [0, 1, 2] [] rfl rfl ⟨by decide, by decide⟩ (by decide) [0, 1, 2] (fun u5 => [(mA, cMo 0 mscr msz mspot mgood mleft mread mnow mtri mdia u5.1 mkept misk qp), (mnow, aI (cT 0) 104 f), (mdia, aI (cT 0) 1456 u5.2)]) (fun _ => rfl) (by decide) rfl rfl (Nat.le_of_ble_eq_true rfl) ⟨Nat.zero_le _, Nat.zero_le _⟩ dX5_hang_23 (fun u5 h4 => ?_)
    refine r_aln (pc := 26) C 0 rfl dX5_hang_26 ?_
    refine r_get (pc := 27) C iX5_hang_X5 0 rfl rfl 7 (by decide) (mw 1 rfl) rfl rfl dX5_hang_27 ?_
    refine r_iln (pc := 30) C 1 rfl dX5_hang_30 ?_
    refine c_WSv (pc := 31) (As := [.ref mnow, .int (nI h1j)]) (wc := [(mnow, aI (cT 0) 104 f)]) (wr := [(mA, cMo 0 mscr msz mspot mgood mleft mread mnow mtri mdia u5.1 mkept misk qp), (mdia, aI (cT 0) 1456 u5.2)])  C hA (k_X5_hangIn l D cT mnow f h1j u hR hB (by omega)) (va_cwS 2 C.1.2.2.2.2 gX5_hang_X5_hangIn rfl rfl rfl n_X5_hangIn ⟨Nat.le_of_ble_eq_true rfl, Nat.le_of_ble_eq_true rfl⟩) [1] [0, 2] rfl rfl ⟨by decide, by decide⟩ (by decide) [0, 2, 1] (fun u7 => [(mA, cMo 0 mscr msz mspot mgood mleft mread mnow mtri mdia u5.1 mkept misk qp), (mnow, aI (cT 0) 104 u7), (mdia, aI (cT 0) 1456 u5.2)]) (fun _ => rfl) (by decide) rfl rfl (Nat.le_of_ble_eq_true rfl) ⟨Nat.zero_le _, Nat.zero_le _⟩ dX5_hang_31 (fun u7 h6 => ?_)
    refine r_aln (pc := 34) C 0 rfl dX5_hang_34 ?_
    refine r_get (pc := 35) C iX5_hang_X5 0 rfl rfl 7 (by decide) (mw 1 rfl) rfl rfl dX5_hang_35 ?_
    refine r_ic (pc := 38) (v := nI 4) C rfl dX5_hang_38 ?_
    refine r_ialI (pc := 39) C 1 rfl (by omega) (by decide) dX5_hang_39 ?_
    refine r_v (y := nI (u.cnt - 1)) h6.1.2.2.2.2.1 ?_
    subst hQ
    exact e_iW C hr hk (Nat.le_refl _) (Nat.le_refl _) ⟨0, u5.1, u7, u5.2⟩ rfl (⟨_, _, hg_ok h1, Or.inr (Or.inr ⟨rfl, rfl, nI_m2 (by omega), nI_m3 (by omega), h6, h4⟩)⟩) dX5_hang_40
  · refine r_zeqN (pc := 6) (tgt := 13) C (by omega) dX5_hang_6 (by decide) (fun _ => ?_) (fun h => absurd h (by decide))
    refine r_ic (pc := 13) (v := nI 1) C rfl dX5_hang_13 ?_
    refine c_WVi (pc := 14) (As := [.int (nI 1)]) (wc := [(mA, cMo mref mscr msz mspot mgood mleft mread mnow mtri mdia macts mkept misk qp)]) (wr := [(mnow, aI (cT 0) 104 f), (mdia, aI (cT 0) 1456 fd)]) (qr := 0) C hA (k_X5_refused l D cT mA mref mscr msz mspot mgood mleft mread mnow mtri mdia macts mkept misk qp 1 (by first | assumption | omega)) (cwV 1 C.1.2.2.2.2 gX5_hang_X5_refused rfl rfl rfl n_X5_refused ⟨Nat.le_of_ble_eq_true rfl, Nat.le_of_ble_eq_true rfl⟩) rfl rfl [0] [1, 2] rfl rfl ⟨by decide, by decide⟩ (by decide) [2, 0, 1] (fun u9 => [(mA, cMo u9 mscr msz mspot mgood mleft mread mnow mtri mdia macts mkept misk qp), (mnow, aI (cT 0) 104 f), (mdia, aI (cT 0) 1456 fd)]) (fun _ => rfl) (by decide) rfl rfl (Nat.le_of_ble_eq_true rfl) ⟨Nat.zero_le _, Nat.zero_le _⟩ dX5_hang_14 (fun r14 u9 h8 => ?_)
    obtain ⟨h8, h8m⟩ := h8
    have h8 := h8.trans (if_neg (by decide))
    subst h8
    subst h8m
    refine r_zeqN (pc := 17) (tgt := 22) C (by omega) dX5_hang_17 (by decide) (fun h => absurd h (by decide)) (fun _ => ?_)
    refine r_ic (pc := 20) (v := nI 0) C rfl dX5_hang_20 ?_
    subst hQ
    exact e_iW C hr hk (Nat.le_refl _) (Nat.le_refl _) ⟨1, macts, f, fd⟩ rfl (⟨-2, u, hg_out2 h1, Or.inl ⟨rfl, rfl, rfl, rfl, rfl⟩⟩) dX5_hang_21

theorem iX5_drop_X5 : ∀ w ∈ u_ws RX5 TX5 14, w ∈ wsX5_drop := by decide +kernel
abbrev rmX5_drop : Room := { frames := 3, cells := 0, slots := 0, locals := 66 }
theorem n_X5_drop : yX5_drop.cls = RX5 ∧ yX5_drop.cls ≠ "java/lang/invoke/MethodHandle" ∧ yX5_drop.cls ≠ "java/lang/invoke/VarHandle" ∧ (parseMethodDescriptor yX5_drop.desc).map (fun d => d.parameters.length) = some 1 := by decide +kernel
set_option maxHeartbeats 4000000 in
set_option maxRecDepth 100000 in
theorem k_X5_drop (l : Launch) (D : va_G) (cT : Nat → ClassId) (mA mref mscr msz mspot mgood mleft mread mnow mtri mdia macts mkept misk qp : Nat) (f fd : Nat → Int32) (y : Int32) (u : SS) (hR : RowQ f u) (hJ : JQ u) (ha : macts ≤ 14) : MWi (S := Nat × Nat × (Nat → Int32) × (Nat → Int32)) l D cT yX5_drop wsX5_drop rmX5_drop [.ref mA, .int y] [(mA, cMo mref mscr msz mspot mgood mleft mread mnow mtri mdia macts mkept misk qp), (mnow, aI (cT 0) 104 f), (mdia, aI (cT 0) 1456 fd)] (fun r w9 => ∃ r0 v, DRs u y r0 v ∧ MA w9.1 r r0 v f fd macts w9.2.2.1 w9.2.2.2 w9.2.1) (fun w9 => [(mA, cMo w9.1 mscr msz mspot mgood mleft mread mnow mtri mdia w9.2.1 mkept misk qp), (mnow, aI (cT 0) 104 w9.2.2.1), (mdia, aI (cT 0) 1456 w9.2.2.2)]) 0 0 := by
  refine m_Wi [(0, .ref mA), (1, .int y)] (by decide +kernel) rfl (Nat.le_of_ble_eq_true rfl) rfl ?_
  intro p e s m args below meth c A hAe C hA hr hk hnm_
  generalize hQ : MQ below (va_Qi _ _ A) args s 0 0 A = Q
  have hB := bd_of hJ
  obtain ⟨hF, hW, hM, hL, hPa, hBr, hCn, hFL, hE⟩ := id hB
  have hFW1 := mul44 hF hW
  have hLW1 := mul44 hL hW
  refine r_aln (pc := 0) C 0 rfl dX5_drop_0 ?_
  refine r_aln (pc := 1) C 0 rfl dX5_drop_1 ?_
  refine r_iln (pc := 2) C 1 rfl dX5_drop_2 ?_
  refine c_RV (pc := 3) (As := [.int y]) (wc := [(mA, cMo mref mscr msz mspot mgood mleft mread mnow mtri mdia macts mkept misk qp), (mnow, aI (cT 0) 104 f)]) (qr := 0) C (k_X5_isOutput l D cT mA mref mscr msz mspot mgood mleft mread mnow mtri mdia macts mkept misk qp f y u (by first | assumption | omega) (by first | assumption | omega)) (cwV 1 C.1.2.2.2.2 gX5_drop_X5_isOutput rfl rfl rfl n_X5_isOutput ⟨Nat.le_of_ble_eq_true rfl, Nat.le_of_ble_eq_true rfl⟩) [0, 1] rfl rfl rfl rfl rfl (Nat.le_of_ble_eq_true rfl) ⟨Nat.zero_le _, Nat.zero_le _⟩ dX5_drop_3 (fun r3 h1 => ?_)
  rcases h1 with ⟨rfl, h1j, rfl, h1⟩ | ⟨rfl, h1⟩
  · refine r_zneN (pc := 6) (tgt := 13) C (by omega) dX5_drop_6 (by decide) (fun _ => ?_) (fun h => absurd h (by decide))
    refine r_aln (pc := 13) C 0 rfl dX5_drop_13 ?_
    refine r_get (pc := 14) C iX5_drop_X5 0 rfl rfl 7 (by decide) (mw 1 rfl) rfl rfl dX5_drop_14 ?_
    refine r_iln (pc := 17) C 1 rfl dX5_drop_17 ?_
    refine c_RS (pc := 18) (As := [.ref mnow, .int (nI h1j)]) (wc := [(mnow, aI (cT 0) 104 f)])  C (k_X5_canDrop l D cT mnow f h1j u hR hJ h1) (va_cwS 2 C.1.2.2.2.2 gX5_drop_X5_canDrop rfl rfl rfl n_X5_canDrop ⟨Nat.le_of_ble_eq_true rfl, Nat.le_of_ble_eq_true rfl⟩) [1] rfl rfl rfl (Nat.le_of_ble_eq_true rfl) ⟨Nat.zero_le _, Nat.zero_le _⟩ dX5_drop_18 (fun r18 h2 => ?_)
    rcases h2 with ⟨rfl, h2c, h2l, h2b, h2⟩ | ⟨rfl, h2⟩
    · refine r_zeqN (pc := 21) (tgt := 28) C (by omega) dX5_drop_21 (by decide) (fun h => absurd h (by decide)) (fun _ => ?_)
      refine r_ic (pc := 24) (v := nI 0) C rfl dX5_drop_24 ?_
      refine r_goto (pc := 25) (tgt := 29) C dX5_drop_25 (by decide) ?_
      refine c_WVi (pc := 29) (As := [.int (nI 0)]) (wc := [(mA, cMo mref mscr msz mspot mgood mleft mread mnow mtri mdia macts mkept misk qp)]) (wr := [(mnow, aI (cT 0) 104 f), (mdia, aI (cT 0) 1456 fd)]) (qr := 0) C hA (k_X5_refused l D cT mA mref mscr msz mspot mgood mleft mread mnow mtri mdia macts mkept misk qp 0 (by first | assumption | omega)) (cwV 1 C.1.2.2.2.2 gX5_drop_X5_refused rfl rfl rfl n_X5_refused ⟨Nat.le_of_ble_eq_true rfl, Nat.le_of_ble_eq_true rfl⟩) rfl rfl [0] [1, 2] rfl rfl ⟨by decide, by decide⟩ (by decide) [2, 0, 1] (fun u4 => [(mA, cMo u4 mscr msz mspot mgood mleft mread mnow mtri mdia macts mkept misk qp), (mnow, aI (cT 0) 104 f), (mdia, aI (cT 0) 1456 fd)]) (fun _ => rfl) (by decide) rfl rfl (Nat.le_of_ble_eq_true rfl) ⟨Nat.zero_le _, Nat.zero_le _⟩ dX5_drop_29 (fun r29 u4 h3 => ?_)
      obtain ⟨h3, h3m⟩ := h3
      have h3 := h3.trans (if_pos rfl)
      subst h3
      subst h3m
      refine r_zeqN (pc := 32) (tgt := 37) C (by omega) dX5_drop_32 (by decide) (fun _ => ?_) (fun h => absurd h (by decide))
      refine r_aln (pc := 37) C 0 rfl dX5_drop_37 ?_
      refine c_WVv (pc := 38) (As := []) (wc := [(mA, cMo 0 mscr msz mspot mgood mleft mread mnow mtri mdia macts mkept misk qp), (mnow, aI (cT 0) 104 f), (mdia, aI (cT 0) 1456 fd)]) (wr := []) (qr := 0) C hA (k_X5_remember l D cT mA 0 mscr msz mspot mgood mleft mread mnow mtri mdia macts mkept misk qp f fd (by first | assumption | omega)) (cwV 0 C.1.2.2.2.2 gX5_drop_X5_remember rfl rfl rfl n_X5_remember ⟨Nat.le_of_ble_eq_true rfl, Nat.le_of_ble_eq_true rfl⟩) rfl rfl [0, 1, 2] [] rfl rfl ⟨by decide, by decide⟩ (by decide) [0, 1, 2] (fun u6 => [(mA, cMo 0 mscr msz mspot mgood mleft mread mnow mtri mdia u6.1 mkept misk qp), (mnow, aI (cT 0) 104 f), (mdia, aI (cT 0) 1456 u6.2)]) (fun _ => rfl) (by decide) rfl rfl (Nat.le_of_ble_eq_true rfl) ⟨Nat.zero_le _, Nat.zero_le _⟩ dX5_drop_38 (fun u6 h5 => ?_)
      refine r_aln (pc := 41) C 0 rfl dX5_drop_41 ?_
      refine r_get (pc := 42) C iX5_drop_X5 0 rfl rfl 7 (by decide) (mw 1 rfl) rfl rfl dX5_drop_42 ?_
      refine r_iln (pc := 45) C 1 rfl dX5_drop_45 ?_
      refine c_WSi (pc := 46) (As := [.ref mnow, .int (nI h1j)]) (wc := [(mnow, aI (cT 0) 104 f)]) (wr := [(mA, cMo 0 mscr msz mspot mgood mleft mread mnow mtri mdia u6.1 mkept misk qp), (mdia, aI (cT 0) 1456 u6.2)])  C hA (k_X5_dropIn l D cT mnow f h1j u h2c hR hJ h1 h2l h2b) (va_cwS 2 C.1.2.2.2.2 gX5_drop_X5_dropIn rfl rfl rfl n_X5_dropIn ⟨Nat.le_of_ble_eq_true rfl, Nat.le_of_ble_eq_true rfl⟩) [1] [0, 2] rfl rfl ⟨by decide, by decide⟩ (by decide) [0, 2, 1] (fun u8 => [(mA, cMo 0 mscr msz mspot mgood mleft mread mnow mtri mdia u6.1 mkept misk qp), (mnow, aI (cT 0) 104 u8), (mdia, aI (cT 0) 1456 u6.2)]) (fun _ => rfl) (by decide) rfl rfl (Nat.le_of_ble_eq_true rfl) ⟨Nat.zero_le _, Nat.zero_le _⟩ dX5_drop_46 (fun r46 u8 h7 => ?_)
      obtain ⟨rfl, h7⟩ := h7
      subst hQ
      exact e_iW C hr hk (Nat.le_refl _) (Nat.le_refl _) ⟨0, u6.1, u8, u6.2⟩ rfl (⟨_, _, dr_ok hJ h1 h2l h2b h2, Or.inr (Or.inr ⟨rfl, rfl, pcn_nI2 _, pcn_nI3 _, h7, h5⟩)⟩) dX5_drop_49
    · refine r_zeqN (pc := 21) (tgt := 28) C (by omega) dX5_drop_21 (by decide) (fun _ => ?_) (fun h => absurd h (by decide))
      refine r_ic (pc := 28) (v := nI 2) C rfl dX5_drop_28 ?_
      refine c_WVi (pc := 29) (As := [.int (nI 2)]) (wc := [(mA, cMo mref mscr msz mspot mgood mleft mread mnow mtri mdia macts mkept misk qp)]) (wr := [(mnow, aI (cT 0) 104 f), (mdia, aI (cT 0) 1456 fd)]) (qr := 0) C hA (k_X5_refused l D cT mA mref mscr msz mspot mgood mleft mread mnow mtri mdia macts mkept misk qp 2 (by first | assumption | omega)) (cwV 1 C.1.2.2.2.2 gX5_drop_X5_refused rfl rfl rfl n_X5_refused ⟨Nat.le_of_ble_eq_true rfl, Nat.le_of_ble_eq_true rfl⟩) rfl rfl [0] [1, 2] rfl rfl ⟨by decide, by decide⟩ (by decide) [2, 0, 1] (fun u10 => [(mA, cMo u10 mscr msz mspot mgood mleft mread mnow mtri mdia macts mkept misk qp), (mnow, aI (cT 0) 104 f), (mdia, aI (cT 0) 1456 fd)]) (fun _ => rfl) (by decide) rfl rfl (Nat.le_of_ble_eq_true rfl) ⟨Nat.zero_le _, Nat.zero_le _⟩ dX5_drop_29 (fun r29 u10 h9 => ?_)
      obtain ⟨h9, h9m⟩ := h9
      have h9 := h9.trans (if_neg (by decide))
      subst h9
      subst h9m
      refine r_zeqN (pc := 32) (tgt := 37) C (by omega) dX5_drop_32 (by decide) (fun h => absurd h (by decide)) (fun _ => ?_)
      refine r_ic (pc := 35) (v := nI 0) C rfl dX5_drop_35 ?_
      subst hQ
      exact e_iW C hr hk (Nat.le_refl _) (Nat.le_refl _) ⟨2, macts, f, fd⟩ rfl (⟨-3, u, dr_no hJ h1 h2, Or.inr (Or.inl ⟨rfl, rfl, rfl, rfl, rfl⟩)⟩) dX5_drop_36
  · refine r_zneN (pc := 6) (tgt := 13) C (by omega) dX5_drop_6 (by decide) (fun h => absurd h (by decide)) (fun _ => ?_)
    refine r_ic (pc := 9) (v := nI 1) C rfl dX5_drop_9 ?_
    refine r_goto (pc := 10) (tgt := 29) C dX5_drop_10 (by decide) ?_
    refine c_WVi (pc := 29) (As := [.int (nI 1)]) (wc := [(mA, cMo mref mscr msz mspot mgood mleft mread mnow mtri mdia macts mkept misk qp)]) (wr := [(mnow, aI (cT 0) 104 f), (mdia, aI (cT 0) 1456 fd)]) (qr := 0) C hA (k_X5_refused l D cT mA mref mscr msz mspot mgood mleft mread mnow mtri mdia macts mkept misk qp 1 (by first | assumption | omega)) (cwV 1 C.1.2.2.2.2 gX5_drop_X5_refused rfl rfl rfl n_X5_refused ⟨Nat.le_of_ble_eq_true rfl, Nat.le_of_ble_eq_true rfl⟩) rfl rfl [0] [1, 2] rfl rfl ⟨by decide, by decide⟩ (by decide) [2, 0, 1] (fun u12 => [(mA, cMo u12 mscr msz mspot mgood mleft mread mnow mtri mdia macts mkept misk qp), (mnow, aI (cT 0) 104 f), (mdia, aI (cT 0) 1456 fd)]) (fun _ => rfl) (by decide) rfl rfl (Nat.le_of_ble_eq_true rfl) ⟨Nat.zero_le _, Nat.zero_le _⟩ dX5_drop_29 (fun r29 u12 h11 => ?_)
    obtain ⟨h11, h11m⟩ := h11
    have h11 := h11.trans (if_neg (by decide))
    subst h11
    subst h11m
    refine r_zeqN (pc := 32) (tgt := 37) C (by omega) dX5_drop_32 (by decide) (fun h => absurd h (by decide)) (fun _ => ?_)
    refine r_ic (pc := 35) (v := nI 0) C rfl dX5_drop_35 ?_
    subst hQ
    exact e_iW C hr hk (Nat.le_refl _) (Nat.le_refl _) ⟨1, macts, f, fd⟩ rfl (⟨-2, u, dr_out h1, Or.inl ⟨rfl, rfl, rfl, rfl, rfl⟩⟩) dX5_drop_36

theorem iX5_setBroken_X5 : ∀ w ∈ u_ws RX5 TX5 14, w ∈ wsX5_setBroken := by decide +kernel
abbrev rmX5_setBroken : Room := { frames := 2, cells := 0, slots := 0, locals := 46 }
theorem n_X5_setBroken : yX5_setBroken.cls = RX5 ∧ yX5_setBroken.cls ≠ "java/lang/invoke/MethodHandle" ∧ yX5_setBroken.cls ≠ "java/lang/invoke/VarHandle" ∧ (parseMethodDescriptor yX5_setBroken.desc).map (fun d => d.parameters.length) = some 2 := by decide +kernel
set_option maxHeartbeats 4000000 in
set_option maxRecDepth 100000 in
theorem k_X5_setBroken (l : Launch) (D : va_G) (cT : Nat → ClassId) (mA mref mscr msz mspot mgood mleft mread mnow mtri mdia macts mkept misk qp : Nat) (f fd : Nat → Int32) (x : Int32) (lb : Nat) (u : SS) (hR : RowQ f u) (hJ : JQ u) (ha : macts ≤ 14) (hlb : lb < 2) : MWi (S := Nat × Nat × (Nat → Int32) × (Nat → Int32)) l D cT yX5_setBroken wsX5_setBroken rmX5_setBroken [.ref mA, .int x, .int (nI lb)] [(mA, cMo mref mscr msz mspot mgood mleft mread mnow mtri mdia macts mkept misk qp), (mnow, aI (cT 0) 104 f), (mdia, aI (cT 0) 1456 fd)] (fun r w9 => ∃ r0 v, BKs u x lb r0 v ∧ MA w9.1 r r0 v f fd macts w9.2.2.1 w9.2.2.2 w9.2.1) (fun w9 => [(mA, cMo w9.1 mscr msz mspot mgood mleft mread mnow mtri mdia w9.2.1 mkept misk qp), (mnow, aI (cT 0) 104 w9.2.2.1), (mdia, aI (cT 0) 1456 w9.2.2.2)]) 0 0 := by
  refine m_Wi [(0, .ref mA), (1, .int x), (2, .int (nI lb))] (by decide +kernel) rfl (Nat.le_of_ble_eq_true rfl) rfl ?_
  intro p e s m args below meth c A hAe C hA hr hk hnm_
  generalize hQ : MQ below (va_Qi _ _ A) args s 0 0 A = Q
  have hB := bd_of hJ
  obtain ⟨hF, hW, hM, hL, hPa, hBr, hCn, hFL, hE⟩ := id hB
  have hFW1 := mul44 hF hW
  have hLW1 := mul44 hL hW
  refine r_aln (pc := 0) C 0 rfl dX5_setBroken_0 ?_
  refine r_aln (pc := 1) C 0 rfl dX5_setBroken_1 ?_
  refine r_iln (pc := 2) C 1 rfl dX5_setBroken_2 ?_
  refine c_RV (pc := 3) (As := [.int x]) (wc := [(mA, cMo mref mscr msz mspot mgood mleft mread mnow mtri mdia macts mkept misk qp), (mnow, aI (cT 0) 104 f)]) (qr := 0) C (k_X5_isMiddle l D cT mA mref mscr msz mspot mgood mleft mread mnow mtri mdia macts mkept misk qp f x u (by first | assumption | omega) (by first | assumption | omega)) (cwV 1 C.1.2.2.2.2 gX5_setBroken_X5_isMiddle rfl rfl rfl n_X5_isMiddle ⟨Nat.le_of_ble_eq_true rfl, Nat.le_of_ble_eq_true rfl⟩) [0, 1] rfl rfl rfl rfl rfl (Nat.le_of_ble_eq_true rfl) ⟨Nat.zero_le _, Nat.zero_le _⟩ dX5_setBroken_3 (fun r3 h1 => ?_)
  rcases h1 with ⟨rfl, h1j, rfl, h1⟩ | ⟨rfl, h1⟩
  · refine r_zneN (pc := 6) (tgt := 13) C (by first | omega | exact Nat.lt_trans (brk_lt hJ.1.2.2.2.2.2.1 (by assumption)) (by have := Nat.pow_le_pow_right (n := 2) (by decide) hM.2; omega)) dX5_setBroken_6 (by decide) (fun _ => ?_) (fun h => absurd h (by decide))
    refine r_iln (pc := 13) C 2 rfl dX5_setBroken_13 ?_
    refine r_zeqN (pc := 14) (tgt := 32) C (by first | omega | exact Nat.lt_trans (brk_lt hJ.1.2.2.2.2.2.1 (by assumption)) (by have := Nat.pow_le_pow_right (n := 2) (by decide) hM.2; omega)) dX5_setBroken_14 (by decide) (fun c14 => ?_) (fun c14 => ?_)
    · refine r_ic (pc := 32) (v := nI 0) C rfl dX5_setBroken_32 ?_
      refine c_WVi (pc := 33) (As := [.int (nI 0)]) (wc := [(mA, cMo mref mscr msz mspot mgood mleft mread mnow mtri mdia macts mkept misk qp)]) (wr := [(mnow, aI (cT 0) 104 f), (mdia, aI (cT 0) 1456 fd)]) (qr := 0) C hA (k_X5_refused l D cT mA mref mscr msz mspot mgood mleft mread mnow mtri mdia macts mkept misk qp 0 (by first | assumption | omega)) (cwV 1 C.1.2.2.2.2 gX5_setBroken_X5_refused rfl rfl rfl n_X5_refused ⟨Nat.le_of_ble_eq_true rfl, Nat.le_of_ble_eq_true rfl⟩) rfl rfl [0] [1, 2] rfl rfl ⟨by decide, by decide⟩ (by decide) [2, 0, 1] (fun u3 => [(mA, cMo u3 mscr msz mspot mgood mleft mread mnow mtri mdia macts mkept misk qp), (mnow, aI (cT 0) 104 f), (mdia, aI (cT 0) 1456 fd)]) (fun _ => rfl) (by decide) rfl rfl (Nat.le_of_ble_eq_true rfl) ⟨Nat.zero_le _, Nat.zero_le _⟩ dX5_setBroken_33 (fun r33 u3 h2 => ?_)
      obtain ⟨h2, h2m⟩ := h2
      have h2 := h2.trans (if_pos rfl)
      subst h2
      subst h2m
      refine r_zeqN (pc := 36) (tgt := 41) C (by first | omega | exact Nat.lt_trans (brk_lt hJ.1.2.2.2.2.2.1 (by assumption)) (by have := Nat.pow_le_pow_right (n := 2) (by decide) hM.2; omega)) dX5_setBroken_36 (by decide) (fun _ => ?_) (fun h => absurd h (by decide))
      refine r_aln (pc := 41) C 0 rfl dX5_setBroken_41 ?_
      refine c_WVv (pc := 42) (As := []) (wc := [(mA, cMo 0 mscr msz mspot mgood mleft mread mnow mtri mdia macts mkept misk qp), (mnow, aI (cT 0) 104 f), (mdia, aI (cT 0) 1456 fd)]) (wr := []) (qr := 0) C hA (k_X5_remember l D cT mA 0 mscr msz mspot mgood mleft mread mnow mtri mdia macts mkept misk qp f fd (by first | assumption | omega)) (cwV 0 C.1.2.2.2.2 gX5_setBroken_X5_remember rfl rfl rfl n_X5_remember ⟨Nat.le_of_ble_eq_true rfl, Nat.le_of_ble_eq_true rfl⟩) rfl rfl [0, 1, 2] [] rfl rfl ⟨by decide, by decide⟩ (by decide) [0, 1, 2] (fun u5 => [(mA, cMo 0 mscr msz mspot mgood mleft mread mnow mtri mdia u5.1 mkept misk qp), (mnow, aI (cT 0) 104 f), (mdia, aI (cT 0) 1456 u5.2)]) (fun _ => rfl) (by decide) rfl rfl (Nat.le_of_ble_eq_true rfl) ⟨Nat.zero_le _, Nat.zero_le _⟩ dX5_setBroken_42 (fun u5 h4 => ?_)
      refine r_aln (pc := 45) C 0 rfl dX5_setBroken_45 ?_
      refine r_get (pc := 46) C iX5_setBroken_X5 0 rfl rfl 7 (by decide) (mw 1 rfl) rfl rfl dX5_setBroken_46 ?_
      refine r_iln (pc := 49) C 1 rfl dX5_setBroken_49 ?_
      refine r_iln (pc := 50) C 2 rfl dX5_setBroken_50 ?_
      refine c_WSv (pc := 51) (As := [.ref mnow, .int (nI h1j), .int (nI lb)]) (wc := [(mnow, aI (cT 0) 104 f)]) (wr := [(mA, cMo 0 mscr msz mspot mgood mleft mread mnow mtri mdia u5.1 mkept misk qp), (mdia, aI (cT 0) 1456 u5.2)])  C hA (k_X5_breakIn l D cT mnow f h1j lb u hR hB (by omega) hlb) (va_cwS 3 C.1.2.2.2.2 gX5_setBroken_X5_breakIn rfl rfl rfl n_X5_breakIn ⟨Nat.le_of_ble_eq_true rfl, Nat.le_of_ble_eq_true rfl⟩) [1] [0, 2] rfl rfl ⟨by decide, by decide⟩ (by decide) [0, 2, 1] (fun u7 => [(mA, cMo 0 mscr msz mspot mgood mleft mread mnow mtri mdia u5.1 mkept misk qp), (mnow, aI (cT 0) 104 u7), (mdia, aI (cT 0) 1456 u5.2)]) (fun _ => rfl) (by decide) rfl rfl (Nat.le_of_ble_eq_true rfl) ⟨Nat.zero_le _, Nat.zero_le _⟩ dX5_setBroken_51 (fun u7 h6 => ?_)
      have hwn := whole_n hM.2 (brk_lt (is := lb) hJ.1.2.2.2.2.2.1 h1)
      refine r_aln (pc := 54) C 0 rfl dX5_setBroken_54 ?_
      refine r_get (pc := 55) C iX5_setBroken_X5 0 rfl rfl 7 (by decide) (mw 1 rfl) rfl rfl dX5_setBroken_55 ?_
      refine r_ic (pc := 58) (v := nI 2) C rfl dX5_setBroken_58 ?_
      refine r_ialI (pc := 59) C 1 rfl (by first | omega | exact Nat.lt_trans (brk_lt hJ.1.2.2.2.2.2.1 (by assumption)) (by have := Nat.pow_le_pow_right (n := 2) (by decide) hM.2; omega)) (by decide) dX5_setBroken_59 ?_
      refine r_v (y := nI u.mid) h6.1.2.2.1 ?_
      refine r_aln (pc := 60) C 0 rfl dX5_setBroken_60 ?_
      refine r_get (pc := 61) C iX5_setBroken_X5 0 rfl rfl 7 (by decide) (mw 1 rfl) rfl rfl dX5_setBroken_61 ?_
      refine r_bi (pc := 64) (v := nI 7) C rfl dX5_setBroken_64 ?_
      refine r_ialI (pc := 66) C 1 rfl (by first | omega | exact Nat.lt_trans (brk_lt hJ.1.2.2.2.2.2.1 (by assumption)) (by have := Nat.pow_le_pow_right (n := 2) (by decide) hM.2; omega)) (by decide) dX5_setBroken_66 ?_
      refine r_v (y := nI (brkV u.bro h1j lb)) h6.1.2.2.2.2.2.2.2 ?_
      refine c_RS (pc := 67) (As := [.int (nI (brkV u.bro h1j lb))]) (wc := [])  C (k_X5_bits l D cT (brkV u.bro h1j lb) (Nat.lt_of_lt_of_le (brk_lt hJ.1.2.2.2.2.2.1 h1) (Nat.le_trans (Nat.pow_le_pow_right (by decide) hM.2) (by decide)))) (va_cwS 1 C.1.2.2.2.2 gX5_setBroken_X5_bits rfl rfl rfl n_X5_bits ⟨Nat.le_of_ble_eq_true rfl, Nat.le_of_ble_eq_true rfl⟩) [] rfl rfl rfl (Nat.le_of_ble_eq_true rfl) ⟨Nat.zero_le _, Nat.zero_le _⟩ dX5_setBroken_67 (fun r67 h8 => ?_)
      subst h8
      refine r_isubN (pc := 70) C (by first | omega | exact Nat.lt_trans (brk_lt hJ.1.2.2.2.2.2.1 (by assumption)) (by have := Nat.pow_le_pow_right (n := 2) (by decide) hM.2; omega)) dX5_setBroken_70 ?_
      subst hQ
      exact e_iW C hr hk (Nat.le_refl _) (Nat.le_refl _) ⟨0, u5.1, u7, u5.2⟩ rfl (⟨_, _, bk_ok h1 (fun q => by omega), Or.inr (Or.inr ⟨rfl, congrArg nI hwn.2, pcn_nI2 _, pcn_nI3 _, h6, h4⟩)⟩) dX5_setBroken_71
    · refine r_aln (pc := 17) C 0 rfl dX5_setBroken_17 ?_
      refine r_get (pc := 18) C iX5_setBroken_X5 0 rfl rfl 7 (by decide) (mw 1 rfl) rfl rfl dX5_setBroken_18 ?_
      refine r_iln (pc := 21) C 1 rfl dX5_setBroken_21 ?_
      refine c_RS (pc := 22) (As := [.ref mnow, .int (nI h1j)]) (wc := [(mnow, aI (cT 0) 104 f)])  C (k_X5_canBreak l D cT mnow f h1j u hR hJ (by omega)) (va_cwS 2 C.1.2.2.2.2 gX5_setBroken_X5_canBreak rfl rfl rfl n_X5_canBreak ⟨Nat.le_of_ble_eq_true rfl, Nat.le_of_ble_eq_true rfl⟩) [1] rfl rfl rfl (Nat.le_of_ble_eq_true rfl) ⟨Nat.zero_le _, Nat.zero_le _⟩ dX5_setBroken_22 (fun r22 h9 => ?_)
      rcases h9 with ⟨rfl, h9⟩ | ⟨rfl, h9⟩
      · refine r_zneN (pc := 25) (tgt := 32) C (by first | omega | exact Nat.lt_trans (brk_lt hJ.1.2.2.2.2.2.1 (by assumption)) (by have := Nat.pow_le_pow_right (n := 2) (by decide) hM.2; omega)) dX5_setBroken_25 (by decide) (fun _ => ?_) (fun h => absurd h (by decide))
        refine r_ic (pc := 32) (v := nI 0) C rfl dX5_setBroken_32 ?_
        refine c_WVi (pc := 33) (As := [.int (nI 0)]) (wc := [(mA, cMo mref mscr msz mspot mgood mleft mread mnow mtri mdia macts mkept misk qp)]) (wr := [(mnow, aI (cT 0) 104 f), (mdia, aI (cT 0) 1456 fd)]) (qr := 0) C hA (k_X5_refused l D cT mA mref mscr msz mspot mgood mleft mread mnow mtri mdia macts mkept misk qp 0 (by first | assumption | omega)) (cwV 1 C.1.2.2.2.2 gX5_setBroken_X5_refused rfl rfl rfl n_X5_refused ⟨Nat.le_of_ble_eq_true rfl, Nat.le_of_ble_eq_true rfl⟩) rfl rfl [0] [1, 2] rfl rfl ⟨by decide, by decide⟩ (by decide) [2, 0, 1] (fun u11 => [(mA, cMo u11 mscr msz mspot mgood mleft mread mnow mtri mdia macts mkept misk qp), (mnow, aI (cT 0) 104 f), (mdia, aI (cT 0) 1456 fd)]) (fun _ => rfl) (by decide) rfl rfl (Nat.le_of_ble_eq_true rfl) ⟨Nat.zero_le _, Nat.zero_le _⟩ dX5_setBroken_33 (fun r33 u11 h10 => ?_)
        obtain ⟨h10, h10m⟩ := h10
        have h10 := h10.trans (if_pos rfl)
        subst h10
        subst h10m
        refine r_zeqN (pc := 36) (tgt := 41) C (by first | omega | exact Nat.lt_trans (brk_lt hJ.1.2.2.2.2.2.1 (by assumption)) (by have := Nat.pow_le_pow_right (n := 2) (by decide) hM.2; omega)) dX5_setBroken_36 (by decide) (fun _ => ?_) (fun h => absurd h (by decide))
        refine r_aln (pc := 41) C 0 rfl dX5_setBroken_41 ?_
        refine c_WVv (pc := 42) (As := []) (wc := [(mA, cMo 0 mscr msz mspot mgood mleft mread mnow mtri mdia macts mkept misk qp), (mnow, aI (cT 0) 104 f), (mdia, aI (cT 0) 1456 fd)]) (wr := []) (qr := 0) C hA (k_X5_remember l D cT mA 0 mscr msz mspot mgood mleft mread mnow mtri mdia macts mkept misk qp f fd (by first | assumption | omega)) (cwV 0 C.1.2.2.2.2 gX5_setBroken_X5_remember rfl rfl rfl n_X5_remember ⟨Nat.le_of_ble_eq_true rfl, Nat.le_of_ble_eq_true rfl⟩) rfl rfl [0, 1, 2] [] rfl rfl ⟨by decide, by decide⟩ (by decide) [0, 1, 2] (fun u13 => [(mA, cMo 0 mscr msz mspot mgood mleft mread mnow mtri mdia u13.1 mkept misk qp), (mnow, aI (cT 0) 104 f), (mdia, aI (cT 0) 1456 u13.2)]) (fun _ => rfl) (by decide) rfl rfl (Nat.le_of_ble_eq_true rfl) ⟨Nat.zero_le _, Nat.zero_le _⟩ dX5_setBroken_42 (fun u13 h12 => ?_)
        refine r_aln (pc := 45) C 0 rfl dX5_setBroken_45 ?_
        refine r_get (pc := 46) C iX5_setBroken_X5 0 rfl rfl 7 (by decide) (mw 1 rfl) rfl rfl dX5_setBroken_46 ?_
        refine r_iln (pc := 49) C 1 rfl dX5_setBroken_49 ?_
        refine r_iln (pc := 50) C 2 rfl dX5_setBroken_50 ?_
        refine c_WSv (pc := 51) (As := [.ref mnow, .int (nI h1j), .int (nI lb)]) (wc := [(mnow, aI (cT 0) 104 f)]) (wr := [(mA, cMo 0 mscr msz mspot mgood mleft mread mnow mtri mdia u13.1 mkept misk qp), (mdia, aI (cT 0) 1456 u13.2)])  C hA (k_X5_breakIn l D cT mnow f h1j lb u hR hB (by omega) hlb) (va_cwS 3 C.1.2.2.2.2 gX5_setBroken_X5_breakIn rfl rfl rfl n_X5_breakIn ⟨Nat.le_of_ble_eq_true rfl, Nat.le_of_ble_eq_true rfl⟩) [1] [0, 2] rfl rfl ⟨by decide, by decide⟩ (by decide) [0, 2, 1] (fun u15 => [(mA, cMo 0 mscr msz mspot mgood mleft mread mnow mtri mdia u13.1 mkept misk qp), (mnow, aI (cT 0) 104 u15), (mdia, aI (cT 0) 1456 u13.2)]) (fun _ => rfl) (by decide) rfl rfl (Nat.le_of_ble_eq_true rfl) ⟨Nat.zero_le _, Nat.zero_le _⟩ dX5_setBroken_51 (fun u15 h14 => ?_)
        have hwn := whole_n hM.2 (brk_lt (is := lb) hJ.1.2.2.2.2.2.1 h1)
        refine r_aln (pc := 54) C 0 rfl dX5_setBroken_54 ?_
        refine r_get (pc := 55) C iX5_setBroken_X5 0 rfl rfl 7 (by decide) (mw 1 rfl) rfl rfl dX5_setBroken_55 ?_
        refine r_ic (pc := 58) (v := nI 2) C rfl dX5_setBroken_58 ?_
        refine r_ialI (pc := 59) C 1 rfl (by first | omega | exact Nat.lt_trans (brk_lt hJ.1.2.2.2.2.2.1 (by assumption)) (by have := Nat.pow_le_pow_right (n := 2) (by decide) hM.2; omega)) (by decide) dX5_setBroken_59 ?_
        refine r_v (y := nI u.mid) h14.1.2.2.1 ?_
        refine r_aln (pc := 60) C 0 rfl dX5_setBroken_60 ?_
        refine r_get (pc := 61) C iX5_setBroken_X5 0 rfl rfl 7 (by decide) (mw 1 rfl) rfl rfl dX5_setBroken_61 ?_
        refine r_bi (pc := 64) (v := nI 7) C rfl dX5_setBroken_64 ?_
        refine r_ialI (pc := 66) C 1 rfl (by first | omega | exact Nat.lt_trans (brk_lt hJ.1.2.2.2.2.2.1 (by assumption)) (by have := Nat.pow_le_pow_right (n := 2) (by decide) hM.2; omega)) (by decide) dX5_setBroken_66 ?_
        refine r_v (y := nI (brkV u.bro h1j lb)) h14.1.2.2.2.2.2.2.2 ?_
        refine c_RS (pc := 67) (As := [.int (nI (brkV u.bro h1j lb))]) (wc := [])  C (k_X5_bits l D cT (brkV u.bro h1j lb) (Nat.lt_of_lt_of_le (brk_lt hJ.1.2.2.2.2.2.1 h1) (Nat.le_trans (Nat.pow_le_pow_right (by decide) hM.2) (by decide)))) (va_cwS 1 C.1.2.2.2.2 gX5_setBroken_X5_bits rfl rfl rfl n_X5_bits ⟨Nat.le_of_ble_eq_true rfl, Nat.le_of_ble_eq_true rfl⟩) [] rfl rfl rfl (Nat.le_of_ble_eq_true rfl) ⟨Nat.zero_le _, Nat.zero_le _⟩ dX5_setBroken_67 (fun r67 h16 => ?_)
        subst h16
        refine r_isubN (pc := 70) C (by first | omega | exact Nat.lt_trans (brk_lt hJ.1.2.2.2.2.2.1 (by assumption)) (by have := Nat.pow_le_pow_right (n := 2) (by decide) hM.2; omega)) dX5_setBroken_70 ?_
        subst hQ
        exact e_iW C hr hk (Nat.le_refl _) (Nat.le_refl _) ⟨0, u13.1, u15, u13.2⟩ rfl (⟨_, _, bk_ok h1 (fun _ => h9), Or.inr (Or.inr ⟨rfl, congrArg nI hwn.2, pcn_nI2 _, pcn_nI3 _, h14, h12⟩)⟩) dX5_setBroken_71
      · refine r_zneN (pc := 25) (tgt := 32) C (by first | omega | exact Nat.lt_trans (brk_lt hJ.1.2.2.2.2.2.1 (by assumption)) (by have := Nat.pow_le_pow_right (n := 2) (by decide) hM.2; omega)) dX5_setBroken_25 (by decide) (fun h => absurd h (by decide)) (fun _ => ?_)
        refine r_ic (pc := 28) (v := nI 2) C rfl dX5_setBroken_28 ?_
        refine r_goto (pc := 29) (tgt := 33) C dX5_setBroken_29 (by decide) ?_
        refine c_WVi (pc := 33) (As := [.int (nI 2)]) (wc := [(mA, cMo mref mscr msz mspot mgood mleft mread mnow mtri mdia macts mkept misk qp)]) (wr := [(mnow, aI (cT 0) 104 f), (mdia, aI (cT 0) 1456 fd)]) (qr := 0) C hA (k_X5_refused l D cT mA mref mscr msz mspot mgood mleft mread mnow mtri mdia macts mkept misk qp 2 (by first | assumption | omega)) (cwV 1 C.1.2.2.2.2 gX5_setBroken_X5_refused rfl rfl rfl n_X5_refused ⟨Nat.le_of_ble_eq_true rfl, Nat.le_of_ble_eq_true rfl⟩) rfl rfl [0] [1, 2] rfl rfl ⟨by decide, by decide⟩ (by decide) [2, 0, 1] (fun u18 => [(mA, cMo u18 mscr msz mspot mgood mleft mread mnow mtri mdia macts mkept misk qp), (mnow, aI (cT 0) 104 f), (mdia, aI (cT 0) 1456 fd)]) (fun _ => rfl) (by decide) rfl rfl (Nat.le_of_ble_eq_true rfl) ⟨Nat.zero_le _, Nat.zero_le _⟩ dX5_setBroken_33 (fun r33 u18 h17 => ?_)
        obtain ⟨h17, h17m⟩ := h17
        have h17 := h17.trans (if_neg (by decide))
        subst h17
        subst h17m
        refine r_zeqN (pc := 36) (tgt := 41) C (by first | omega | exact Nat.lt_trans (brk_lt hJ.1.2.2.2.2.2.1 (by assumption)) (by have := Nat.pow_le_pow_right (n := 2) (by decide) hM.2; omega)) dX5_setBroken_36 (by decide) (fun h => absurd h (by decide)) (fun _ => ?_)
        refine r_ic (pc := 39) (v := nI 0) C rfl dX5_setBroken_39 ?_
        subst hQ
        exact e_iW C hr hk (Nat.le_refl _) (Nat.le_refl _) ⟨2, macts, f, fd⟩ rfl (⟨-3, u, bk_no h1 c14 h9, Or.inr (Or.inl ⟨rfl, rfl, rfl, rfl, rfl⟩)⟩) dX5_setBroken_40
  · refine r_zneN (pc := 6) (tgt := 13) C (by first | omega | exact Nat.lt_trans (brk_lt hJ.1.2.2.2.2.2.1 (by assumption)) (by have := Nat.pow_le_pow_right (n := 2) (by decide) hM.2; omega)) dX5_setBroken_6 (by decide) (fun h => absurd h (by decide)) (fun _ => ?_)
    refine r_ic (pc := 9) (v := nI 1) C rfl dX5_setBroken_9 ?_
    refine r_goto (pc := 10) (tgt := 33) C dX5_setBroken_10 (by decide) ?_
    refine c_WVi (pc := 33) (As := [.int (nI 1)]) (wc := [(mA, cMo mref mscr msz mspot mgood mleft mread mnow mtri mdia macts mkept misk qp)]) (wr := [(mnow, aI (cT 0) 104 f), (mdia, aI (cT 0) 1456 fd)]) (qr := 0) C hA (k_X5_refused l D cT mA mref mscr msz mspot mgood mleft mread mnow mtri mdia macts mkept misk qp 1 (by first | assumption | omega)) (cwV 1 C.1.2.2.2.2 gX5_setBroken_X5_refused rfl rfl rfl n_X5_refused ⟨Nat.le_of_ble_eq_true rfl, Nat.le_of_ble_eq_true rfl⟩) rfl rfl [0] [1, 2] rfl rfl ⟨by decide, by decide⟩ (by decide) [2, 0, 1] (fun u20 => [(mA, cMo u20 mscr msz mspot mgood mleft mread mnow mtri mdia macts mkept misk qp), (mnow, aI (cT 0) 104 f), (mdia, aI (cT 0) 1456 fd)]) (fun _ => rfl) (by decide) rfl rfl (Nat.le_of_ble_eq_true rfl) ⟨Nat.zero_le _, Nat.zero_le _⟩ dX5_setBroken_33 (fun r33 u20 h19 => ?_)
    obtain ⟨h19, h19m⟩ := h19
    have h19 := h19.trans (if_neg (by decide))
    subst h19
    subst h19m
    refine r_zeqN (pc := 36) (tgt := 41) C (by first | omega | exact Nat.lt_trans (brk_lt hJ.1.2.2.2.2.2.1 (by assumption)) (by have := Nat.pow_le_pow_right (n := 2) (by decide) hM.2; omega)) dX5_setBroken_36 (by decide) (fun h => absurd h (by decide)) (fun _ => ?_)
    refine r_ic (pc := 39) (v := nI 0) C rfl dX5_setBroken_39 ?_
    subst hQ
    exact e_iW C hr hk (Nat.le_refl _) (Nat.le_refl _) ⟨1, macts, f, fd⟩ rfl (⟨-2, u, bk_out h1, Or.inl ⟨rfl, rfl, rfl, rfl, rfl⟩⟩) dX5_setBroken_40

theorem iX5_setPatience_X5 : ∀ w ∈ u_ws RX5 TX5 14, w ∈ wsX5_setPatience := by decide +kernel
abbrev rmX5_setPatience : Room := { frames := 2, cells := 0, slots := 0, locals := 45 }
theorem n_X5_setPatience : yX5_setPatience.cls = RX5 ∧ yX5_setPatience.cls ≠ "java/lang/invoke/MethodHandle" ∧ yX5_setPatience.cls ≠ "java/lang/invoke/VarHandle" ∧ (parseMethodDescriptor yX5_setPatience.desc).map (fun d => d.parameters.length) = some 1 := by decide +kernel
set_option maxHeartbeats 4000000 in
set_option maxRecDepth 100000 in
theorem k_X5_setPatience (l : Launch) (D : va_G) (cT : Nat → ClassId) (mA mref mscr msz mspot mgood mleft mread mnow mtri mdia macts mkept misk qp : Nat) (f fd : Nat → Int32) (x : Int32) (u : SS) (hR : RowQ f u) (hJ : JQ u) (ha : macts ≤ 14) : MWi (S := Nat × Nat × (Nat → Int32) × (Nat → Int32)) l D cT yX5_setPatience wsX5_setPatience rmX5_setPatience [.ref mA, .int x] [(mA, cMo mref mscr msz mspot mgood mleft mread mnow mtri mdia macts mkept misk qp), (mnow, aI (cT 0) 104 f), (mdia, aI (cT 0) 1456 fd)] (fun r w9 => (w9.1 = 1 ∧ ¬ CIn 4 x ∧ w9.2.2.1 = f ∧ w9.2.2.2 = fd ∧ w9.2.1 = macts) ∨ (w9.1 = 0 ∧ ∃ j, x = nI j ∧ j ≤ 3 ∧ r = nI u.pat ∧ RowQ w9.2.2.1 (patU u j) ∧ RMq macts f fd w9.2.1 w9.2.2.2)) (fun w9 => [(mA, cMo w9.1 mscr msz mspot mgood mleft mread mnow mtri mdia w9.2.1 mkept misk qp), (mnow, aI (cT 0) 104 w9.2.2.1), (mdia, aI (cT 0) 1456 w9.2.2.2)]) 0 0 := by
  refine m_Wi [(0, .ref mA), (1, .int x)] (by decide +kernel) rfl (Nat.le_of_ble_eq_true rfl) rfl ?_
  intro p e s m args below meth c A hAe C hA hr hk hnm_
  generalize hQ : MQ below (va_Qi _ _ A) args s 0 0 A = Q
  have hB := bd_of hJ
  obtain ⟨hF, hW, hM, hL, hPa, hBr, hCn, hFL, hE⟩ := id hB
  have hFW1 := mul44 hF hW
  have hLW1 := mul44 hL hW
  refine r_aln (pc := 0) C 0 rfl dX5_setPatience_0 ?_
  refine r_iln (pc := 1) C 1 rfl dX5_setPatience_1 ?_
  refine r_i2l (pc := 2) C rfl dX5_setPatience_2 ?_
  refine r_lc (pc := 3) (v := 0) C rfl dX5_setPatience_3 ?_
  refine r_lc2 (pc := 4) C (mw 1 rfl) dX5_setPatience_4 ?_
  refine c_RS (pc := 7) (As := [.long x.toInt64, .long 0, .long (3)]) (wc := [])  C (k_X5_in l D cT x.toInt64 0 (3)) (va_cwS 3 C.1.2.2.2.2 gX5_setPatience_X5_in rfl rfl rfl n_X5_in ⟨Nat.le_of_ble_eq_true rfl, Nat.le_of_ble_eq_true rfl⟩) [] rfl rfl rfl (Nat.le_of_ble_eq_true rfl) ⟨Nat.zero_le _, Nat.zero_le _⟩ dX5_setPatience_7 (fun r7 h1 => ?_)
  rcases h1 with ⟨rfl, h1⟩ | ⟨rfl, h1⟩
  · obtain ⟨h1j, rfl, h1l⟩ := (in_lit (n := 3) (by decide) (by decide)).mp h1
    refine r_zeqN (pc := 10) (tgt := 17) C (by omega) dX5_setPatience_10 (by decide) (fun h => absurd h (by decide)) (fun _ => ?_)
    refine r_ic (pc := 13) (v := nI 0) C rfl dX5_setPatience_13 ?_
    refine r_goto (pc := 14) (tgt := 18) C dX5_setPatience_14 (by decide) ?_
    refine c_WVi (pc := 18) (As := [.int (nI 0)]) (wc := [(mA, cMo mref mscr msz mspot mgood mleft mread mnow mtri mdia macts mkept misk qp)]) (wr := [(mnow, aI (cT 0) 104 f), (mdia, aI (cT 0) 1456 fd)]) (qr := 0) C hA (k_X5_refused l D cT mA mref mscr msz mspot mgood mleft mread mnow mtri mdia macts mkept misk qp 0 (by first | assumption | omega)) (cwV 1 C.1.2.2.2.2 gX5_setPatience_X5_refused rfl rfl rfl n_X5_refused ⟨Nat.le_of_ble_eq_true rfl, Nat.le_of_ble_eq_true rfl⟩) rfl rfl [0] [1, 2] rfl rfl ⟨by decide, by decide⟩ (by decide) [2, 0, 1] (fun u3 => [(mA, cMo u3 mscr msz mspot mgood mleft mread mnow mtri mdia macts mkept misk qp), (mnow, aI (cT 0) 104 f), (mdia, aI (cT 0) 1456 fd)]) (fun _ => rfl) (by decide) rfl rfl (Nat.le_of_ble_eq_true rfl) ⟨Nat.zero_le _, Nat.zero_le _⟩ dX5_setPatience_18 (fun r18 u3 h2 => ?_)
    obtain ⟨h2, h2m⟩ := h2
    have h2 := h2.trans (if_pos rfl)
    subst h2
    subst h2m
    refine r_zeqN (pc := 21) (tgt := 26) C (by omega) dX5_setPatience_21 (by decide) (fun _ => ?_) (fun h => absurd h (by decide))
    refine r_aln (pc := 26) C 0 rfl dX5_setPatience_26 ?_
    refine c_WVv (pc := 27) (As := []) (wc := [(mA, cMo 0 mscr msz mspot mgood mleft mread mnow mtri mdia macts mkept misk qp), (mnow, aI (cT 0) 104 f), (mdia, aI (cT 0) 1456 fd)]) (wr := []) (qr := 0) C hA (k_X5_remember l D cT mA 0 mscr msz mspot mgood mleft mread mnow mtri mdia macts mkept misk qp f fd (by first | assumption | omega)) (cwV 0 C.1.2.2.2.2 gX5_setPatience_X5_remember rfl rfl rfl n_X5_remember ⟨Nat.le_of_ble_eq_true rfl, Nat.le_of_ble_eq_true rfl⟩) rfl rfl [0, 1, 2] [] rfl rfl ⟨by decide, by decide⟩ (by decide) [0, 1, 2] (fun u5 => [(mA, cMo 0 mscr msz mspot mgood mleft mread mnow mtri mdia u5.1 mkept misk qp), (mnow, aI (cT 0) 104 f), (mdia, aI (cT 0) 1456 u5.2)]) (fun _ => rfl) (by decide) rfl rfl (Nat.le_of_ble_eq_true rfl) ⟨Nat.zero_le _, Nat.zero_le _⟩ dX5_setPatience_27 (fun u5 h4 => ?_)
    refine r_aln (pc := 30) C 0 rfl dX5_setPatience_30 ?_
    refine r_get (pc := 31) C iX5_setPatience_X5 0 rfl rfl 7 (by decide) (mw 2 rfl) rfl rfl dX5_setPatience_31 ?_
    refine r_ic (pc := 34) (v := nI 5) C rfl dX5_setPatience_34 ?_
    refine r_ialI (pc := 35) C 1 rfl (by omega) (by decide) dX5_setPatience_35 ?_
    refine r_v (y := nI u.pat) hR.1.2.2.2.2.2.1 ?_
    refine r_isn (pc := 36) C [1, 2, 0] [(0, .ref mA), (1, .int (nI h1j)), (2, .int (nI u.pat))] rfl (by decide) rfl dX5_setPatience_36 ?_
    refine r_aln (pc := 37) C 0 rfl dX5_setPatience_37 ?_
    refine r_get (pc := 38) C iX5_setPatience_X5 0 rfl rfl 7 (by decide) (mw 2 rfl) rfl rfl dX5_setPatience_38 ?_
    refine r_ic (pc := 41) (v := nI 5) C rfl dX5_setPatience_41 ?_
    refine r_iln (pc := 42) C 1 rfl dX5_setPatience_42 ?_
    refine r_iasI (pc := 43) (ws2 := [(mA, cMo 0 mscr msz mspot mgood mleft mread mnow mtri mdia u5.1 mkept misk qp), (mnow, aI (cT 0) 104 (upd f 5 (nI h1j))), (mdia, aI (cT 0) 1456 u5.2)]) C 1 rfl (by omega) (by decide) rfl dX5_setPatience_43 ?_
    refine r_iln (pc := 44) C 2 rfl dX5_setPatience_44 ?_
    subst hQ
    exact e_iW C hr hk (Nat.le_refl _) (Nat.le_refl _) ⟨0, u5.1, upd f 5 (nI h1j), u5.2⟩ rfl (Or.inr ⟨rfl, _, rfl, by omega, rfl, rq_pat hR, h4⟩) dX5_setPatience_45
  · have h1 := fun g => h1 ((in_lit (n := 3) (by decide) (by decide)).mpr g)
    refine r_zeqN (pc := 10) (tgt := 17) C (by omega) dX5_setPatience_10 (by decide) (fun _ => ?_) (fun h => absurd h (by decide))
    refine r_ic (pc := 17) (v := nI 1) C rfl dX5_setPatience_17 ?_
    refine c_WVi (pc := 18) (As := [.int (nI 1)]) (wc := [(mA, cMo mref mscr msz mspot mgood mleft mread mnow mtri mdia macts mkept misk qp)]) (wr := [(mnow, aI (cT 0) 104 f), (mdia, aI (cT 0) 1456 fd)]) (qr := 0) C hA (k_X5_refused l D cT mA mref mscr msz mspot mgood mleft mread mnow mtri mdia macts mkept misk qp 1 (by first | assumption | omega)) (cwV 1 C.1.2.2.2.2 gX5_setPatience_X5_refused rfl rfl rfl n_X5_refused ⟨Nat.le_of_ble_eq_true rfl, Nat.le_of_ble_eq_true rfl⟩) rfl rfl [0] [1, 2] rfl rfl ⟨by decide, by decide⟩ (by decide) [2, 0, 1] (fun u7 => [(mA, cMo u7 mscr msz mspot mgood mleft mread mnow mtri mdia macts mkept misk qp), (mnow, aI (cT 0) 104 f), (mdia, aI (cT 0) 1456 fd)]) (fun _ => rfl) (by decide) rfl rfl (Nat.le_of_ble_eq_true rfl) ⟨Nat.zero_le _, Nat.zero_le _⟩ dX5_setPatience_18 (fun r18 u7 h6 => ?_)
    obtain ⟨h6, h6m⟩ := h6
    have h6 := h6.trans (if_neg (by decide))
    subst h6
    subst h6m
    refine r_zeqN (pc := 21) (tgt := 26) C (by omega) dX5_setPatience_21 (by decide) (fun h => absurd h (by decide)) (fun _ => ?_)
    refine r_ic (pc := 24) (v := nI 0) C rfl dX5_setPatience_24 ?_
    subst hQ
    exact e_iW C hr hk (Nat.le_refl _) (Nat.le_refl _) ⟨1, macts, f, fd⟩ rfl (Or.inl ⟨rfl, h1, rfl, rfl, rfl⟩) dX5_setPatience_25

theorem iX5_undo_X5 : ∀ w ∈ u_ws RX5 TX5 14, w ∈ wsX5_undo := by decide +kernel
abbrev rmX5_undo : Room := { frames := 1, cells := 0, slots := 0, locals := 25 }
theorem n_X5_undo : yX5_undo.cls = RX5 ∧ yX5_undo.cls ≠ "java/lang/invoke/MethodHandle" ∧ yX5_undo.cls ≠ "java/lang/invoke/VarHandle" ∧ (parseMethodDescriptor yX5_undo.desc).map (fun d => d.parameters.length) = some 0 := by decide +kernel
set_option maxHeartbeats 4000000 in
set_option maxRecDepth 100000 in
theorem k_X5_undo (l : Launch) (D : va_G) (cT : Nat → ClassId) (mA mref mscr msz mspot mgood mleft mread mnow mtri mdia macts mkept misk qp : Nat) (fn fd : Nat → Int32) (ha : macts ≤ 14) : MWi (S := Nat × Nat × (Nat → Int32)) l D cT yX5_undo wsX5_undo rmX5_undo [.ref mA] [(mA, cMo mref mscr msz mspot mgood mleft mread mnow mtri mdia macts mkept misk qp), (mnow, aI (cT 0) 104 fn), (mdia, aI (cT 0) 1456 fd)] (fun r w9 => UNm w9.1 macts w9.2.1 r fn fd w9.2.2) (fun w9 => [(mA, cMo w9.1 mscr msz mspot mgood mleft mread mnow mtri mdia w9.2.1 mkept misk qp), (mnow, aI (cT 0) 104 w9.2.2), (mdia, aI (cT 0) 1456 fd)]) 0 0 := by
  refine m_Wi [(0, .ref mA)] (by decide +kernel) rfl (Nat.le_of_ble_eq_true rfl) rfl ?_
  intro p e s m args below meth c A hAe C hA hr hk hnm_
  generalize hQ : MQ below (va_Qi _ _ A) args s 0 0 A = Q
  refine r_aln (pc := 0) C 0 rfl dX5_undo_0 ?_
  refine r_aln (pc := 1) C 0 rfl dX5_undo_1 ?_
  refine r_get (pc := 2) C iX5_undo_X5 0 rfl rfl 10 (by decide) (mw 1 rfl) rfl rfl dX5_undo_2 ?_
  refine r_zneN (pc := 5) (tgt := 12) C (by omega) dX5_undo_5 (by decide) (fun c5 => ?_) (fun c5 => ?_)
  · refine r_ic (pc := 12) (v := nI 0) C rfl dX5_undo_12 ?_
    refine c_WVi (pc := 13) (As := [.int (nI 0)]) (wc := [(mA, cMo mref mscr msz mspot mgood mleft mread mnow mtri mdia macts mkept misk qp)]) (wr := [(mnow, aI (cT 0) 104 fn), (mdia, aI (cT 0) 1456 fd)]) (qr := 0) C hA (k_X5_refused l D cT mA mref mscr msz mspot mgood mleft mread mnow mtri mdia macts mkept misk qp 0 (by first | assumption | omega)) (cwV 1 C.1.2.2.2.2 gX5_undo_X5_refused rfl rfl rfl n_X5_refused ⟨Nat.le_of_ble_eq_true rfl, Nat.le_of_ble_eq_true rfl⟩) rfl rfl [0] [1, 2] rfl rfl ⟨by decide, by decide⟩ (by decide) [2, 0, 1] (fun u2 => [(mA, cMo u2 mscr msz mspot mgood mleft mread mnow mtri mdia macts mkept misk qp), (mnow, aI (cT 0) 104 fn), (mdia, aI (cT 0) 1456 fd)]) (fun _ => rfl) (by decide) rfl rfl (Nat.le_of_ble_eq_true rfl) ⟨Nat.zero_le _, Nat.zero_le _⟩ dX5_undo_13 (fun r13 u2 h1 => ?_)
    obtain ⟨h1, h1m⟩ := h1
    have h1 := h1.trans (if_pos rfl)
    subst h1
    subst h1m
    refine r_zeqN (pc := 16) (tgt := 21) C (by omega) dX5_undo_16 (by decide) (fun _ => ?_) (fun h => absurd h (by decide))
    refine r_aln (pc := 21) C 0 rfl dX5_undo_21 ?_
    refine r_dup (pc := 22) C rfl dX5_undo_22 ?_
    refine r_get (pc := 23) C iX5_undo_X5 0 rfl rfl 10 (by decide) (mw 1 rfl) rfl rfl dX5_undo_23 ?_
    refine r_ic (pc := 26) (v := nI 1) C rfl dX5_undo_26 ?_
    refine r_isubN (pc := 27) C (by omega) dX5_undo_27 ?_
    refine r_put (pc := 28) (ws2 := [(mA, cMo 0 mscr msz mspot mgood mleft mread mnow mtri mdia (macts - 1) mkept misk qp), (mnow, aI (cT 0) 104 fn), (mdia, aI (cT 0) 1456 fd)]) C iX5_undo_X5 tyX5_ok nmX5 0 rfl rfl 10 (by decide) (mw 1 rfl) rfl rfl rfl rfl (Nat.le_of_ble_eq_true rfl) rfl dX5_undo_28 ?_
    refine r_aln (pc := 31) C 0 rfl dX5_undo_31 ?_
    refine r_get (pc := 32) C iX5_undo_X5 0 rfl rfl 9 (by decide) (mw 2 rfl) rfl rfl dX5_undo_32 ?_
    refine r_bi (pc := 35) (v := nI 104) C rfl dX5_undo_35 ?_
    refine r_aln (pc := 37) C 0 rfl dX5_undo_37 ?_
    refine r_get (pc := 38) C iX5_undo_X5 0 rfl rfl 10 (by decide) (mw 1 rfl) rfl rfl dX5_undo_38 ?_
    refine r_imulN (pc := 41) C dX5_undo_41 ?_
    refine r_aln (pc := 42) C 0 rfl dX5_undo_42 ?_
    refine r_get (pc := 43) C iX5_undo_X5 0 rfl rfl 7 (by decide) (mw 3 rfl) rfl rfl dX5_undo_43 ?_
    refine r_ic (pc := 46) (v := nI 0) C rfl dX5_undo_46 ?_
    refine r_bi (pc := 47) (v := nI 104) C rfl dX5_undo_47 ?_
    refine c_WSv (pc := 49) (As := [.ref mdia, .int (nI (104 * (macts - 1))), .ref mnow, .int (nI 0), .int (nI 104)]) (wc := [(mdia, aI (cT 0) 1456 fd), (mnow, aI (cT 0) 104 fn)]) (wr := [(mA, cMo 0 mscr msz mspot mgood mleft mread mnow mtri mdia (macts - 1) mkept misk qp)])  C hA (k_X5_copy l D cT mdia 1456 fd mnow 104 fn (104 * (macts - 1)) 0 104 (⟨by decide, by decide⟩) (by omega) (by decide)) (va_cwS 5 C.1.2.2.2.2 gX5_undo_X5_copy rfl rfl rfl n_X5_copy ⟨Nat.le_of_ble_eq_true rfl, Nat.le_of_ble_eq_true rfl⟩) [2, 1] [0] rfl rfl ⟨by decide, by decide⟩ (by decide) [0, 2, 1] (fun u4 => [(mA, cMo 0 mscr msz mspot mgood mleft mread mnow mtri mdia (macts - 1) mkept misk qp), (mnow, aI (cT 0) 104 u4), (mdia, aI (cT 0) 1456 fd)]) (fun _ => rfl) (by decide) rfl rfl (Nat.le_of_ble_eq_true rfl) ⟨Nat.zero_le _, Nat.zero_le _⟩ dX5_undo_49 (fun u4 h3 => ?_)
    obtain ⟨m5, rfl⟩ : ∃ z, z = u4 := ⟨_, rfl⟩
    try dsimp only at h3
    subst h3
    refine r_aln (pc := 52) C 0 rfl dX5_undo_52 ?_
    refine r_get (pc := 53) C iX5_undo_X5 0 rfl rfl 10 (by decide) (mw 1 rfl) rfl rfl dX5_undo_53 ?_
    subst hQ
    exact e_iW C hr hk (Nat.le_refl _) (Nat.le_refl _) ⟨0, macts - 1, cpF fd fn (104 * (macts - 1)) 0 104⟩ rfl (Or.inr ⟨rfl, by omega, rfl, rfl, rfl⟩) dX5_undo_56
  · refine r_ic (pc := 8) (v := nI 1) C rfl dX5_undo_8 ?_
    refine r_goto (pc := 9) (tgt := 13) C dX5_undo_9 (by decide) ?_
    refine c_WVi (pc := 13) (As := [.int (nI 1)]) (wc := [(mA, cMo mref mscr msz mspot mgood mleft mread mnow mtri mdia macts mkept misk qp)]) (wr := [(mnow, aI (cT 0) 104 fn), (mdia, aI (cT 0) 1456 fd)]) (qr := 0) C hA (k_X5_refused l D cT mA mref mscr msz mspot mgood mleft mread mnow mtri mdia macts mkept misk qp 1 (by first | assumption | omega)) (cwV 1 C.1.2.2.2.2 gX5_undo_X5_refused rfl rfl rfl n_X5_refused ⟨Nat.le_of_ble_eq_true rfl, Nat.le_of_ble_eq_true rfl⟩) rfl rfl [0] [1, 2] rfl rfl ⟨by decide, by decide⟩ (by decide) [2, 0, 1] (fun u7 => [(mA, cMo u7 mscr msz mspot mgood mleft mread mnow mtri mdia macts mkept misk qp), (mnow, aI (cT 0) 104 fn), (mdia, aI (cT 0) 1456 fd)]) (fun _ => rfl) (by decide) rfl rfl (Nat.le_of_ble_eq_true rfl) ⟨Nat.zero_le _, Nat.zero_le _⟩ dX5_undo_13 (fun r13 u7 h6 => ?_)
    obtain ⟨h6, h6m⟩ := h6
    have h6 := h6.trans (if_neg (by decide))
    subst h6
    subst h6m
    refine r_zeqN (pc := 16) (tgt := 21) C (by omega) dX5_undo_16 (by decide) (fun h => absurd h (by decide)) (fun _ => ?_)
    refine r_ic (pc := 19) (v := nI 0) C rfl dX5_undo_19 ?_
    subst hQ
    exact e_iW C hr hk (Nat.le_refl _) (Nat.le_refl _) ⟨1, macts, fn⟩ rfl (Or.inl ⟨rfl, c5, rfl, rfl⟩) dX5_undo_20

theorem iX5_movesFor_X5 : ∀ w ∈ u_ws RX5 TX5 14, w ∈ wsX5_movesFor := by decide +kernel
abbrev rmX5_movesFor : Room := { frames := 8, cells := 0, slots := 0, locals := 192 }
theorem n_X5_movesFor : yX5_movesFor.cls = RX5 ∧ yX5_movesFor.cls ≠ "java/lang/invoke/MethodHandle" ∧ yX5_movesFor.cls ≠ "java/lang/invoke/VarHandle" ∧ (parseMethodDescriptor yX5_movesFor.desc).map (fun d => d.parameters.length) = some 2 := by decide +kernel
set_option maxHeartbeats 4000000 in
set_option maxRecDepth 100000 in
theorem k_X5_movesFor (l : Launch) (D : va_G) (cT : Nat → ClassId) (mA mref mscr msz mspot mgood mleft mread mnow mtri mdia macts mkept misk qp : Nat) (pl f ft : Nat → Int32) (x y : Nat) (u : SS) (hR : RowQ f u) (hJ : JQ u) (hx : x < u.fst * u.wid) (hy : y < u.las * u.wid) : MWi (S := (Nat → Int32) × (Nat → Int32)) l D cT yX5_movesFor wsX5_movesFor rmX5_movesFor [.ref mA, .int (nI x), .int (nI y)] [(mA, cMo mref mscr msz mspot mgood mleft mread mnow mtri mdia macts mkept misk qp), (qp, aI (cT 0) 16 pl), (mnow, aI (cT 0) 104 f), (mtri, aI (cT 0) 104 ft)] (fun r w9 => CNq u x y r w9.2) (fun w9 => [(mA, cMo mref mscr msz mspot mgood mleft mread mnow mtri mdia macts mkept misk qp), (qp, aI (cT 0) 16 w9.1), (mnow, aI (cT 0) 104 f), (mtri, aI (cT 0) 104 w9.2)]) 0 0 := by
  refine m_Wi [(0, .ref mA), (1, .int (nI x)), (2, .int (nI y))] (by decide +kernel) rfl (Nat.le_of_ble_eq_true rfl) rfl ?_
  intro p e s m args below meth c A hAe C hA hr hk hnm_
  generalize hQ : MQ below (va_Qi _ _ A) args s 0 0 A = Q
  have hB := bd_of hJ
  obtain ⟨hF, hW, hM, hL, hPa, hBr, hCn, hFL, hE⟩ := id hB
  have hFW1 := mul44 hF hW
  have hLW1 := mul44 hL hW
  refine r_aln (pc := 0) C 0 rfl dX5_movesFor_0 ?_
  refine c_WVv (pc := 1) (As := []) (wc := [(mA, cMo mref mscr msz mspot mgood mleft mread mnow mtri mdia macts mkept misk qp), (mnow, aI (cT 0) 104 f), (mtri, aI (cT 0) 104 ft)]) (wr := [(qp, aI (cT 0) 16 pl)]) (qr := 0) C hA (k_X5_tryIt l D cT mA mref mscr msz mspot mgood mleft mread mnow mtri mdia macts mkept misk qp f ft) (cwV 0 C.1.2.2.2.2 gX5_movesFor_X5_tryIt rfl rfl rfl n_X5_tryIt ⟨Nat.le_of_ble_eq_true rfl, Nat.le_of_ble_eq_true rfl⟩) rfl rfl [0, 2, 3] [1] rfl rfl ⟨by decide, by decide⟩ (by decide) [1, 0, 2, 3] (fun u2 => [(mA, cMo mref mscr msz mspot mgood mleft mread mnow mtri mdia macts mkept misk qp), (qp, aI (cT 0) 16 pl), (mnow, aI (cT 0) 104 f), (mtri, aI (cT 0) 104 u2)]) (fun _ => rfl) (by decide) rfl rfl (Nat.le_of_ble_eq_true rfl) ⟨Nat.zero_le _, Nat.zero_le _⟩ dX5_movesFor_1 (fun u2 h1 => ?_)
  obtain ⟨m3, rfl⟩ : ∃ z, z = u2 := ⟨_, rfl⟩
  try dsimp only at h1
  subst h1
  refine r_aln (pc := 4) C 0 rfl dX5_movesFor_4 ?_
  refine r_aln (pc := 5) C 0 rfl dX5_movesFor_5 ?_
  refine r_get (pc := 6) C iX5_movesFor_X5 0 rfl rfl 8 (by decide) (mw 1 rfl) rfl rfl dX5_movesFor_6 ?_
  refine r_iln (pc := 9) C 1 rfl dX5_movesFor_9 ?_
  refine r_iln (pc := 10) C 2 rfl dX5_movesFor_10 ?_
  refine c_WVi (pc := 11) (As := [.ref mtri, .int (nI x), .int (nI y)]) (wc := [(mA, cMo mref mscr msz mspot mgood mleft mread mnow mtri mdia macts mkept misk qp), (qp, aI (cT 0) 16 pl), (mtri, aI (cT 0) 104 (cpF f ft 0 0 104))]) (wr := [(mnow, aI (cT 0) 104 f)]) (qr := 0) C hA (k_X5_connectIn l D cT mA mref mscr msz mspot mgood mleft mread mnow mtri mdia macts mkept misk qp pl mtri (cpF f ft 0 0 104) x y u (rq_cp hJ hR) hJ hx hy) (cwV 3 C.1.2.2.2.2 gX5_movesFor_X5_connectIn rfl rfl rfl n_X5_connectIn ⟨Nat.le_of_ble_eq_true rfl, Nat.le_of_ble_eq_true rfl⟩) rfl rfl [0, 1, 3] [2] rfl rfl ⟨by decide, by decide⟩ (by decide) [1, 2, 0, 3] (fun u5 => [(mA, cMo mref mscr msz mspot mgood mleft mread mnow mtri mdia macts mkept misk qp), (qp, aI (cT 0) 16 u5.1), (mnow, aI (cT 0) 104 f), (mtri, aI (cT 0) 104 u5.2)]) (fun _ => rfl) (by decide) rfl rfl (Nat.le_of_ble_eq_true rfl) ⟨Nat.zero_le _, Nat.zero_le _⟩ dX5_movesFor_11 (fun r11 u5 h4 => ?_)
  skip
  subst hQ
  exact e_iW C hr hk (Nat.le_refl _) (Nat.le_refl _) ⟨u5.1, u5.2⟩ rfl h4 dX5_movesFor_14

abbrev rmX5_moves : Room := { frames := 9, cells := 0, slots := 0, locals := 214 }
theorem n_X5_moves : yX5_moves.cls = RX5 ∧ yX5_moves.cls ≠ "java/lang/invoke/MethodHandle" ∧ yX5_moves.cls ≠ "java/lang/invoke/VarHandle" ∧ (parseMethodDescriptor yX5_moves.desc).map (fun d => d.parameters.length) = some 2 := by decide +kernel
set_option maxHeartbeats 4000000 in
set_option maxRecDepth 100000 in
theorem k_X5_moves (l : Launch) (D : va_G) (cT : Nat → ClassId) (mA mref mscr msz mspot mgood mleft mread mnow mtri mdia macts mkept misk qp : Nat) (pl f ft : Nat → Int32) (x y : Int32) (u : SS) (hR : RowQ f u) (hJ : JQ u) : MWi (S := Nat × (Nat → Int32) × (Nat → Int32)) l D cT yX5_moves wsX5_moves rmX5_moves [.ref mA, .int x, .int y] [(mA, cMo mref mscr msz mspot mgood mleft mread mnow mtri mdia macts mkept misk qp), (qp, aI (cT 0) 16 pl), (mnow, aI (cT 0) 104 f), (mtri, aI (cT 0) 104 ft)] (fun r w9 => (w9.1 = 1 ∧ ¬ (CIn (u.fst * u.wid) x ∧ CIn (u.las * u.wid) y)) ∨ (w9.1 = 0 ∧ ∃ jx jy r0 v, x = nI jx ∧ jx < u.fst * u.wid ∧ y = nI jy ∧ jy < u.las * u.wid ∧ ACs u (nI jx) (nI jy) r0 v ∧ RRq r0 r)) (fun w9 => [(mA, cMo w9.1 mscr msz mspot mgood mleft mread mnow mtri mdia macts mkept misk qp), (qp, aI (cT 0) 16 w9.2.1), (mnow, aI (cT 0) 104 f), (mtri, aI (cT 0) 104 w9.2.2)]) 0 0 := by
  refine m_Wi [(0, .ref mA), (1, .int x), (2, .int y)] (by decide +kernel) rfl (Nat.le_of_ble_eq_true rfl) rfl ?_
  intro p e s m args below meth c A hAe C hA hr hk hnm_
  generalize hQ : MQ below (va_Qi _ _ A) args s 0 0 A = Q
  have hB := bd_of hJ
  obtain ⟨hF, hW, hM, hL, hPa, hBr, hCn, hFL, hE⟩ := id hB
  have hFW1 := mul44 hF hW
  have hLW1 := mul44 hL hW
  refine r_aln (pc := 0) C 0 rfl dX5_moves_0 ?_
  refine r_aln (pc := 1) C 0 rfl dX5_moves_1 ?_
  refine r_iln (pc := 2) C 1 rfl dX5_moves_2 ?_
  refine c_RV (pc := 3) (As := [.int x]) (wc := [(mA, cMo mref mscr msz mspot mgood mleft mread mnow mtri mdia macts mkept misk qp), (mnow, aI (cT 0) 104 f)]) (qr := 0) C (k_X5_isInput l D cT mA mref mscr msz mspot mgood mleft mread mnow mtri mdia macts mkept misk qp f x u (by first | assumption | omega) (by first | assumption | omega)) (cwV 1 C.1.2.2.2.2 gX5_moves_X5_isInput rfl rfl rfl n_X5_isInput ⟨Nat.le_of_ble_eq_true rfl, Nat.le_of_ble_eq_true rfl⟩) [0, 2] rfl rfl rfl rfl rfl (Nat.le_of_ble_eq_true rfl) ⟨Nat.zero_le _, Nat.zero_le _⟩ dX5_moves_3 (fun r3 h1 => ?_)
  rcases h1 with ⟨rfl, h1j, rfl, h1⟩ | ⟨rfl, h1⟩
  · refine r_zeqN (pc := 6) (tgt := 21) C (by omega) dX5_moves_6 (by decide) (fun h => absurd h (by decide)) (fun _ => ?_)
    refine r_aln (pc := 9) C 0 rfl dX5_moves_9 ?_
    refine r_iln (pc := 10) C 2 rfl dX5_moves_10 ?_
    refine c_RV (pc := 11) (As := [.int y]) (wc := [(mA, cMo mref mscr msz mspot mgood mleft mread mnow mtri mdia macts mkept misk qp), (mnow, aI (cT 0) 104 f)]) (qr := 0) C (k_X5_isOutput l D cT mA mref mscr msz mspot mgood mleft mread mnow mtri mdia macts mkept misk qp f y u (by first | assumption | omega) (by first | assumption | omega)) (cwV 1 C.1.2.2.2.2 gX5_moves_X5_isOutput rfl rfl rfl n_X5_isOutput ⟨Nat.le_of_ble_eq_true rfl, Nat.le_of_ble_eq_true rfl⟩) [0, 2] rfl rfl rfl rfl rfl (Nat.le_of_ble_eq_true rfl) ⟨Nat.zero_le _, Nat.zero_le _⟩ dX5_moves_11 (fun r11 h2 => ?_)
    rcases h2 with ⟨rfl, h2j, rfl, h2⟩ | ⟨rfl, h2⟩
    · refine r_zeqN (pc := 14) (tgt := 21) C (by omega) dX5_moves_14 (by decide) (fun h => absurd h (by decide)) (fun _ => ?_)
      refine r_ic (pc := 17) (v := nI 0) C rfl dX5_moves_17 ?_
      refine r_goto (pc := 18) (tgt := 22) C dX5_moves_18 (by decide) ?_
      refine c_WVi (pc := 22) (As := [.int (nI 0)]) (wc := [(mA, cMo mref mscr msz mspot mgood mleft mread mnow mtri mdia macts mkept misk qp)]) (wr := [(qp, aI (cT 0) 16 pl), (mnow, aI (cT 0) 104 f), (mtri, aI (cT 0) 104 ft)]) (qr := 0) C hA (k_X5_refused l D cT mA mref mscr msz mspot mgood mleft mread mnow mtri mdia macts mkept misk qp 0 (by first | assumption | omega)) (cwV 1 C.1.2.2.2.2 gX5_moves_X5_refused rfl rfl rfl n_X5_refused ⟨Nat.le_of_ble_eq_true rfl, Nat.le_of_ble_eq_true rfl⟩) rfl rfl [0] [1, 2, 3] rfl rfl ⟨by decide, by decide⟩ (by decide) [3, 0, 1, 2] (fun u4 => [(mA, cMo u4 mscr msz mspot mgood mleft mread mnow mtri mdia macts mkept misk qp), (qp, aI (cT 0) 16 pl), (mnow, aI (cT 0) 104 f), (mtri, aI (cT 0) 104 ft)]) (fun _ => rfl) (by decide) rfl rfl (Nat.le_of_ble_eq_true rfl) ⟨Nat.zero_le _, Nat.zero_le _⟩ dX5_moves_22 (fun r22 u4 h3 => ?_)
      obtain ⟨h3, h3m⟩ := h3
      have h3 := h3.trans (if_pos rfl)
      subst h3
      subst h3m
      refine r_zeqN (pc := 25) (tgt := 32) C (by omega) dX5_moves_25 (by decide) (fun _ => ?_) (fun h => absurd h (by decide))
      refine r_aln (pc := 32) C 0 rfl dX5_moves_32 ?_
      refine r_iln (pc := 33) C 1 rfl dX5_moves_33 ?_
      refine r_iln (pc := 34) C 2 rfl dX5_moves_34 ?_
      refine c_WVi (pc := 35) (As := [.int (nI h1j), .int (nI h2j)]) (wc := [(mA, cMo 0 mscr msz mspot mgood mleft mread mnow mtri mdia macts mkept misk qp), (qp, aI (cT 0) 16 pl), (mnow, aI (cT 0) 104 f), (mtri, aI (cT 0) 104 ft)]) (wr := []) (qr := 0) C hA (k_X5_movesFor l D cT mA 0 mscr msz mspot mgood mleft mread mnow mtri mdia macts mkept misk qp pl f ft h1j h2j u hR hJ h1 h2) (cwV 2 C.1.2.2.2.2 gX5_moves_X5_movesFor rfl rfl rfl n_X5_movesFor ⟨Nat.le_of_ble_eq_true rfl, Nat.le_of_ble_eq_true rfl⟩) rfl rfl [0, 1, 2, 3] [] rfl rfl ⟨by decide, by decide⟩ (by decide) [0, 1, 2, 3] (fun u6 => [(mA, cMo 0 mscr msz mspot mgood mleft mread mnow mtri mdia macts mkept misk qp), (qp, aI (cT 0) 16 u6.1), (mnow, aI (cT 0) 104 f), (mtri, aI (cT 0) 104 u6.2)]) (fun _ => rfl) (by decide) rfl rfl (Nat.le_of_ble_eq_true rfl) ⟨Nat.zero_le _, Nat.zero_le _⟩ dX5_moves_35 (fun r35 u6 h5 => ?_)
      obtain ⟨h50, h5v, h5, h5R, h5Q⟩ := h5
      subst hQ
      exact e_iW C hr hk (Nat.le_refl _) (Nat.le_refl _) ⟨0, u6.1, u6.2⟩ rfl (Or.inr ⟨rfl, _, _, _, _, rfl, h1, rfl, h2, h5, h5Q⟩) dX5_moves_38
    · refine r_zeqN (pc := 14) (tgt := 21) C (by omega) dX5_moves_14 (by decide) (fun _ => ?_) (fun h => absurd h (by decide))
      refine r_ic (pc := 21) (v := nI 1) C rfl dX5_moves_21 ?_
      refine c_WVi (pc := 22) (As := [.int (nI 1)]) (wc := [(mA, cMo mref mscr msz mspot mgood mleft mread mnow mtri mdia macts mkept misk qp)]) (wr := [(qp, aI (cT 0) 16 pl), (mnow, aI (cT 0) 104 f), (mtri, aI (cT 0) 104 ft)]) (qr := 0) C hA (k_X5_refused l D cT mA mref mscr msz mspot mgood mleft mread mnow mtri mdia macts mkept misk qp 1 (by first | assumption | omega)) (cwV 1 C.1.2.2.2.2 gX5_moves_X5_refused rfl rfl rfl n_X5_refused ⟨Nat.le_of_ble_eq_true rfl, Nat.le_of_ble_eq_true rfl⟩) rfl rfl [0] [1, 2, 3] rfl rfl ⟨by decide, by decide⟩ (by decide) [3, 0, 1, 2] (fun u8 => [(mA, cMo u8 mscr msz mspot mgood mleft mread mnow mtri mdia macts mkept misk qp), (qp, aI (cT 0) 16 pl), (mnow, aI (cT 0) 104 f), (mtri, aI (cT 0) 104 ft)]) (fun _ => rfl) (by decide) rfl rfl (Nat.le_of_ble_eq_true rfl) ⟨Nat.zero_le _, Nat.zero_le _⟩ dX5_moves_22 (fun r22 u8 h7 => ?_)
      obtain ⟨h7, h7m⟩ := h7
      have h7 := h7.trans (if_neg (by decide))
      subst h7
      subst h7m
      refine r_zeqN (pc := 25) (tgt := 32) C (by omega) dX5_moves_25 (by decide) (fun h => absurd h (by decide)) (fun _ => ?_)
      refine r_ic (pc := 28) (v := nI 0) C rfl dX5_moves_28 ?_
      refine r_goto (pc := 29) (tgt := 38) C dX5_moves_29 (by decide) ?_
      subst hQ
      exact e_iW C hr hk (Nat.le_refl _) (Nat.le_refl _) ⟨1, pl, ft⟩ rfl (Or.inl ⟨rfl, fun g => h2 g.2⟩) dX5_moves_38
  · refine r_zeqN (pc := 6) (tgt := 21) C (by omega) dX5_moves_6 (by decide) (fun _ => ?_) (fun h => absurd h (by decide))
    refine r_ic (pc := 21) (v := nI 1) C rfl dX5_moves_21 ?_
    refine c_WVi (pc := 22) (As := [.int (nI 1)]) (wc := [(mA, cMo mref mscr msz mspot mgood mleft mread mnow mtri mdia macts mkept misk qp)]) (wr := [(qp, aI (cT 0) 16 pl), (mnow, aI (cT 0) 104 f), (mtri, aI (cT 0) 104 ft)]) (qr := 0) C hA (k_X5_refused l D cT mA mref mscr msz mspot mgood mleft mread mnow mtri mdia macts mkept misk qp 1 (by first | assumption | omega)) (cwV 1 C.1.2.2.2.2 gX5_moves_X5_refused rfl rfl rfl n_X5_refused ⟨Nat.le_of_ble_eq_true rfl, Nat.le_of_ble_eq_true rfl⟩) rfl rfl [0] [1, 2, 3] rfl rfl ⟨by decide, by decide⟩ (by decide) [3, 0, 1, 2] (fun u10 => [(mA, cMo u10 mscr msz mspot mgood mleft mread mnow mtri mdia macts mkept misk qp), (qp, aI (cT 0) 16 pl), (mnow, aI (cT 0) 104 f), (mtri, aI (cT 0) 104 ft)]) (fun _ => rfl) (by decide) rfl rfl (Nat.le_of_ble_eq_true rfl) ⟨Nat.zero_le _, Nat.zero_le _⟩ dX5_moves_22 (fun r22 u10 h9 => ?_)
    obtain ⟨h9, h9m⟩ := h9
    have h9 := h9.trans (if_neg (by decide))
    subst h9
    subst h9m
    refine r_zeqN (pc := 25) (tgt := 32) C (by omega) dX5_moves_25 (by decide) (fun h => absurd h (by decide)) (fun _ => ?_)
    refine r_ic (pc := 28) (v := nI 0) C rfl dX5_moves_28 ?_
    refine r_goto (pc := 29) (tgt := 38) C dX5_moves_29 (by decide) ?_
    subst hQ
    exact e_iW C hr hk (Nat.le_refl _) (Nat.le_refl _) ⟨1, pl, ft⟩ rfl (Or.inl ⟨rfl, fun g => h1 g.1⟩) dX5_moves_38

theorem iX5_open_X5 : ∀ w ∈ u_ws RX5 TX5 14, w ∈ wsX5_open := by decide +kernel
abbrev rmX5_open : Room := { frames := 9, cells := 0, slots := 0, locals := 214 }
theorem n_X5_open : yX5_open.cls = RX5 ∧ yX5_open.cls ≠ "java/lang/invoke/MethodHandle" ∧ yX5_open.cls ≠ "java/lang/invoke/VarHandle" ∧ (parseMethodDescriptor yX5_open.desc).map (fun d => d.parameters.length) = some 1 := by decide +kernel
set_option maxHeartbeats 4000000 in
set_option maxRecDepth 100000 in
theorem k_X5_open (l : Launch) (D : va_G) (cT : Nat → ClassId) (mA mref mscr msz mspot mgood mleft mread mnow mtri mdia macts mkept misk qp : Nat) (pl f ft : Nat → Int32) (x : Int32) (u : SS) (hR : RowQ f u) (hJ : JQ u) : MWi (S := Nat × (Nat → Int32) × (Nat → Int32)) l D cT yX5_open wsX5_open rmX5_open [.ref mA, .int x] [(mA, cMo mref mscr msz mspot mgood mleft mread mnow mtri mdia macts mkept misk qp), (qp, aI (cT 0) 16 pl), (mnow, aI (cT 0) 104 f), (mtri, aI (cT 0) 104 ft)] (fun r w9 => (w9.1 = 1 ∧ ¬ CIn 4 x) ∨ (w9.1 = 0 ∧ ∃ j, x = nI j ∧ j ≤ 3 ∧ r = nI (sumTo (fun a1 => sumTo (fun b => opV u j a1 b) (u.las * u.wid)) (u.fst * u.wid)))) (fun w9 => [(mA, cMo w9.1 mscr msz mspot mgood mleft mread mnow mtri mdia macts mkept misk qp), (qp, aI (cT 0) 16 w9.2.1), (mnow, aI (cT 0) 104 f), (mtri, aI (cT 0) 104 w9.2.2)]) 0 0 := by
  refine m_Wi [(0, .ref mA), (1, .int x)] (by decide +kernel) rfl (Nat.le_of_ble_eq_true rfl) rfl ?_
  intro p e s m args below meth c A hAe C hA hr hk hnm_
  generalize hQ : MQ below (va_Qi _ _ A) args s 0 0 A = Q
  have hB := bd_of hJ
  obtain ⟨hF, hW, hM, hL, hPa, hBr, hCn, hFL, hE⟩ := id hB
  have hFW1 := mul44 hF hW
  have hLW1 := mul44 hL hW
  refine r_aln (pc := 0) C 0 rfl dX5_open_0 ?_
  refine r_iln (pc := 1) C 1 rfl dX5_open_1 ?_
  refine r_i2l (pc := 2) C rfl dX5_open_2 ?_
  refine r_lc (pc := 3) (v := 0) C rfl dX5_open_3 ?_
  refine r_lc2 (pc := 4) C (mw 1 rfl) dX5_open_4 ?_
  refine c_RS (pc := 7) (As := [.long x.toInt64, .long 0, .long (3)]) (wc := [])  C (k_X5_in l D cT x.toInt64 0 (3)) (va_cwS 3 C.1.2.2.2.2 gX5_open_X5_in rfl rfl rfl n_X5_in ⟨Nat.le_of_ble_eq_true rfl, Nat.le_of_ble_eq_true rfl⟩) [] rfl rfl rfl (Nat.le_of_ble_eq_true rfl) ⟨Nat.zero_le _, Nat.zero_le _⟩ dX5_open_7 (fun r7 h1 => ?_)
  rcases h1 with ⟨rfl, h1⟩ | ⟨rfl, h1⟩
  · obtain ⟨h1j, rfl, h1l⟩ := (in_lit (n := 3) (by decide) (by decide)).mp h1
    refine r_zeqN (pc := 10) (tgt := 17) C (by omega) dX5_open_10 (by decide) (fun h => absurd h (by decide)) (fun _ => ?_)
    refine r_ic (pc := 13) (v := nI 0) C rfl dX5_open_13 ?_
    refine r_goto (pc := 14) (tgt := 18) C dX5_open_14 (by decide) ?_
    refine c_WVi (pc := 18) (As := [.int (nI 0)]) (wc := [(mA, cMo mref mscr msz mspot mgood mleft mread mnow mtri mdia macts mkept misk qp)]) (wr := [(qp, aI (cT 0) 16 pl), (mnow, aI (cT 0) 104 f), (mtri, aI (cT 0) 104 ft)]) (qr := 0) C hA (k_X5_refused l D cT mA mref mscr msz mspot mgood mleft mread mnow mtri mdia macts mkept misk qp 0 (by first | assumption | omega)) (cwV 1 C.1.2.2.2.2 gX5_open_X5_refused rfl rfl rfl n_X5_refused ⟨Nat.le_of_ble_eq_true rfl, Nat.le_of_ble_eq_true rfl⟩) rfl rfl [0] [1, 2, 3] rfl rfl ⟨by decide, by decide⟩ (by decide) [3, 0, 1, 2] (fun u3 => [(mA, cMo u3 mscr msz mspot mgood mleft mread mnow mtri mdia macts mkept misk qp), (qp, aI (cT 0) 16 pl), (mnow, aI (cT 0) 104 f), (mtri, aI (cT 0) 104 ft)]) (fun _ => rfl) (by decide) rfl rfl (Nat.le_of_ble_eq_true rfl) ⟨Nat.zero_le _, Nat.zero_le _⟩ dX5_open_18 (fun r18 u3 h2 => ?_)
    obtain ⟨h2, h2m⟩ := h2
    have h2 := h2.trans (if_pos rfl)
    subst h2
    subst h2m
    refine r_zeqN (pc := 21) (tgt := 26) C (by omega) dX5_open_21 (by decide) (fun _ => ?_) (fun h => absurd h (by decide))
    refine r_ic (pc := 26) (v := nI 0) C rfl dX5_open_26 ?_
    refine r_isn (pc := 27) C [1, 2, 0] [(0, .ref mA), (1, .int (nI h1j)), (2, .int (nI 0))] rfl (by decide) rfl dX5_open_27 ?_
    refine r_ic (pc := 28) (v := nI 0) C rfl dX5_open_28 ?_
    refine r_isn (pc := 29) C [1, 2, 3, 0] [(0, .ref mA), (1, .int (nI h1j)), (2, .int (nI 0)), (3, .int (nI 0))] rfl (by decide) rfl dX5_open_29 ?_
    have L30 : ∀ (n30 : Nat) (a1 : Nat) (pl1 : Nat → Int32) (ft1 : Nat → Int32) (ha1 : a1 ≤ u.fst * u.wid), u.fst * u.wid - a1 < n30 → RW p l e (headSpec wsX5_open rmX5_open).room s m args below meth c (IW s D A) 5 0 0 Q [(mA, cMo 0 mscr msz mspot mgood mleft mread mnow mtri mdia macts mkept misk qp), (qp, aI (cT 0) 16 pl1), (mnow, aI (cT 0) 104 f), (mtri, aI (cT 0) 104 ft1)] 30 [(0, .ref mA), (1, .int (nI h1j)), (2, .int (nI (sumTo (fun a1 => sumTo (fun b => opV u h1j a1 b) (u.las * u.wid)) a1))), (3, .int (nI a1))] [] := by
      intro n30
      induction n30 with
      | zero => intro a1 pl1 ft1 ha1 hn30; exact absurd hn30 (Nat.not_lt_zero _)
      | succ n30 ih30 =>
        intro a1 pl1 ft1 ha1 hn30
        refine r_iln (pc := 30) C 3 rfl dX5_open_30 ?_
        refine r_aln (pc := 31) C 0 rfl dX5_open_31 ?_
        refine r_get (pc := 32) C iX5_open_X5 0 rfl rfl 7 (by decide) (mw 2 rfl) rfl rfl dX5_open_32 ?_
        refine c_RS (pc := 35) (As := [.ref mnow]) (wc := [(mnow, aI (cT 0) 104 f)])  C (k_X5_inputs l D cT mnow f u (by first | assumption | omega) (by first | assumption | omega)) (va_cwS 1 C.1.2.2.2.2 gX5_open_X5_inputs rfl rfl rfl n_X5_inputs ⟨Nat.le_of_ble_eq_true rfl, Nat.le_of_ble_eq_true rfl⟩) [2] rfl rfl rfl (Nat.le_of_ble_eq_true rfl) ⟨Nat.zero_le _, Nat.zero_le _⟩ dX5_open_35 (fun r35 h4 => ?_)
        subst h4
        refine r_cgeN (pc := 38) (tgt := 93) C (by omega) (by omega) dX5_open_38 (by decide) (fun c38 => ?_) (fun c38 => ?_)
        · refine r_iln (pc := 93) C 2 rfl dX5_open_93 ?_
          subst hQ
          exact e_iW C hr hk (Nat.le_refl _) (Nat.le_refl _) ⟨0, pl1, ft1⟩ rfl (Or.inr ⟨rfl, _, rfl, by omega, by rw [show u.fst * u.wid = a1 by omega]⟩) dX5_open_94
        · refine r_ic (pc := 41) (v := nI 0) C rfl dX5_open_41 ?_
          refine r_is (pc := 42) C [1, 2, 3, 4, 0] [(0, .ref mA), (1, .int (nI h1j)), (2, .int (nI (sumTo (fun a1 => sumTo (fun b => opV u h1j a1 b) (u.las * u.wid)) a1))), (3, .int (nI a1)), (4, .int (nI 0))] (by decide) rfl dX5_open_42 ?_
          have L44 : ∀ (n44 : Nat) (b1 : Nat) (pl2 : Nat → Int32) (ft2 : Nat → Int32) (hb1 : b1 ≤ u.las * u.wid), u.las * u.wid - b1 < n44 → RW p l e (headSpec wsX5_open rmX5_open).room s m args below meth c (IW s D A) 5 0 0 Q [(mA, cMo 0 mscr msz mspot mgood mleft mread mnow mtri mdia macts mkept misk qp), (qp, aI (cT 0) 16 pl2), (mnow, aI (cT 0) 104 f), (mtri, aI (cT 0) 104 ft2)] 44 [(0, .ref mA), (1, .int (nI h1j)), (2, .int (nI (sumTo (fun a1 => sumTo (fun b => opV u h1j a1 b) (u.las * u.wid)) a1 + sumTo (fun b => opV u h1j a1 b) b1))), (3, .int (nI a1)), (4, .int (nI b1))] [] := by
            intro n44
            induction n44 with
            | zero => intro b1 pl2 ft2 hb1 hn44; exact absurd hn44 (Nat.not_lt_zero _)
            | succ n44 ih44 =>
              intro b1 pl2 ft2 hb1 hn44
              refine r_il (pc := 44) C 4 rfl dX5_open_44 ?_
              refine r_aln (pc := 46) C 0 rfl dX5_open_46 ?_
              refine r_get (pc := 47) C iX5_open_X5 0 rfl rfl 7 (by decide) (mw 2 rfl) rfl rfl dX5_open_47 ?_
              refine c_RS (pc := 50) (As := [.ref mnow]) (wc := [(mnow, aI (cT 0) 104 f)])  C (k_X5_outputs l D cT mnow f u (by first | assumption | omega) (by first | assumption | omega)) (va_cwS 1 C.1.2.2.2.2 gX5_open_X5_outputs rfl rfl rfl n_X5_outputs ⟨Nat.le_of_ble_eq_true rfl, Nat.le_of_ble_eq_true rfl⟩) [2] rfl rfl rfl (Nat.le_of_ble_eq_true rfl) ⟨Nat.zero_le _, Nat.zero_le _⟩ dX5_open_50 (fun r50 h5 => ?_)
              subst h5
              refine r_cgeN (pc := 53) (tgt := 87) C (by omega) (by omega) dX5_open_53 (by decide) (fun c53 => ?_) (fun c53 => ?_)
              · have e53 : b1 = u.las * u.wid := by omega
                subst e53
                refine r_incN (pc := 87) C 3 [1, 2, 3, 0, 4] [(0, .ref mA), (1, .int (nI h1j)), (2, .int (nI (sumTo (fun a1 => sumTo (fun b => opV u h1j a1 b) (u.las * u.wid)) a1 + sumTo (fun b => opV u h1j a1 b) (u.las * u.wid)))), (3, .int (nI (a1 + 1))), (4, .int (nI (u.las * u.wid)))] rfl (by decide) rfl dX5_open_87 ?_
                refine r_goto (pc := 90) (tgt := 30) C dX5_open_90 (by decide) ?_
                refine r_lv [0, 1, 2, 3] (lv2 := [(0, .ref mA), (1, .int (nI h1j)), (2, .int (nI (sumTo (fun a1 => sumTo (fun b => opV u h1j a1 b) (u.las * u.wid)) a1 + sumTo (fun b => opV u h1j a1 b) (u.las * u.wid)))), (3, .int (nI (a1 + 1)))]) rfl ?_
                exact ih30 (a1 + 1) pl2 ft2 (by omega) (by omega)
              · refine r_iln (pc := 56) C 2 rfl dX5_open_56 ?_
                refine r_aln (pc := 57) C 0 rfl dX5_open_57 ?_
                refine r_iln (pc := 58) C 3 rfl dX5_open_58 ?_
                refine r_il (pc := 59) C 4 rfl dX5_open_59 ?_
                refine c_WVi (pc := 61) (As := [.int (nI a1), .int (nI b1)]) (wc := [(mA, cMo 0 mscr msz mspot mgood mleft mread mnow mtri mdia macts mkept misk qp), (qp, aI (cT 0) 16 pl2), (mnow, aI (cT 0) 104 f), (mtri, aI (cT 0) 104 ft2)]) (wr := []) (qr := 0) C hA (k_X5_movesFor l D cT mA 0 mscr msz mspot mgood mleft mread mnow mtri mdia macts mkept misk qp pl2 f ft2 a1 b1 u hR hJ (by omega) (by omega)) (cwV 2 C.1.2.2.2.2 gX5_open_X5_movesFor rfl rfl rfl n_X5_movesFor ⟨Nat.le_of_ble_eq_true rfl, Nat.le_of_ble_eq_true rfl⟩) rfl rfl [0, 1, 2, 3] [] rfl rfl ⟨by decide, by decide⟩ (by decide) [0, 1, 2, 3] (fun u7 => [(mA, cMo 0 mscr msz mspot mgood mleft mread mnow mtri mdia macts mkept misk qp), (qp, aI (cT 0) 16 u7.1), (mnow, aI (cT 0) 104 f), (mtri, aI (cT 0) 104 u7.2)]) (fun _ => rfl) (by decide) rfl rfl (Nat.le_of_ble_eq_true rfl) ⟨Nat.zero_le _, Nat.zero_le _⟩ dX5_open_61 (fun r61 u7 h6 => ?_)
                skip
                refine r_i2l (pc := 64) C rfl dX5_open_64 ?_
                refine r_lc (pc := 65) (v := 0) C rfl dX5_open_65 ?_
                refine r_iln (pc := 66) C 1 rfl dX5_open_66 ?_
                refine r_i2l (pc := 67) C rfl dX5_open_67 ?_
                refine c_RS (pc := 68) (As := [.long r61.toInt64, .long 0, .long ((nI h1j).toInt64)]) (wc := [])  C (k_X5_in l D cT r61.toInt64 0 ((nI h1j).toInt64)) (va_cwS 3 C.1.2.2.2.2 gX5_open_X5_in rfl rfl rfl n_X5_in ⟨Nat.le_of_ble_eq_true rfl, Nat.le_of_ble_eq_true rfl⟩) [] rfl rfl rfl (Nat.le_of_ble_eq_true rfl) ⟨Nat.zero_le _, Nat.zero_le _⟩ dX5_open_68 (fun r68 h8 => ?_)
                rcases h8 with ⟨rfl, h8⟩ | ⟨rfl, h8⟩
                · have h8o := op_yes h6 h8 (by omega)
                  refine r_zeqN (pc := 71) (tgt := 78) C (by omega) dX5_open_71 (by decide) (fun h => absurd h (by decide)) (fun _ => ?_)
                  refine r_ic (pc := 74) (v := nI 1) C rfl dX5_open_74 ?_
                  refine r_goto (pc := 75) (tgt := 79) C dX5_open_75 (by decide) ?_
                  refine r_iaddN (pc := 79) C dX5_open_79 ?_
                  refine r_v (y := nI (sumTo (fun a1 => sumTo (fun b => opV u h1j a1 b) (u.las * u.wid)) a1 + sumTo (fun b => opV u h1j a1 b) (b1 + 1))) (congrArg nI (show _ = sumTo (fun a1 => sumTo (fun b => opV u h1j a1 b) (u.las * u.wid)) a1 + (sumTo (fun b => opV u h1j a1 b) b1 + opV u h1j a1 b1) by rw [h8o, Nat.add_assoc])) ?_
                  refine r_isn (pc := 80) C [1, 2, 0, 3, 4] [(0, .ref mA), (1, .int (nI h1j)), (2, .int (nI (sumTo (fun a1 => sumTo (fun b => opV u h1j a1 b) (u.las * u.wid)) a1 + sumTo (fun b => opV u h1j a1 b) (b1 + 1)))), (3, .int (nI a1)), (4, .int (nI b1))] rfl (by decide) rfl dX5_open_80 ?_
                  refine r_incN (pc := 81) C 4 [1, 2, 3, 4, 0] [(0, .ref mA), (1, .int (nI h1j)), (2, .int (nI (sumTo (fun a1 => sumTo (fun b => opV u h1j a1 b) (u.las * u.wid)) a1 + sumTo (fun b => opV u h1j a1 b) (b1 + 1)))), (3, .int (nI a1)), (4, .int (nI (b1 + 1)))] rfl (by decide) rfl dX5_open_81 ?_
                  refine r_goto (pc := 84) (tgt := 44) C dX5_open_84 (by decide) ?_
                  exact ih44 (b1 + 1) u7.1 u7.2 (by omega) (by omega)
                · have h8o := op_no hJ h6 h8 (by omega)
                  refine r_zeqN (pc := 71) (tgt := 78) C (by omega) dX5_open_71 (by decide) (fun _ => ?_) (fun h => absurd h (by decide))
                  refine r_ic (pc := 78) (v := nI 0) C rfl dX5_open_78 ?_
                  refine r_iaddN (pc := 79) C dX5_open_79 ?_
                  refine r_v (y := nI (sumTo (fun a1 => sumTo (fun b => opV u h1j a1 b) (u.las * u.wid)) a1 + sumTo (fun b => opV u h1j a1 b) (b1 + 1))) (congrArg nI (show _ = sumTo (fun a1 => sumTo (fun b => opV u h1j a1 b) (u.las * u.wid)) a1 + (sumTo (fun b => opV u h1j a1 b) b1 + opV u h1j a1 b1) by rw [h8o, Nat.add_assoc])) ?_
                  refine r_isn (pc := 80) C [1, 2, 0, 3, 4] [(0, .ref mA), (1, .int (nI h1j)), (2, .int (nI (sumTo (fun a1 => sumTo (fun b => opV u h1j a1 b) (u.las * u.wid)) a1 + sumTo (fun b => opV u h1j a1 b) (b1 + 1)))), (3, .int (nI a1)), (4, .int (nI b1))] rfl (by decide) rfl dX5_open_80 ?_
                  refine r_incN (pc := 81) C 4 [1, 2, 3, 4, 0] [(0, .ref mA), (1, .int (nI h1j)), (2, .int (nI (sumTo (fun a1 => sumTo (fun b => opV u h1j a1 b) (u.las * u.wid)) a1 + sumTo (fun b => opV u h1j a1 b) (b1 + 1)))), (3, .int (nI a1)), (4, .int (nI (b1 + 1)))] rfl (by decide) rfl dX5_open_81 ?_
                  refine r_goto (pc := 84) (tgt := 44) C dX5_open_84 (by decide) ?_
                  exact ih44 (b1 + 1) u7.1 u7.2 (by omega) (by omega)
          exact L44 _ 0 pl1 ft1 (Nat.zero_le _) (Nat.lt_succ_self _)
    exact L30 _ 0 pl ft (Nat.zero_le _) (Nat.lt_succ_self _)
  · have h1 := fun g => h1 ((in_lit (n := 3) (by decide) (by decide)).mpr g)
    refine r_zeqN (pc := 10) (tgt := 17) C (by omega) dX5_open_10 (by decide) (fun _ => ?_) (fun h => absurd h (by decide))
    refine r_ic (pc := 17) (v := nI 1) C rfl dX5_open_17 ?_
    refine c_WVi (pc := 18) (As := [.int (nI 1)]) (wc := [(mA, cMo mref mscr msz mspot mgood mleft mread mnow mtri mdia macts mkept misk qp)]) (wr := [(qp, aI (cT 0) 16 pl), (mnow, aI (cT 0) 104 f), (mtri, aI (cT 0) 104 ft)]) (qr := 0) C hA (k_X5_refused l D cT mA mref mscr msz mspot mgood mleft mread mnow mtri mdia macts mkept misk qp 1 (by first | assumption | omega)) (cwV 1 C.1.2.2.2.2 gX5_open_X5_refused rfl rfl rfl n_X5_refused ⟨Nat.le_of_ble_eq_true rfl, Nat.le_of_ble_eq_true rfl⟩) rfl rfl [0] [1, 2, 3] rfl rfl ⟨by decide, by decide⟩ (by decide) [3, 0, 1, 2] (fun u10 => [(mA, cMo u10 mscr msz mspot mgood mleft mread mnow mtri mdia macts mkept misk qp), (qp, aI (cT 0) 16 pl), (mnow, aI (cT 0) 104 f), (mtri, aI (cT 0) 104 ft)]) (fun _ => rfl) (by decide) rfl rfl (Nat.le_of_ble_eq_true rfl) ⟨Nat.zero_le _, Nat.zero_le _⟩ dX5_open_18 (fun r18 u10 h9 => ?_)
    obtain ⟨h9, h9m⟩ := h9
    have h9 := h9.trans (if_neg (by decide))
    subst h9
    subst h9m
    refine r_zeqN (pc := 21) (tgt := 26) C (by omega) dX5_open_21 (by decide) (fun h => absurd h (by decide)) (fun _ => ?_)
    refine r_ic (pc := 24) (v := nI 0) C rfl dX5_open_24 ?_
    subst hQ
    exact e_iW C hr hk (Nat.le_refl _) (Nat.le_refl _) ⟨1, pl, ft⟩ rfl (Or.inl ⟨rfl, h1⟩) dX5_open_25

