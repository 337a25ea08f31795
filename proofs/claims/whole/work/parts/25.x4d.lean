/-! the steps of scripts and simulations -/
abbrev B01 (r : Int32) : Int32 := if r < 0 then nI 0 else nI 1
theorem b01_0 {r : Int32} (h : r < 0) : nI 0 = B01 r := (if_pos h).symm
theorem b01_1 {r : Int32} (h : ¬ r < 0) : nI 1 = B01 r := (if_neg h).symm
theorem gr_cases {g : Nat} (h : g < 100000) : g / 10000 = 1 ∨ g / 10000 = 2 ∨ g / 10000 = 3 ∨ g / 10000 = 4 ∨ g / 10000 = 5 ∨ g / 10000 = 6 ∨ g / 10000 = 7 ∨ g / 10000 = 8 ∨ g / 10000 = 9 ∨ g / 10000 = 0 := by omega
theorem lk_lt {cnt wid : Nat} {outs : Nat → Nat} (h : cnt ≤ 16) : sumTo (fun c => 1 + pcn (lbs wid (outs c))) cnt < 2147483648 := by
  have h1 := sumTo_le (f := fun c => 1 + pcn (lbs wid (outs c))) (b := 17) (n := cnt) (fun c _ => by
    have := pcTo_le (lbs wid (outs c)) 16
    show 1 + pcTo (lbs wid (outs c)) 16 ≤ 17
    omega)
  omega
def SAMEa (pat bro mov cnt : Nat) (inp outs brd mvd got owe : Nat → Nat) (pat' bro' mov' cnt' : Nat) (inp' outs' brd' mvd' got' owe' : Nat → Nat) : Prop := SAMEq mov cnt inp outs brd mvd got owe mov' cnt' inp' outs' brd' mvd' got' owe' ∧ pat' = pat ∧ bro' = bro
/-- one group of a script: kind, high, low -/
def SUq (fst wid mid las pat bro mov cnt : Nat) (inp outs brd mvd got owe : Nat → Nat) (k hi lo : Nat) (r : Int32) (pat' bro' mov' cnt' : Nat) (inp' outs' brd' mvd' got' owe' : Nat → Nat) : Prop :=
  (k = 1 ∧ ∃ r0, ACq fst wid mid las pat bro mov cnt inp outs brd mvd got owe (nI hi) (nI lo) r0 mov' cnt' inp' outs' brd' mvd' got' owe' ∧ pat' = pat ∧ bro' = bro ∧ r = B01 r0) ∨
  (k = 2 ∧ ∃ r0, AOq wid mid las pat bro mov cnt inp outs brd mvd got owe (nI hi) (nI lo) r0 mov' cnt' inp' outs' brd' mvd' got' owe' ∧ pat' = pat ∧ bro' = bro ∧ r = B01 r0) ∨
  (k = 3 ∧ lo = 0 ∧ ∃ r0, HGq cnt inp outs brd mvd (nI hi) r0 cnt' inp' outs' brd' mvd' ∧ mov' = mov ∧ got' = got ∧ owe' = owe ∧ pat' = pat ∧ bro' = bro ∧ r = B01 r0) ∨
  (k = 4 ∧ hi = 0 ∧ ∃ r0, DRq las wid cnt outs (nI lo) r0 outs' ∧ (mov' = mov ∧ cnt' = cnt ∧ inp' = inp ∧ brd' = brd ∧ mvd' = mvd ∧ got' = got ∧ owe' = owe) ∧ pat' = pat ∧ bro' = bro ∧ r = B01 r0) ∨
  (k = 5 ∧ lo = 0 ∧ hi % 10 ≤ 1 ∧ ∃ r0, BKq mid bro cnt brd (nI (hi / 10)) (hi % 10) r0 bro' ∧ SAMEq mov cnt inp outs brd mvd got owe mov' cnt' inp' outs' brd' mvd' got' owe' ∧ pat' = pat ∧ r = B01 r0) ∨
  (k = 6 ∧ hi = 0 ∧ lo ≤ 3 ∧ pat' = lo ∧ bro' = bro ∧ SAMEq mov cnt inp outs brd mvd got owe mov' cnt' inp' outs' brd' mvd' got' owe' ∧ r = nI 1) ∨
  (SAMEa pat bro mov cnt inp outs brd mvd got owe pat' bro' mov' cnt' inp' outs' brd' mvd' got' owe' ∧ r = nI 1 ∧ ((k = 7 ∧ hi < cnt ∧ brd hi = lo) ∨ (k = 8 ∧ hi = 0 ∧ sumTo (fun c => 1 + pcn (lbs wid (outs c))) cnt ≤ lo) ∨ (k = 9 ∧ hi = 0 ∧ lo ≤ cnt))) ∨
  (SAMEa pat bro mov cnt inp outs brd mvd got owe pat' bro' mov' cnt' inp' outs' brd' mvd' got' owe' ∧ r = nI 0 ∧ ((k = 3 ∧ lo ≠ 0) ∨ (k = 4 ∧ hi ≠ 0) ∨ (k = 5 ∧ ¬ (lo = 0 ∧ hi % 10 ≤ 1)) ∨ (k = 6 ∧ ¬ (hi = 0 ∧ lo ≤ 3)) ∨ (k = 7 ∧ ¬ (hi < cnt ∧ brd hi = lo)) ∨ (k = 8 ∧ ¬ (hi = 0 ∧ sumTo (fun c => 1 + pcn (lbs wid (outs c))) cnt ≤ lo)) ∨ (k = 9 ∧ ¬ (hi = 0 ∧ lo ≤ cnt)) ∨ k = 0))
abbrev rst (nu dv : Nat) : Nat := if 0 < dv then nu % dv else 0
abbrev mx0 (r : Int32) : Int32 := if nI 0 < r then r else nI 0
/-- one turn of a simulation -/
def MTq (fst wid mid las pat bro mov cnt : Nat) (inp outs brd mvd got owe : Nat → Nat) (rr : Nat) (r : Int32) (mov' cnt' : Nat) (inp' outs' brd' mvd' got' owe' : Nat → Nat) : Prop :=
  (rr % 8 = 4 ∧ ∃ r0, AOq wid mid las pat bro mov cnt inp outs brd mvd got owe (nI (rst (rr / 8) cnt)) (nI (rst (rr / 128) (las * wid))) r0 mov' cnt' inp' outs' brd' mvd' got' owe' ∧ r = mx0 r0) ∨
  ((rr % 8 = 5 ∨ rr % 8 = 6) ∧ ∃ r0, HGq cnt inp outs brd mvd (nI (rst (rr / 8) cnt)) r0 cnt' inp' outs' brd' mvd' ∧ mov' = mov ∧ got' = got ∧ owe' = owe ∧ r = nI 0) ∨
  (rr % 8 = 7 ∧ ∃ r0, DRq las wid cnt outs (nI (rst (rr / 128) (las * wid))) r0 outs' ∧ (mov' = mov ∧ cnt' = cnt ∧ inp' = inp ∧ brd' = brd ∧ mvd' = mvd ∧ got' = got ∧ owe' = owe) ∧ r = nI 0) ∨
  (rr % 8 < 4 ∧ ∃ r0, ACq fst wid mid las pat bro mov cnt inp outs brd mvd got owe (nI (rst (rr / 8) (fst * wid))) (nI (rst (rr / 128) (las * wid))) r0 mov' cnt' inp' outs' brd' mvd' got' owe' ∧ r = mx0 r0)
theorem mt_cases (g : Nat) : g % 8 = 4 ∨ g % 8 = 5 ∨ g % 8 = 6 ∨ g % 8 = 7 ∨ g % 8 < 4 := by omega
theorem mt_lt {v : Nat} (h : v < 4) : tsT 4 7 #[30, 49, 49, 61] 72 58 v = 130 := by
  rcases (show v = 0 ∨ v = 1 ∨ v = 2 ∨ v = 3 by omega) with e | e | e | e <;> rw [e] <;> decide

theorem iX4_succeeds_X3 : ∀ w ∈ u_ws RX3 TX3 14, w ∈ wsX4_succeeds := by decide +kernel
theorem iX4_succeeds_X4 : ∀ w ∈ u_ws RX4 TX4 7, w ∈ wsX4_succeeds := by decide +kernel
abbrev rmX4_succeeds : Room := { frames := 28, cells := 0, slots := 0, locals := 697 }
theorem n_X4_succeeds : yX4_succeeds.cls = RX4 ∧ yX4_succeeds.cls ≠ "java/lang/invoke/MethodHandle" ∧ yX4_succeeds.cls ≠ "java/lang/invoke/VarHandle" ∧ (parseMethodDescriptor yX4_succeeds.desc).map (fun d => d.parameters.length) = some 1 := by decide +kernel
set_option maxHeartbeats 4000000 in
set_option maxRecDepth 100000 in
theorem k_X4_succeeds (l : Launch) (D : va_G) (cT : Nat → ClassId) (sw sN sA ha aS aH q ra fst wid mid las pat bro mov cnt sI sO sB sM sG sW : Nat) (inp outs brd mvd got owe : Nat → Nat) (pn : Nat) (pa : Int32) (qf qt qb qr ph qhf qht pl pm : Nat) (pb : Int32) (qs : Nat) (pfr pto : Nat → Nat) (pbf ptr : Nat → Int32) (phf pht : Nat → Nat) (pbs : Nat → Int32) (gr : Nat) (hI : INVq fst wid mid las pat bro cnt inp outs brd) (hfr : ∀ c, c < 16 → pfr c < 65536 ∧ pto c < 65536) (hgr : gr < 100000) : MWi (S := Nat × Nat × Nat × Nat × (Nat → Nat) × (Nat → Nat) × (Nat → Nat) × (Nat → Nat) × (Nat → Nat) × (Nat → Nat) × Nat × Int32 × Nat × Nat × Nat × Int32 × (Nat → Nat) × (Nat → Nat) × (Nat → Int32) × (Nat → Int32) × (Nat → Nat) × (Nat → Nat) × (Nat → Int32)) l D cT yX4_succeeds wsX4_succeeds rmX4_succeeds [.ref sw, .int (nI gr)] [(sw, cSw sN sA ha aS aH q ra), (sA, cSt fst wid mid las pat bro mov cnt sI sO sB sM sG sW), (sI, aN (cT 0) 16 inp), (sO, aN (cT 0) 16 outs), (sB, aN (cT 0) 16 brd), (sM, aN (cT 0) 16 mvd), (sG, aN (cT 0) 16 got), (sW, aN (cT 0) 16 owe), (q, cPl pn pa qf qt qb qr ph qhf qht pl pm pb qs), (qf, aN (cT 0) 16 pfr), (qt, aN (cT 0) 16 pto), (qb, aI (cT 0) 16 pbf), (qr, aI (cT 0) 16 ptr), (qhf, aN (cT 0) 4 phf), (qht, aN (cT 0) 4 pht), (qs, aI (cT 0) 16 pbs)] (fun r u => SUq fst wid mid las pat bro mov cnt inp outs brd mvd got owe (gr / 10000) (gr / 100 % 100) (gr % 100) r u.1 u.2.1 u.2.2.1 u.2.2.2.1 u.2.2.2.2.1 u.2.2.2.2.2.1 u.2.2.2.2.2.2.1 u.2.2.2.2.2.2.2.1 u.2.2.2.2.2.2.2.2.1 u.2.2.2.2.2.2.2.2.2.1 ∧ (∀ c, c < 16 → u.2.2.2.2.2.2.2.2.2.2.2.2.2.2.2.2.1 c < 65536 ∧ u.2.2.2.2.2.2.2.2.2.2.2.2.2.2.2.2.2.1 c < 65536)) (fun u => [(sw, cSw sN sA ha aS aH q ra), (sA, cSt fst wid mid las u.1 u.2.1 u.2.2.1 u.2.2.2.1 sI sO sB sM sG sW), (sI, aN (cT 0) 16 u.2.2.2.2.1), (sO, aN (cT 0) 16 u.2.2.2.2.2.1), (sB, aN (cT 0) 16 u.2.2.2.2.2.2.1), (sM, aN (cT 0) 16 u.2.2.2.2.2.2.2.1), (sG, aN (cT 0) 16 u.2.2.2.2.2.2.2.2.1), (sW, aN (cT 0) 16 u.2.2.2.2.2.2.2.2.2.1), (q, cPl u.2.2.2.2.2.2.2.2.2.2.1 u.2.2.2.2.2.2.2.2.2.2.2.1 qf qt qb qr u.2.2.2.2.2.2.2.2.2.2.2.2.1 qhf qht u.2.2.2.2.2.2.2.2.2.2.2.2.2.1 u.2.2.2.2.2.2.2.2.2.2.2.2.2.2.1 u.2.2.2.2.2.2.2.2.2.2.2.2.2.2.2.1 qs), (qf, aN (cT 0) 16 u.2.2.2.2.2.2.2.2.2.2.2.2.2.2.2.2.1), (qt, aN (cT 0) 16 u.2.2.2.2.2.2.2.2.2.2.2.2.2.2.2.2.2.1), (qb, aI (cT 0) 16 u.2.2.2.2.2.2.2.2.2.2.2.2.2.2.2.2.2.2.1), (qr, aI (cT 0) 16 u.2.2.2.2.2.2.2.2.2.2.2.2.2.2.2.2.2.2.2.1), (qhf, aN (cT 0) 4 u.2.2.2.2.2.2.2.2.2.2.2.2.2.2.2.2.2.2.2.2.1), (qht, aN (cT 0) 4 u.2.2.2.2.2.2.2.2.2.2.2.2.2.2.2.2.2.2.2.2.2.1), (qs, aI (cT 0) 16 u.2.2.2.2.2.2.2.2.2.2.2.2.2.2.2.2.2.2.2.2.2.2)]) 0 0 := by
  refine m_Wi [(0, .ref sw), (1, .int (nI gr))] (by decide +kernel) rfl (Nat.le_of_ble_eq_true rfl) rfl ?_
  intro p e s m args below meth c A hAe C hA hr hk hnm_
  generalize hQ : MQ below (va_Qi _ _ A) args s 0 0 A = Q
  obtain ⟨⟨hF1, hF4⟩, ⟨hW1, hW2⟩, ⟨hM1, hM4⟩, ⟨hL1, hL4⟩, hPa, hB0, hCn, h16, hcc, hcd, hok⟩ := id hI
  have hIn : ∀ c, c < 16 → inp c < 16 := fun c hc => (h16 c hc).1
  have hOu : ∀ c, c < 16 → outs c < 65536 := fun c hc => (h16 c hc).2.1
  have hBo : ∀ c, c < 16 → brd c < 4 := fun c hc => (h16 c hc).2.2
  have hFW : fst * wid ≤ 16 := mul16 hF4 hW2
  have hLW : las * wid ≤ 16 := mul16 hL4 hW2
  have hb2 : bro < 16 := Nat.lt_of_lt_of_le hB0 (Nat.pow_le_pow_right (by decide) hM4)
  refine r_iln (pc := 0) C 1 rfl dX4_succeeds_0 ?_
  refine r_bi (pc := 1) (v := nI 100) C rfl dX4_succeeds_1 ?_
  refine r_idivN (pc := 3) C (by omega) (by omega) (by omega) dX4_succeeds_3 ?_
  refine r_bi (pc := 4) (v := nI 100) C rfl dX4_succeeds_4 ?_
  refine r_iremN (pc := 6) C (by omega) (by omega) (by omega) dX4_succeeds_6 ?_
  refine r_isn (pc := 7) C [1, 2, 0] [(0, .ref sw), (1, .int (nI gr)), (2, .int (nI ((gr / 100) % 100)))] rfl (by decide) rfl dX4_succeeds_7 ?_
  refine r_iln (pc := 8) C 1 rfl dX4_succeeds_8 ?_
  refine r_bi (pc := 9) (v := nI 100) C rfl dX4_succeeds_9 ?_
  refine r_iremN (pc := 11) C (by omega) (by omega) (by omega) dX4_succeeds_11 ?_
  refine r_isn (pc := 12) C [1, 2, 3, 0] [(0, .ref sw), (1, .int (nI gr)), (2, .int (nI ((gr / 100) % 100))), (3, .int (nI (gr % 100)))] rfl (by decide) rfl dX4_succeeds_12 ?_
  refine r_iln (pc := 13) C 1 rfl dX4_succeeds_13 ?_
  refine r_si (pc := 14) (v := nI 10000) C rfl dX4_succeeds_14 ?_
  refine r_idivN (pc := 17) C (by omega) (by omega) (by omega) dX4_succeeds_17 ?_
  rcases gr_cases hgr with hk9 | hk9 | hk9 | hk9 | hk9 | hk9 | hk9 | hk9 | hk9 | hk9
  · refine r_v (y := nI 1) (congrArg nI hk9) ?_
    refine r_tsN (pc := 18) (tgt := 68) C (by decide) dX4_succeeds_18 (by decide) ?_
    refine r_aln (pc := 68) C 0 rfl dX4_succeeds_68 ?_
    refine r_get (pc := 69) C iX4_succeeds_X4 0 rfl rfl 1 (by decide) (mw 1 rfl) rfl rfl dX4_succeeds_69 ?_
    refine r_aln (pc := 72) C 0 rfl dX4_succeeds_72 ?_
    refine r_get (pc := 73) C iX4_succeeds_X4 0 rfl rfl 5 (by decide) (mw 2 rfl) rfl rfl dX4_succeeds_73 ?_
    refine r_iln (pc := 76) C 2 rfl dX4_succeeds_76 ?_
    refine r_iln (pc := 77) C 3 rfl dX4_succeeds_77 ?_
    refine c_WVi (pc := 78) (As := [.ref q, .int (nI ((gr / 100) % 100)), .int (nI (gr % 100))]) (wc := [(sA, cSt fst wid mid las pat bro mov cnt sI sO sB sM sG sW), (sI, aN (cT 0) 16 inp), (sO, aN (cT 0) 16 outs), (sB, aN (cT 0) 16 brd), (sM, aN (cT 0) 16 mvd), (sG, aN (cT 0) 16 got), (sW, aN (cT 0) 16 owe), (q, cPl pn pa qf qt qb qr ph qhf qht pl pm pb qs), (qf, aN (cT 0) 16 pfr), (qt, aN (cT 0) 16 pto), (qb, aI (cT 0) 16 pbf), (qr, aI (cT 0) 16 ptr), (qhf, aN (cT 0) 4 phf), (qht, aN (cT 0) 4 pht), (qs, aI (cT 0) 16 pbs)]) (wr := [(sw, cSw sN sA ha aS aH q ra)]) (qr := 1) C hA (k_X3_addCall l D cT sA fst wid mid las pat bro mov cnt sI sO sB sM sG sW inp outs brd mvd got owe q pn pa qf qt qb qr ph qhf qht pl pm pb qs pfr pto pbf ptr phf pht pbs (nI ((gr / 100) % 100)) (nI (gr % 100)) (by first | assumption | omega) (by first | assumption | omega) (by first | assumption | omega) (by first | assumption | omega) (by first | assumption | omega) (by first | assumption | omega) (by first | assumption | omega) (by first | assumption | omega) (by first | assumption | omega) (by first | assumption | omega) (by first | assumption | omega) (by first | assumption | omega) (by first | assumption | omega) (by first | assumption | omega)) (cwV 3 C.1.2.2.2.2 gX4_succeeds_X3_addCall rfl rfl rfl n_X3_addCall ⟨Nat.le_of_ble_eq_true rfl, Nat.le_of_ble_eq_true rfl⟩) rfl rfl [1, 2, 3, 4, 5, 6, 7, 8, 9, 10, 11, 12, 13, 14, 15] [0] rfl rfl ⟨by decide, by decide⟩ (by decide) [0, 1, 2, 3, 4, 5, 6, 7, 8, 9, 10, 11, 12, 13, 14, 15] (fun u2 => [(sw, cSw sN sA ha aS aH q ra), (sA, cSt fst wid mid las pat bro u2.1 u2.2.1 sI sO sB sM sG sW), (sI, aN (cT 0) 16 u2.2.2.1), (sO, aN (cT 0) 16 u2.2.2.2.1), (sB, aN (cT 0) 16 u2.2.2.2.2.1), (sM, aN (cT 0) 16 u2.2.2.2.2.2.1), (sG, aN (cT 0) 16 u2.2.2.2.2.2.2.1), (sW, aN (cT 0) 16 u2.2.2.2.2.2.2.2.1), (q, cPl u2.2.2.2.2.2.2.2.2.1 u2.2.2.2.2.2.2.2.2.2.1 qf qt qb qr u2.2.2.2.2.2.2.2.2.2.2.1 qhf qht u2.2.2.2.2.2.2.2.2.2.2.2.1 u2.2.2.2.2.2.2.2.2.2.2.2.2.1 u2.2.2.2.2.2.2.2.2.2.2.2.2.2.1 qs), (qf, aN (cT 0) 16 u2.2.2.2.2.2.2.2.2.2.2.2.2.2.2.1), (qt, aN (cT 0) 16 u2.2.2.2.2.2.2.2.2.2.2.2.2.2.2.2.1), (qb, aI (cT 0) 16 u2.2.2.2.2.2.2.2.2.2.2.2.2.2.2.2.2.1), (qr, aI (cT 0) 16 u2.2.2.2.2.2.2.2.2.2.2.2.2.2.2.2.2.2.1), (qhf, aN (cT 0) 4 u2.2.2.2.2.2.2.2.2.2.2.2.2.2.2.2.2.2.2.1), (qht, aN (cT 0) 4 u2.2.2.2.2.2.2.2.2.2.2.2.2.2.2.2.2.2.2.2.1), (qs, aI (cT 0) 16 u2.2.2.2.2.2.2.2.2.2.2.2.2.2.2.2.2.2.2.2.2)]) (fun _ => rfl) (by decide) rfl rfl (Nat.le_of_ble_eq_true rfl) ⟨Nat.zero_le _, Nat.zero_le _⟩ dX4_succeeds_78 (fun r78 u2 h1 => ?_)
    refine r_zlt (pc := 81) (tgt := 88) C dX4_succeeds_81 (by decide) (fun c81 => ?_) (fun c81 => ?_)
    · refine r_ic (pc := 88) (v := nI 0) C rfl dX4_succeeds_88 ?_
      subst hQ
      exact e_zW C hr hk rfl (Nat.le_refl _) (Nat.le_refl _) ⟨pat, bro, u2.1, u2.2.1, u2.2.2.1, u2.2.2.2.1, u2.2.2.2.2.1, u2.2.2.2.2.2.1, u2.2.2.2.2.2.2.1, u2.2.2.2.2.2.2.2.1, u2.2.2.2.2.2.2.2.2.1, u2.2.2.2.2.2.2.2.2.2.1, u2.2.2.2.2.2.2.2.2.2.2.1, u2.2.2.2.2.2.2.2.2.2.2.2.1, u2.2.2.2.2.2.2.2.2.2.2.2.2.1, u2.2.2.2.2.2.2.2.2.2.2.2.2.2.1, u2.2.2.2.2.2.2.2.2.2.2.2.2.2.2.1, u2.2.2.2.2.2.2.2.2.2.2.2.2.2.2.2.1, u2.2.2.2.2.2.2.2.2.2.2.2.2.2.2.2.2.1, u2.2.2.2.2.2.2.2.2.2.2.2.2.2.2.2.2.2.1, u2.2.2.2.2.2.2.2.2.2.2.2.2.2.2.2.2.2.2.1, u2.2.2.2.2.2.2.2.2.2.2.2.2.2.2.2.2.2.2.2.1, u2.2.2.2.2.2.2.2.2.2.2.2.2.2.2.2.2.2.2.2.2⟩ rfl (⟨(Or.inl (⟨hk9, _, h1.1, rfl, rfl, b01_0 c81⟩)), h1.2⟩) dX4_succeeds_89
    · refine r_ic (pc := 84) (v := nI 1) C rfl dX4_succeeds_84 ?_
      refine r_goto (pc := 85) (tgt := 89) C dX4_succeeds_85 (by decide) ?_
      subst hQ
      exact e_zW C hr hk rfl (Nat.le_refl _) (Nat.le_refl _) ⟨pat, bro, u2.1, u2.2.1, u2.2.2.1, u2.2.2.2.1, u2.2.2.2.2.1, u2.2.2.2.2.2.1, u2.2.2.2.2.2.2.1, u2.2.2.2.2.2.2.2.1, u2.2.2.2.2.2.2.2.2.1, u2.2.2.2.2.2.2.2.2.2.1, u2.2.2.2.2.2.2.2.2.2.2.1, u2.2.2.2.2.2.2.2.2.2.2.2.1, u2.2.2.2.2.2.2.2.2.2.2.2.2.1, u2.2.2.2.2.2.2.2.2.2.2.2.2.2.1, u2.2.2.2.2.2.2.2.2.2.2.2.2.2.2.1, u2.2.2.2.2.2.2.2.2.2.2.2.2.2.2.2.1, u2.2.2.2.2.2.2.2.2.2.2.2.2.2.2.2.2.1, u2.2.2.2.2.2.2.2.2.2.2.2.2.2.2.2.2.2.1, u2.2.2.2.2.2.2.2.2.2.2.2.2.2.2.2.2.2.2.1, u2.2.2.2.2.2.2.2.2.2.2.2.2.2.2.2.2.2.2.2.1, u2.2.2.2.2.2.2.2.2.2.2.2.2.2.2.2.2.2.2.2.2⟩ rfl (⟨(Or.inl (⟨hk9, _, h1.1, rfl, rfl, b01_1 c81⟩)), h1.2⟩) dX4_succeeds_89
  · refine r_v (y := nI 2) (congrArg nI hk9) ?_
    refine r_tsN (pc := 18) (tgt := 90) C (by decide) dX4_succeeds_18 (by decide) ?_
    refine r_aln (pc := 90) C 0 rfl dX4_succeeds_90 ?_
    refine r_get (pc := 91) C iX4_succeeds_X4 0 rfl rfl 1 (by decide) (mw 1 rfl) rfl rfl dX4_succeeds_91 ?_
    refine r_aln (pc := 94) C 0 rfl dX4_succeeds_94 ?_
    refine r_get (pc := 95) C iX4_succeeds_X4 0 rfl rfl 5 (by decide) (mw 2 rfl) rfl rfl dX4_succeeds_95 ?_
    refine r_iln (pc := 98) C 2 rfl dX4_succeeds_98 ?_
    refine r_iln (pc := 99) C 3 rfl dX4_succeeds_99 ?_
    refine c_WVi (pc := 100) (As := [.ref q, .int (nI ((gr / 100) % 100)), .int (nI (gr % 100))]) (wc := [(sA, cSt fst wid mid las pat bro mov cnt sI sO sB sM sG sW), (sI, aN (cT 0) 16 inp), (sO, aN (cT 0) 16 outs), (sB, aN (cT 0) 16 brd), (sM, aN (cT 0) 16 mvd), (sG, aN (cT 0) 16 got), (sW, aN (cT 0) 16 owe), (q, cPl pn pa qf qt qb qr ph qhf qht pl pm pb qs), (qf, aN (cT 0) 16 pfr), (qt, aN (cT 0) 16 pto), (qb, aI (cT 0) 16 pbf), (qr, aI (cT 0) 16 ptr), (qhf, aN (cT 0) 4 phf), (qht, aN (cT 0) 4 pht), (qs, aI (cT 0) 16 pbs)]) (wr := [(sw, cSw sN sA ha aS aH q ra)]) (qr := 1) C hA (k_X3_addOutput l D cT sA fst wid mid las pat bro mov cnt sI sO sB sM sG sW inp outs brd mvd got owe q pn pa qf qt qb qr ph qhf qht pl pm pb qs pfr pto pbf ptr phf pht pbs (nI ((gr / 100) % 100)) (nI (gr % 100)) (by first | assumption | omega) (by first | assumption | omega) (by first | assumption | omega) (by first | assumption | omega) (by first | assumption | omega) (by first | assumption | omega) (by first | assumption | omega) (by first | assumption | omega) (by first | assumption | omega) (by first | assumption | omega) (by first | assumption | omega) (by first | assumption | omega) (by first | assumption | omega) (by first | assumption | omega)) (cwV 3 C.1.2.2.2.2 gX4_succeeds_X3_addOutput rfl rfl rfl n_X3_addOutput ⟨Nat.le_of_ble_eq_true rfl, Nat.le_of_ble_eq_true rfl⟩) rfl rfl [1, 2, 3, 4, 5, 6, 7, 8, 9, 10, 11, 12, 13, 14, 15] [0] rfl rfl ⟨by decide, by decide⟩ (by decide) [0, 1, 2, 3, 4, 5, 6, 7, 8, 9, 10, 11, 12, 13, 14, 15] (fun u4 => [(sw, cSw sN sA ha aS aH q ra), (sA, cSt fst wid mid las pat bro u4.1 u4.2.1 sI sO sB sM sG sW), (sI, aN (cT 0) 16 u4.2.2.1), (sO, aN (cT 0) 16 u4.2.2.2.1), (sB, aN (cT 0) 16 u4.2.2.2.2.1), (sM, aN (cT 0) 16 u4.2.2.2.2.2.1), (sG, aN (cT 0) 16 u4.2.2.2.2.2.2.1), (sW, aN (cT 0) 16 u4.2.2.2.2.2.2.2.1), (q, cPl u4.2.2.2.2.2.2.2.2.1 u4.2.2.2.2.2.2.2.2.2.1 qf qt qb qr u4.2.2.2.2.2.2.2.2.2.2.1 qhf qht u4.2.2.2.2.2.2.2.2.2.2.2.1 u4.2.2.2.2.2.2.2.2.2.2.2.2.1 u4.2.2.2.2.2.2.2.2.2.2.2.2.2.1 qs), (qf, aN (cT 0) 16 u4.2.2.2.2.2.2.2.2.2.2.2.2.2.2.1), (qt, aN (cT 0) 16 u4.2.2.2.2.2.2.2.2.2.2.2.2.2.2.2.1), (qb, aI (cT 0) 16 u4.2.2.2.2.2.2.2.2.2.2.2.2.2.2.2.2.1), (qr, aI (cT 0) 16 u4.2.2.2.2.2.2.2.2.2.2.2.2.2.2.2.2.2.1), (qhf, aN (cT 0) 4 u4.2.2.2.2.2.2.2.2.2.2.2.2.2.2.2.2.2.2.1), (qht, aN (cT 0) 4 u4.2.2.2.2.2.2.2.2.2.2.2.2.2.2.2.2.2.2.2.1), (qs, aI (cT 0) 16 u4.2.2.2.2.2.2.2.2.2.2.2.2.2.2.2.2.2.2.2.2)]) (fun _ => rfl) (by decide) rfl rfl (Nat.le_of_ble_eq_true rfl) ⟨Nat.zero_le _, Nat.zero_le _⟩ dX4_succeeds_100 (fun r100 u4 h3 => ?_)
    refine r_zlt (pc := 103) (tgt := 110) C dX4_succeeds_103 (by decide) (fun c103 => ?_) (fun c103 => ?_)
    · refine r_ic (pc := 110) (v := nI 0) C rfl dX4_succeeds_110 ?_
      subst hQ
      exact e_zW C hr hk rfl (Nat.le_refl _) (Nat.le_refl _) ⟨pat, bro, u4.1, u4.2.1, u4.2.2.1, u4.2.2.2.1, u4.2.2.2.2.1, u4.2.2.2.2.2.1, u4.2.2.2.2.2.2.1, u4.2.2.2.2.2.2.2.1, u4.2.2.2.2.2.2.2.2.1, u4.2.2.2.2.2.2.2.2.2.1, u4.2.2.2.2.2.2.2.2.2.2.1, u4.2.2.2.2.2.2.2.2.2.2.2.1, u4.2.2.2.2.2.2.2.2.2.2.2.2.1, u4.2.2.2.2.2.2.2.2.2.2.2.2.2.1, u4.2.2.2.2.2.2.2.2.2.2.2.2.2.2.1, u4.2.2.2.2.2.2.2.2.2.2.2.2.2.2.2.1, u4.2.2.2.2.2.2.2.2.2.2.2.2.2.2.2.2.1, u4.2.2.2.2.2.2.2.2.2.2.2.2.2.2.2.2.2.1, u4.2.2.2.2.2.2.2.2.2.2.2.2.2.2.2.2.2.2.1, u4.2.2.2.2.2.2.2.2.2.2.2.2.2.2.2.2.2.2.2.1, u4.2.2.2.2.2.2.2.2.2.2.2.2.2.2.2.2.2.2.2.2⟩ rfl (⟨(Or.inr (Or.inl (⟨hk9, _, h3.1, rfl, rfl, b01_0 c103⟩))), h3.2⟩) dX4_succeeds_111
    · refine r_ic (pc := 106) (v := nI 1) C rfl dX4_succeeds_106 ?_
      refine r_goto (pc := 107) (tgt := 111) C dX4_succeeds_107 (by decide) ?_
      subst hQ
      exact e_zW C hr hk rfl (Nat.le_refl _) (Nat.le_refl _) ⟨pat, bro, u4.1, u4.2.1, u4.2.2.1, u4.2.2.2.1, u4.2.2.2.2.1, u4.2.2.2.2.2.1, u4.2.2.2.2.2.2.1, u4.2.2.2.2.2.2.2.1, u4.2.2.2.2.2.2.2.2.1, u4.2.2.2.2.2.2.2.2.2.1, u4.2.2.2.2.2.2.2.2.2.2.1, u4.2.2.2.2.2.2.2.2.2.2.2.1, u4.2.2.2.2.2.2.2.2.2.2.2.2.1, u4.2.2.2.2.2.2.2.2.2.2.2.2.2.1, u4.2.2.2.2.2.2.2.2.2.2.2.2.2.2.1, u4.2.2.2.2.2.2.2.2.2.2.2.2.2.2.2.1, u4.2.2.2.2.2.2.2.2.2.2.2.2.2.2.2.2.1, u4.2.2.2.2.2.2.2.2.2.2.2.2.2.2.2.2.2.1, u4.2.2.2.2.2.2.2.2.2.2.2.2.2.2.2.2.2.2.1, u4.2.2.2.2.2.2.2.2.2.2.2.2.2.2.2.2.2.2.2.1, u4.2.2.2.2.2.2.2.2.2.2.2.2.2.2.2.2.2.2.2.2⟩ rfl (⟨(Or.inr (Or.inl (⟨hk9, _, h3.1, rfl, rfl, b01_1 c103⟩))), h3.2⟩) dX4_succeeds_111
  · refine r_v (y := nI 3) (congrArg nI hk9) ?_
    refine r_tsN (pc := 18) (tgt := 112) C (by decide) dX4_succeeds_18 (by decide) ?_
    refine r_iln (pc := 112) C 3 rfl dX4_succeeds_112 ?_
    refine r_zneN (pc := 113) (tgt := 131) C (by omega) dX4_succeeds_113 (by decide) (fun c113 => ?_) (fun c113 => ?_)
    · refine r_ic (pc := 131) (v := nI 0) C rfl dX4_succeeds_131 ?_
      subst hQ
      exact e_zW C hr hk rfl (Nat.le_refl _) (Nat.le_refl _) ⟨pat, bro, mov, cnt, inp, outs, brd, mvd, got, owe, pn, pa, ph, pl, pm, pb, pfr, pto, pbf, ptr, phf, pht, pbs⟩ rfl (⟨(Or.inr (Or.inr (Or.inr (Or.inr (Or.inr (Or.inr (Or.inr ⟨⟨⟨rfl, rfl, rfl, rfl, rfl, rfl, rfl, rfl⟩, rfl, rfl⟩, rfl, (Or.inl (⟨hk9, Nat.ne_of_gt c113⟩))⟩))))))), hfr⟩) dX4_succeeds_132
    · refine r_aln (pc := 116) C 0 rfl dX4_succeeds_116 ?_
      refine r_get (pc := 117) C iX4_succeeds_X4 0 rfl rfl 1 (by decide) (mw 1 rfl) rfl rfl dX4_succeeds_117 ?_
      refine r_iln (pc := 120) C 2 rfl dX4_succeeds_120 ?_
      refine c_WVi (pc := 121) (As := [.int (nI ((gr / 100) % 100))]) (wc := [(sA, cSt fst wid mid las pat bro mov cnt sI sO sB sM sG sW), (sI, aN (cT 0) 16 inp), (sO, aN (cT 0) 16 outs), (sB, aN (cT 0) 16 brd), (sM, aN (cT 0) 16 mvd)]) (wr := [(sw, cSw sN sA ha aS aH q ra), (sG, aN (cT 0) 16 got), (sW, aN (cT 0) 16 owe), (q, cPl pn pa qf qt qb qr ph qhf qht pl pm pb qs), (qf, aN (cT 0) 16 pfr), (qt, aN (cT 0) 16 pto), (qb, aI (cT 0) 16 pbf), (qr, aI (cT 0) 16 ptr), (qhf, aN (cT 0) 4 phf), (qht, aN (cT 0) 4 pht), (qs, aI (cT 0) 16 pbs)]) (qr := 1) C hA (k_X3_endCall l D cT sA fst wid mid las pat bro mov cnt sI sO sB sM sG sW inp outs brd mvd (nI ((gr / 100) % 100)) (by first | assumption | omega)) (cwV 1 C.1.2.2.2.2 gX4_succeeds_X3_endCall rfl rfl rfl n_X3_endCall ⟨Nat.le_of_ble_eq_true rfl, Nat.le_of_ble_eq_true rfl⟩) rfl rfl [1, 2, 3, 4, 5] [0, 6, 7, 8, 9, 10, 11, 12, 13, 14, 15] rfl rfl ⟨by decide, by decide⟩ (by decide) [0, 11, 12, 13, 14, 15, 1, 2, 3, 4, 5, 6, 7, 8, 9, 10] (fun u6 => [(sw, cSw sN sA ha aS aH q ra), (sA, cSt fst wid mid las pat bro mov u6.1 sI sO sB sM sG sW), (sI, aN (cT 0) 16 u6.2.1), (sO, aN (cT 0) 16 u6.2.2.1), (sB, aN (cT 0) 16 u6.2.2.2.1), (sM, aN (cT 0) 16 u6.2.2.2.2), (sG, aN (cT 0) 16 got), (sW, aN (cT 0) 16 owe), (q, cPl pn pa qf qt qb qr ph qhf qht pl pm pb qs), (qf, aN (cT 0) 16 pfr), (qt, aN (cT 0) 16 pto), (qb, aI (cT 0) 16 pbf), (qr, aI (cT 0) 16 ptr), (qhf, aN (cT 0) 4 phf), (qht, aN (cT 0) 4 pht), (qs, aI (cT 0) 16 pbs)]) (fun _ => rfl) (by decide) rfl rfl (Nat.le_of_ble_eq_true rfl) ⟨Nat.zero_le _, Nat.zero_le _⟩ dX4_succeeds_121 (fun r121 u6 h5 => ?_)
      refine r_zlt (pc := 124) (tgt := 131) C dX4_succeeds_124 (by decide) (fun c124 => ?_) (fun c124 => ?_)
      · refine r_ic (pc := 131) (v := nI 0) C rfl dX4_succeeds_131 ?_
        subst hQ
        exact e_zW C hr hk rfl (Nat.le_refl _) (Nat.le_refl _) ⟨pat, bro, mov, u6.1, u6.2.1, u6.2.2.1, u6.2.2.2.1, u6.2.2.2.2, got, owe, pn, pa, ph, pl, pm, pb, pfr, pto, pbf, ptr, phf, pht, pbs⟩ rfl (⟨(Or.inr (Or.inr (Or.inl (⟨hk9, c113, _, h5, rfl, rfl, rfl, rfl, rfl, b01_0 c124⟩)))), hfr⟩) dX4_succeeds_132
      · refine r_ic (pc := 127) (v := nI 1) C rfl dX4_succeeds_127 ?_
        refine r_goto (pc := 128) (tgt := 132) C dX4_succeeds_128 (by decide) ?_
        subst hQ
        exact e_zW C hr hk rfl (Nat.le_refl _) (Nat.le_refl _) ⟨pat, bro, mov, u6.1, u6.2.1, u6.2.2.1, u6.2.2.2.1, u6.2.2.2.2, got, owe, pn, pa, ph, pl, pm, pb, pfr, pto, pbf, ptr, phf, pht, pbs⟩ rfl (⟨(Or.inr (Or.inr (Or.inl (⟨hk9, c113, _, h5, rfl, rfl, rfl, rfl, rfl, b01_1 c124⟩)))), hfr⟩) dX4_succeeds_132
  · refine r_v (y := nI 4) (congrArg nI hk9) ?_
    refine r_tsN (pc := 18) (tgt := 133) C (by decide) dX4_succeeds_18 (by decide) ?_
    refine r_iln (pc := 133) C 2 rfl dX4_succeeds_133 ?_
    refine r_zneN (pc := 134) (tgt := 152) C (by omega) dX4_succeeds_134 (by decide) (fun c134 => ?_) (fun c134 => ?_)
    · refine r_ic (pc := 152) (v := nI 0) C rfl dX4_succeeds_152 ?_
      subst hQ
      exact e_zW C hr hk rfl (Nat.le_refl _) (Nat.le_refl _) ⟨pat, bro, mov, cnt, inp, outs, brd, mvd, got, owe, pn, pa, ph, pl, pm, pb, pfr, pto, pbf, ptr, phf, pht, pbs⟩ rfl (⟨(Or.inr (Or.inr (Or.inr (Or.inr (Or.inr (Or.inr (Or.inr ⟨⟨⟨rfl, rfl, rfl, rfl, rfl, rfl, rfl, rfl⟩, rfl, rfl⟩, rfl, (Or.inr (Or.inl (⟨hk9, Nat.ne_of_gt c134⟩)))⟩))))))), hfr⟩) dX4_succeeds_153
    · refine r_aln (pc := 137) C 0 rfl dX4_succeeds_137 ?_
      refine r_get (pc := 138) C iX4_succeeds_X4 0 rfl rfl 1 (by decide) (mw 1 rfl) rfl rfl dX4_succeeds_138 ?_
      refine r_iln (pc := 141) C 3 rfl dX4_succeeds_141 ?_
      refine c_WVi (pc := 142) (As := [.int (nI (gr % 100))]) (wc := [(sA, cSt fst wid mid las pat bro mov cnt sI sO sB sM sG sW), (sO, aN (cT 0) 16 outs)]) (wr := [(sw, cSw sN sA ha aS aH q ra), (sI, aN (cT 0) 16 inp), (sB, aN (cT 0) 16 brd), (sM, aN (cT 0) 16 mvd), (sG, aN (cT 0) 16 got), (sW, aN (cT 0) 16 owe), (q, cPl pn pa qf qt qb qr ph qhf qht pl pm pb qs), (qf, aN (cT 0) 16 pfr), (qt, aN (cT 0) 16 pto), (qb, aI (cT 0) 16 pbf), (qr, aI (cT 0) 16 ptr), (qhf, aN (cT 0) 4 phf), (qht, aN (cT 0) 4 pht), (qs, aI (cT 0) 16 pbs)]) (qr := 1) C hA (k_X3_takeOutput l D cT sA fst wid mid las pat bro mov cnt sI sO sB sM sG sW outs (nI (gr % 100)) (by first | assumption | omega) (by first | assumption | omega) (by first | assumption | omega)) (cwV 1 C.1.2.2.2.2 gX4_succeeds_X3_takeOutput rfl rfl rfl n_X3_takeOutput ⟨Nat.le_of_ble_eq_true rfl, Nat.le_of_ble_eq_true rfl⟩) rfl rfl [1, 3] [0, 2, 4, 5, 6, 7, 8, 9, 10, 11, 12, 13, 14, 15] rfl rfl ⟨by decide, by decide⟩ (by decide) [0, 14, 1, 15, 2, 3, 4, 5, 6, 7, 8, 9, 10, 11, 12, 13] (fun u8 => [(sw, cSw sN sA ha aS aH q ra), (sA, cSt fst wid mid las pat bro mov cnt sI sO sB sM sG sW), (sI, aN (cT 0) 16 inp), (sO, aN (cT 0) 16 u8), (sB, aN (cT 0) 16 brd), (sM, aN (cT 0) 16 mvd), (sG, aN (cT 0) 16 got), (sW, aN (cT 0) 16 owe), (q, cPl pn pa qf qt qb qr ph qhf qht pl pm pb qs), (qf, aN (cT 0) 16 pfr), (qt, aN (cT 0) 16 pto), (qb, aI (cT 0) 16 pbf), (qr, aI (cT 0) 16 ptr), (qhf, aN (cT 0) 4 phf), (qht, aN (cT 0) 4 pht), (qs, aI (cT 0) 16 pbs)]) (fun _ => rfl) (by decide) rfl rfl (Nat.le_of_ble_eq_true rfl) ⟨Nat.zero_le _, Nat.zero_le _⟩ dX4_succeeds_142 (fun r142 u8 h7 => ?_)
      refine r_zlt (pc := 145) (tgt := 152) C dX4_succeeds_145 (by decide) (fun c145 => ?_) (fun c145 => ?_)
      · refine r_ic (pc := 152) (v := nI 0) C rfl dX4_succeeds_152 ?_
        subst hQ
        exact e_zW C hr hk rfl (Nat.le_refl _) (Nat.le_refl _) ⟨pat, bro, mov, cnt, inp, u8, brd, mvd, got, owe, pn, pa, ph, pl, pm, pb, pfr, pto, pbf, ptr, phf, pht, pbs⟩ rfl (⟨(Or.inr (Or.inr (Or.inr (Or.inl (⟨hk9, c134, _, h7, ⟨rfl, rfl, rfl, rfl, rfl, rfl, rfl⟩, rfl, rfl, b01_0 c145⟩))))), hfr⟩) dX4_succeeds_153
      · refine r_ic (pc := 148) (v := nI 1) C rfl dX4_succeeds_148 ?_
        refine r_goto (pc := 149) (tgt := 153) C dX4_succeeds_149 (by decide) ?_
        subst hQ
        exact e_zW C hr hk rfl (Nat.le_refl _) (Nat.le_refl _) ⟨pat, bro, mov, cnt, inp, u8, brd, mvd, got, owe, pn, pa, ph, pl, pm, pb, pfr, pto, pbf, ptr, phf, pht, pbs⟩ rfl (⟨(Or.inr (Or.inr (Or.inr (Or.inl (⟨hk9, c134, _, h7, ⟨rfl, rfl, rfl, rfl, rfl, rfl, rfl⟩, rfl, rfl, b01_1 c145⟩))))), hfr⟩) dX4_succeeds_153
  · refine r_v (y := nI 5) (congrArg nI hk9) ?_
    refine r_tsN (pc := 18) (tgt := 154) C (by decide) dX4_succeeds_18 (by decide) ?_
    refine r_iln (pc := 154) C 3 rfl dX4_succeeds_154 ?_
    refine r_zneN (pc := 155) (tgt := 197) C (by omega) dX4_succeeds_155 (by decide) (fun c155 => ?_) (fun c155 => ?_)
    · refine r_ic (pc := 197) (v := nI 0) C rfl dX4_succeeds_197 ?_
      subst hQ
      exact e_zW C hr hk rfl (Nat.le_refl _) (Nat.le_refl _) ⟨pat, bro, mov, cnt, inp, outs, brd, mvd, got, owe, pn, pa, ph, pl, pm, pb, pfr, pto, pbf, ptr, phf, pht, pbs⟩ rfl (⟨(Or.inr (Or.inr (Or.inr (Or.inr (Or.inr (Or.inr (Or.inr ⟨⟨⟨rfl, rfl, rfl, rfl, rfl, rfl, rfl, rfl⟩, rfl, rfl⟩, rfl, (Or.inr (Or.inr (Or.inl (⟨hk9, by omega⟩))))⟩))))))), hfr⟩) dX4_succeeds_198
    · refine r_iln (pc := 158) C 2 rfl dX4_succeeds_158 ?_
      refine r_bi (pc := 159) (v := nI 10) C rfl dX4_succeeds_159 ?_
      refine r_iremN (pc := 161) C (by omega) (by omega) (by omega) dX4_succeeds_161 ?_
      refine r_ic (pc := 162) (v := nI 1) C rfl dX4_succeeds_162 ?_
      refine r_cgtN (pc := 163) (tgt := 197) C (by omega) (by omega) dX4_succeeds_163 (by decide) (fun c163 => ?_) (fun c163 => ?_)
      · refine r_ic (pc := 197) (v := nI 0) C rfl dX4_succeeds_197 ?_
        subst hQ
        exact e_zW C hr hk rfl (Nat.le_refl _) (Nat.le_refl _) ⟨pat, bro, mov, cnt, inp, outs, brd, mvd, got, owe, pn, pa, ph, pl, pm, pb, pfr, pto, pbf, ptr, phf, pht, pbs⟩ rfl (⟨(Or.inr (Or.inr (Or.inr (Or.inr (Or.inr (Or.inr (Or.inr ⟨⟨⟨rfl, rfl, rfl, rfl, rfl, rfl, rfl, rfl⟩, rfl, rfl⟩, rfl, (Or.inr (Or.inr (Or.inl (⟨hk9, by omega⟩))))⟩))))))), hfr⟩) dX4_succeeds_198
      · refine r_aln (pc := 166) C 0 rfl dX4_succeeds_166 ?_
        refine r_get (pc := 167) C iX4_succeeds_X4 0 rfl rfl 1 (by decide) (mw 1 rfl) rfl rfl dX4_succeeds_167 ?_
        refine r_iln (pc := 170) C 2 rfl dX4_succeeds_170 ?_
        refine r_bi (pc := 171) (v := nI 10) C rfl dX4_succeeds_171 ?_
        refine r_idivN (pc := 173) C (by omega) (by omega) (by omega) dX4_succeeds_173 ?_
        refine r_iln (pc := 174) C 2 rfl dX4_succeeds_174 ?_
        refine r_bi (pc := 175) (v := nI 10) C rfl dX4_succeeds_175 ?_
        refine r_iremN (pc := 177) C (by omega) (by omega) (by omega) dX4_succeeds_177 ?_
        refine r_ic (pc := 178) (v := nI 1) C rfl dX4_succeeds_178 ?_
        refine r_cneN (pc := 179) (tgt := 186) C (by omega) (by omega) dX4_succeeds_179 (by decide) (fun c179 => ?_) (fun c179 => ?_)
        · refine r_ic (pc := 186) (v := nI 0) C rfl dX4_succeeds_186 ?_
          refine c_WVi (pc := 187) (As := [.int (nI (((gr / 100) % 100) / 10)), .int (nI 0)]) (wc := [(sA, cSt fst wid mid las pat bro mov cnt sI sO sB sM sG sW), (sB, aN (cT 0) 16 brd)]) (wr := [(sw, cSw sN sA ha aS aH q ra), (sI, aN (cT 0) 16 inp), (sO, aN (cT 0) 16 outs), (sM, aN (cT 0) 16 mvd), (sG, aN (cT 0) 16 got), (sW, aN (cT 0) 16 owe), (q, cPl pn pa qf qt qb qr ph qhf qht pl pm pb qs), (qf, aN (cT 0) 16 pfr), (qt, aN (cT 0) 16 pto), (qb, aI (cT 0) 16 pbf), (qr, aI (cT 0) 16 ptr), (qhf, aN (cT 0) 4 phf), (qht, aN (cT 0) 4 pht), (qs, aI (cT 0) 16 pbs)]) (qr := 1) C hA (k_X3_makeBroken l D cT sA fst wid mid las pat bro mov cnt sI sO sB sM sG sW brd (nI (((gr / 100) % 100) / 10)) 0 (by first | assumption | omega) (by first | assumption | omega) (by first | assumption | omega) (by first | assumption | omega)) (cwV 2 C.1.2.2.2.2 gX4_succeeds_X3_makeBroken rfl rfl rfl n_X3_makeBroken ⟨Nat.le_of_ble_eq_true rfl, Nat.le_of_ble_eq_true rfl⟩) rfl rfl [1, 4] [0, 2, 3, 5, 6, 7, 8, 9, 10, 11, 12, 13, 14, 15] rfl rfl ⟨by decide, by decide⟩ (by decide) [0, 14, 1, 2, 15, 3, 4, 5, 6, 7, 8, 9, 10, 11, 12, 13] (fun u10 => [(sw, cSw sN sA ha aS aH q ra), (sA, cSt fst wid mid las pat u10 mov cnt sI sO sB sM sG sW), (sI, aN (cT 0) 16 inp), (sO, aN (cT 0) 16 outs), (sB, aN (cT 0) 16 brd), (sM, aN (cT 0) 16 mvd), (sG, aN (cT 0) 16 got), (sW, aN (cT 0) 16 owe), (q, cPl pn pa qf qt qb qr ph qhf qht pl pm pb qs), (qf, aN (cT 0) 16 pfr), (qt, aN (cT 0) 16 pto), (qb, aI (cT 0) 16 pbf), (qr, aI (cT 0) 16 ptr), (qhf, aN (cT 0) 4 phf), (qht, aN (cT 0) 4 pht), (qs, aI (cT 0) 16 pbs)]) (fun _ => rfl) (by decide) rfl rfl (Nat.le_of_ble_eq_true rfl) ⟨Nat.zero_le _, Nat.zero_le _⟩ dX4_succeeds_187 (fun r187 u10 h9 => ?_)
          refine r_zlt (pc := 190) (tgt := 197) C dX4_succeeds_190 (by decide) (fun c190 => ?_) (fun c190 => ?_)
          · refine r_ic (pc := 197) (v := nI 0) C rfl dX4_succeeds_197 ?_
            subst hQ
            exact e_zW C hr hk rfl (Nat.le_refl _) (Nat.le_refl _) ⟨pat, u10, mov, cnt, inp, outs, brd, mvd, got, owe, pn, pa, ph, pl, pm, pb, pfr, pto, pbf, ptr, phf, pht, pbs⟩ rfl (⟨(Or.inr (Or.inr (Or.inr (Or.inr (Or.inl (⟨hk9, c155, by omega, _, (by rw [show gr / 100 % 100 % 10 = 0 by omega]; exact h9), ⟨rfl, rfl, rfl, rfl, rfl, rfl, rfl, rfl⟩, rfl, b01_0 c190⟩)))))), hfr⟩) dX4_succeeds_198
          · refine r_ic (pc := 193) (v := nI 1) C rfl dX4_succeeds_193 ?_
            refine r_goto (pc := 194) (tgt := 198) C dX4_succeeds_194 (by decide) ?_
            subst hQ
            exact e_zW C hr hk rfl (Nat.le_refl _) (Nat.le_refl _) ⟨pat, u10, mov, cnt, inp, outs, brd, mvd, got, owe, pn, pa, ph, pl, pm, pb, pfr, pto, pbf, ptr, phf, pht, pbs⟩ rfl (⟨(Or.inr (Or.inr (Or.inr (Or.inr (Or.inl (⟨hk9, c155, by omega, _, (by rw [show gr / 100 % 100 % 10 = 0 by omega]; exact h9), ⟨rfl, rfl, rfl, rfl, rfl, rfl, rfl, rfl⟩, rfl, b01_1 c190⟩)))))), hfr⟩) dX4_succeeds_198
        · refine r_ic (pc := 182) (v := nI 1) C rfl dX4_succeeds_182 ?_
          refine r_goto (pc := 183) (tgt := 187) C dX4_succeeds_183 (by decide) ?_
          refine c_WVi (pc := 187) (As := [.int (nI (((gr / 100) % 100) / 10)), .int (nI 1)]) (wc := [(sA, cSt fst wid mid las pat bro mov cnt sI sO sB sM sG sW), (sB, aN (cT 0) 16 brd)]) (wr := [(sw, cSw sN sA ha aS aH q ra), (sI, aN (cT 0) 16 inp), (sO, aN (cT 0) 16 outs), (sM, aN (cT 0) 16 mvd), (sG, aN (cT 0) 16 got), (sW, aN (cT 0) 16 owe), (q, cPl pn pa qf qt qb qr ph qhf qht pl pm pb qs), (qf, aN (cT 0) 16 pfr), (qt, aN (cT 0) 16 pto), (qb, aI (cT 0) 16 pbf), (qr, aI (cT 0) 16 ptr), (qhf, aN (cT 0) 4 phf), (qht, aN (cT 0) 4 pht), (qs, aI (cT 0) 16 pbs)]) (qr := 1) C hA (k_X3_makeBroken l D cT sA fst wid mid las pat bro mov cnt sI sO sB sM sG sW brd (nI (((gr / 100) % 100) / 10)) 1 (by first | assumption | omega) (by first | assumption | omega) (by first | assumption | omega) (by first | assumption | omega)) (cwV 2 C.1.2.2.2.2 gX4_succeeds_X3_makeBroken rfl rfl rfl n_X3_makeBroken ⟨Nat.le_of_ble_eq_true rfl, Nat.le_of_ble_eq_true rfl⟩) rfl rfl [1, 4] [0, 2, 3, 5, 6, 7, 8, 9, 10, 11, 12, 13, 14, 15] rfl rfl ⟨by decide, by decide⟩ (by decide) [0, 14, 1, 2, 15, 3, 4, 5, 6, 7, 8, 9, 10, 11, 12, 13] (fun u12 => [(sw, cSw sN sA ha aS aH q ra), (sA, cSt fst wid mid las pat u12 mov cnt sI sO sB sM sG sW), (sI, aN (cT 0) 16 inp), (sO, aN (cT 0) 16 outs), (sB, aN (cT 0) 16 brd), (sM, aN (cT 0) 16 mvd), (sG, aN (cT 0) 16 got), (sW, aN (cT 0) 16 owe), (q, cPl pn pa qf qt qb qr ph qhf qht pl pm pb qs), (qf, aN (cT 0) 16 pfr), (qt, aN (cT 0) 16 pto), (qb, aI (cT 0) 16 pbf), (qr, aI (cT 0) 16 ptr), (qhf, aN (cT 0) 4 phf), (qht, aN (cT 0) 4 pht), (qs, aI (cT 0) 16 pbs)]) (fun _ => rfl) (by decide) rfl rfl (Nat.le_of_ble_eq_true rfl) ⟨Nat.zero_le _, Nat.zero_le _⟩ dX4_succeeds_187 (fun r187 u12 h11 => ?_)
          refine r_zlt (pc := 190) (tgt := 197) C dX4_succeeds_190 (by decide) (fun c190 => ?_) (fun c190 => ?_)
          · refine r_ic (pc := 197) (v := nI 0) C rfl dX4_succeeds_197 ?_
            subst hQ
            exact e_zW C hr hk rfl (Nat.le_refl _) (Nat.le_refl _) ⟨pat, u12, mov, cnt, inp, outs, brd, mvd, got, owe, pn, pa, ph, pl, pm, pb, pfr, pto, pbf, ptr, phf, pht, pbs⟩ rfl (⟨(Or.inr (Or.inr (Or.inr (Or.inr (Or.inl (⟨hk9, c155, by omega, _, (by rw [show gr / 100 % 100 % 10 = 1 by omega]; exact h11), ⟨rfl, rfl, rfl, rfl, rfl, rfl, rfl, rfl⟩, rfl, b01_0 c190⟩)))))), hfr⟩) dX4_succeeds_198
          · refine r_ic (pc := 193) (v := nI 1) C rfl dX4_succeeds_193 ?_
            refine r_goto (pc := 194) (tgt := 198) C dX4_succeeds_194 (by decide) ?_
            subst hQ
            exact e_zW C hr hk rfl (Nat.le_refl _) (Nat.le_refl _) ⟨pat, u12, mov, cnt, inp, outs, brd, mvd, got, owe, pn, pa, ph, pl, pm, pb, pfr, pto, pbf, ptr, phf, pht, pbs⟩ rfl (⟨(Or.inr (Or.inr (Or.inr (Or.inr (Or.inl (⟨hk9, c155, by omega, _, (by rw [show gr / 100 % 100 % 10 = 1 by omega]; exact h11), ⟨rfl, rfl, rfl, rfl, rfl, rfl, rfl, rfl⟩, rfl, b01_1 c190⟩)))))), hfr⟩) dX4_succeeds_198
  · refine r_v (y := nI 6) (congrArg nI hk9) ?_
    refine r_tsN (pc := 18) (tgt := 199) C (by decide) dX4_succeeds_18 (by decide) ?_
    refine r_iln (pc := 199) C 2 rfl dX4_succeeds_199 ?_
    refine r_zneN (pc := 200) (tgt := 223) C (by omega) dX4_succeeds_200 (by decide) (fun c200 => ?_) (fun c200 => ?_)
    · refine r_ic (pc := 223) (v := nI 0) C rfl dX4_succeeds_223 ?_
      subst hQ
      exact e_zW C hr hk rfl (Nat.le_refl _) (Nat.le_refl _) ⟨pat, bro, mov, cnt, inp, outs, brd, mvd, got, owe, pn, pa, ph, pl, pm, pb, pfr, pto, pbf, ptr, phf, pht, pbs⟩ rfl (⟨(Or.inr (Or.inr (Or.inr (Or.inr (Or.inr (Or.inr (Or.inr ⟨⟨⟨rfl, rfl, rfl, rfl, rfl, rfl, rfl, rfl⟩, rfl, rfl⟩, rfl, (Or.inr (Or.inr (Or.inr (Or.inl (⟨hk9, by omega⟩)))))⟩))))))), hfr⟩) dX4_succeeds_224
    · refine r_iln (pc := 203) C 3 rfl dX4_succeeds_203 ?_
      refine r_ic (pc := 204) (v := nI 3) C rfl dX4_succeeds_204 ?_
      refine r_cgtN (pc := 205) (tgt := 223) C (by omega) (by omega) dX4_succeeds_205 (by decide) (fun c205 => ?_) (fun c205 => ?_)
      · refine r_ic (pc := 223) (v := nI 0) C rfl dX4_succeeds_223 ?_
        subst hQ
        exact e_zW C hr hk rfl (Nat.le_refl _) (Nat.le_refl _) ⟨pat, bro, mov, cnt, inp, outs, brd, mvd, got, owe, pn, pa, ph, pl, pm, pb, pfr, pto, pbf, ptr, phf, pht, pbs⟩ rfl (⟨(Or.inr (Or.inr (Or.inr (Or.inr (Or.inr (Or.inr (Or.inr ⟨⟨⟨rfl, rfl, rfl, rfl, rfl, rfl, rfl, rfl⟩, rfl, rfl⟩, rfl, (Or.inr (Or.inr (Or.inr (Or.inl (⟨hk9, by omega⟩)))))⟩))))))), hfr⟩) dX4_succeeds_224
      · refine r_aln (pc := 208) C 0 rfl dX4_succeeds_208 ?_
        refine r_get (pc := 209) C iX4_succeeds_X4 0 rfl rfl 1 (by decide) (mw 1 rfl) rfl rfl dX4_succeeds_209 ?_
        refine r_iln (pc := 212) C 3 rfl dX4_succeeds_212 ?_
        refine c_WVi (pc := 213) (As := [.int (nI (gr % 100))]) (wc := [(sA, cSt fst wid mid las pat bro mov cnt sI sO sB sM sG sW)]) (wr := [(sw, cSw sN sA ha aS aH q ra), (sI, aN (cT 0) 16 inp), (sO, aN (cT 0) 16 outs), (sB, aN (cT 0) 16 brd), (sM, aN (cT 0) 16 mvd), (sG, aN (cT 0) 16 got), (sW, aN (cT 0) 16 owe), (q, cPl pn pa qf qt qb qr ph qhf qht pl pm pb qs), (qf, aN (cT 0) 16 pfr), (qt, aN (cT 0) 16 pto), (qb, aI (cT 0) 16 pbf), (qr, aI (cT 0) 16 ptr), (qhf, aN (cT 0) 4 phf), (qht, aN (cT 0) 4 pht), (qs, aI (cT 0) 16 pbs)]) (qr := 1) C hA (k_X3_changePatience l D cT sA fst wid mid las pat bro mov cnt sI sO sB sM sG sW (gr % 100)) (cwV 1 C.1.2.2.2.2 gX4_succeeds_X3_changePatience rfl rfl rfl n_X3_changePatience ⟨Nat.le_of_ble_eq_true rfl, Nat.le_of_ble_eq_true rfl⟩) rfl rfl [1] [0, 2, 3, 4, 5, 6, 7, 8, 9, 10, 11, 12, 13, 14, 15] rfl rfl ⟨by decide, by decide⟩ (by decide) [0, 15, 1, 2, 3, 4, 5, 6, 7, 8, 9, 10, 11, 12, 13, 14] (fun u14 => [(sw, cSw sN sA ha aS aH q ra), (sA, cSt fst wid mid las u14 bro mov cnt sI sO sB sM sG sW), (sI, aN (cT 0) 16 inp), (sO, aN (cT 0) 16 outs), (sB, aN (cT 0) 16 brd), (sM, aN (cT 0) 16 mvd), (sG, aN (cT 0) 16 got), (sW, aN (cT 0) 16 owe), (q, cPl pn pa qf qt qb qr ph qhf qht pl pm pb qs), (qf, aN (cT 0) 16 pfr), (qt, aN (cT 0) 16 pto), (qb, aI (cT 0) 16 pbf), (qr, aI (cT 0) 16 ptr), (qhf, aN (cT 0) 4 phf), (qht, aN (cT 0) 4 pht), (qs, aI (cT 0) 16 pbs)]) (fun _ => rfl) (by decide) rfl rfl (Nat.le_of_ble_eq_true rfl) ⟨Nat.zero_le _, Nat.zero_le _⟩ dX4_succeeds_213 (fun r213 u14 h13 => ?_)
        obtain ⟨rfl, h13u⟩ := h13
        have h13u := h13u.symm
        subst h13u
        refine r_zltN (pc := 216) (tgt := 223) C (by omega) dX4_succeeds_216 (by decide) ?_
        refine r_ic (pc := 219) (v := nI 1) C rfl dX4_succeeds_219 ?_
        refine r_goto (pc := 220) (tgt := 224) C dX4_succeeds_220 (by decide) ?_
        subst hQ
        exact e_zW C hr hk rfl (Nat.le_refl _) (Nat.le_refl _) ⟨(gr % 100), bro, mov, cnt, inp, outs, brd, mvd, got, owe, pn, pa, ph, pl, pm, pb, pfr, pto, pbf, ptr, phf, pht, pbs⟩ rfl (⟨(Or.inr (Or.inr (Or.inr (Or.inr (Or.inr (Or.inl (⟨hk9, c200, by omega, rfl, rfl, ⟨rfl, rfl, rfl, rfl, rfl, rfl, rfl, rfl⟩, rfl⟩))))))), hfr⟩) dX4_succeeds_224
  · refine r_v (y := nI 7) (congrArg nI hk9) ?_
    refine r_tsN (pc := 18) (tgt := 225) C (by decide) dX4_succeeds_18 (by decide) ?_
    refine r_aln (pc := 225) C 0 rfl dX4_succeeds_225 ?_
    refine r_get (pc := 226) C iX4_succeeds_X4 0 rfl rfl 1 (by decide) (mw 1 rfl) rfl rfl dX4_succeeds_226 ?_
    refine r_iln (pc := 229) C 2 rfl dX4_succeeds_229 ?_
    refine c_RV (pc := 230) (As := [.int (nI ((gr / 100) % 100))]) (wc := [(sA, cSt fst wid mid las pat bro mov cnt sI sO sB sM sG sW)]) (qr := 1) C (k_X3_hasCall l D cT sA fst wid mid las pat bro mov cnt sI sO sB sM sG sW (nI ((gr / 100) % 100)) (by first | assumption | omega)) (cwV 1 C.1.2.2.2.2 gX4_succeeds_X3_hasCall rfl rfl rfl n_X3_hasCall ⟨Nat.le_of_ble_eq_true rfl, Nat.le_of_ble_eq_true rfl⟩) [1] rfl rfl rfl rfl rfl (Nat.le_of_ble_eq_true rfl) ⟨Nat.zero_le _, Nat.zero_le _⟩ dX4_succeeds_230 (fun r230 h15 => ?_)
    rcases h15 with ⟨rfl, h15j, h15e, h15l⟩ | ⟨rfl, h15⟩
    · have h15 : ((gr / 100) % 100) < cnt := by rw [nI_inj4 (by omega) (by omega) h15e]; exact h15l
      refine r_zeqN (pc := 233) (tgt := 253) C (by omega) dX4_succeeds_233 (by decide) (fun h => absurd h (by decide)) (fun _ => ?_)
      refine r_aln (pc := 236) C 0 rfl dX4_succeeds_236 ?_
      refine r_get (pc := 237) C iX4_succeeds_X4 0 rfl rfl 1 (by decide) (mw 1 rfl) rfl rfl dX4_succeeds_237 ?_
      refine r_get (pc := 240) C iX4_succeeds_X3 1 rfl rfl 10 (by decide) (mw 3 rfl) rfl rfl dX4_succeeds_240 ?_
      refine r_iln (pc := 243) C 2 rfl dX4_succeeds_243 ?_
      refine r_ialN (pc := 244) C 4 rfl (by omega) (by decide) dX4_succeeds_244 ?_
      refine r_iln (pc := 245) C 3 rfl dX4_succeeds_245 ?_
      refine r_cneN (pc := 246) (tgt := 253) C (by have := (h16 (gr / 100 % 100) (by omega)).2.2; omega) (by omega) dX4_succeeds_246 (by decide) (fun c246 => ?_) (fun c246 => ?_)
      · refine r_ic (pc := 253) (v := nI 0) C rfl dX4_succeeds_253 ?_
        subst hQ
        exact e_zW C hr hk rfl (Nat.le_refl _) (Nat.le_refl _) ⟨pat, bro, mov, cnt, inp, outs, brd, mvd, got, owe, pn, pa, ph, pl, pm, pb, pfr, pto, pbf, ptr, phf, pht, pbs⟩ rfl (⟨(Or.inr (Or.inr (Or.inr (Or.inr (Or.inr (Or.inr (Or.inr ⟨⟨⟨rfl, rfl, rfl, rfl, rfl, rfl, rfl, rfl⟩, rfl, rfl⟩, rfl, (Or.inr (Or.inr (Or.inr (Or.inr (Or.inl (⟨hk9, fun g => c246 g.2⟩))))))⟩))))))), hfr⟩) dX4_succeeds_254
      · refine r_ic (pc := 249) (v := nI 1) C rfl dX4_succeeds_249 ?_
        refine r_goto (pc := 250) (tgt := 254) C dX4_succeeds_250 (by decide) ?_
        subst hQ
        exact e_zW C hr hk rfl (Nat.le_refl _) (Nat.le_refl _) ⟨pat, bro, mov, cnt, inp, outs, brd, mvd, got, owe, pn, pa, ph, pl, pm, pb, pfr, pto, pbf, ptr, phf, pht, pbs⟩ rfl (⟨(Or.inr (Or.inr (Or.inr (Or.inr (Or.inr (Or.inr (Or.inl (⟨⟨⟨rfl, rfl, rfl, rfl, rfl, rfl, rfl, rfl⟩, rfl, rfl⟩, rfl, (Or.inl (⟨hk9, h15, c246⟩))⟩)))))))), hfr⟩) dX4_succeeds_254
    · have h15 : ¬ ((gr / 100) % 100) < cnt := fun g => h15 ⟨_, rfl, g⟩
      refine r_zeqN (pc := 233) (tgt := 253) C (by omega) dX4_succeeds_233 (by decide) (fun _ => ?_) (fun h => absurd h (by decide))
      refine r_ic (pc := 253) (v := nI 0) C rfl dX4_succeeds_253 ?_
      subst hQ
      exact e_zW C hr hk rfl (Nat.le_refl _) (Nat.le_refl _) ⟨pat, bro, mov, cnt, inp, outs, brd, mvd, got, owe, pn, pa, ph, pl, pm, pb, pfr, pto, pbf, ptr, phf, pht, pbs⟩ rfl (⟨(Or.inr (Or.inr (Or.inr (Or.inr (Or.inr (Or.inr (Or.inr ⟨⟨⟨rfl, rfl, rfl, rfl, rfl, rfl, rfl, rfl⟩, rfl, rfl⟩, rfl, (Or.inr (Or.inr (Or.inr (Or.inr (Or.inl (⟨hk9, fun g => h15 g.1⟩))))))⟩))))))), hfr⟩) dX4_succeeds_254
  · refine r_v (y := nI 8) (congrArg nI hk9) ?_
    refine r_tsN (pc := 18) (tgt := 255) C (by decide) dX4_succeeds_18 (by decide) ?_
    refine r_iln (pc := 255) C 2 rfl dX4_succeeds_255 ?_
    refine r_zneN (pc := 256) (tgt := 274) C (by omega) dX4_succeeds_256 (by decide) (fun c256 => ?_) (fun c256 => ?_)
    · refine r_ic (pc := 274) (v := nI 0) C rfl dX4_succeeds_274 ?_
      subst hQ
      exact e_zW C hr hk rfl (Nat.le_refl _) (Nat.le_refl _) ⟨pat, bro, mov, cnt, inp, outs, brd, mvd, got, owe, pn, pa, ph, pl, pm, pb, pfr, pto, pbf, ptr, phf, pht, pbs⟩ rfl (⟨(Or.inr (Or.inr (Or.inr (Or.inr (Or.inr (Or.inr (Or.inr ⟨⟨⟨rfl, rfl, rfl, rfl, rfl, rfl, rfl, rfl⟩, rfl, rfl⟩, rfl, (Or.inr (Or.inr (Or.inr (Or.inr (Or.inr (Or.inl (⟨hk9, by omega⟩)))))))⟩))))))), hfr⟩) dX4_succeeds_275
    · refine r_aln (pc := 259) C 0 rfl dX4_succeeds_259 ?_
      refine r_get (pc := 260) C iX4_succeeds_X4 0 rfl rfl 1 (by decide) (mw 1 rfl) rfl rfl dX4_succeeds_260 ?_
      refine c_RV (pc := 263) (As := []) (wc := [(sA, cSt fst wid mid las pat bro mov cnt sI sO sB sM sG sW), (sO, aN (cT 0) 16 outs)]) (qr := 1) C (k_X3_linksTaken l D cT sA fst wid mid las pat bro mov cnt sI sO sB sM sG sW outs (by first | assumption | omega) (by first | assumption | omega) (by first | assumption | omega) (by first | assumption | omega)) (cwV 0 C.1.2.2.2.2 gX4_succeeds_X3_linksTaken rfl rfl rfl n_X3_linksTaken ⟨Nat.le_of_ble_eq_true rfl, Nat.le_of_ble_eq_true rfl⟩) [1, 3] rfl rfl rfl rfl rfl (Nat.le_of_ble_eq_true rfl) ⟨Nat.zero_le _, Nat.zero_le _⟩ dX4_succeeds_263 (fun r263 h16 => ?_)
      subst h16
      refine r_iln (pc := 266) C 3 rfl dX4_succeeds_266 ?_
      refine r_cgtN (pc := 267) (tgt := 274) C (lk_lt hCn) (by omega) dX4_succeeds_267 (by decide) (fun c267 => ?_) (fun c267 => ?_)
      · refine r_ic (pc := 274) (v := nI 0) C rfl dX4_succeeds_274 ?_
        subst hQ
        exact e_zW C hr hk rfl (Nat.le_refl _) (Nat.le_refl _) ⟨pat, bro, mov, cnt, inp, outs, brd, mvd, got, owe, pn, pa, ph, pl, pm, pb, pfr, pto, pbf, ptr, phf, pht, pbs⟩ rfl (⟨(Or.inr (Or.inr (Or.inr (Or.inr (Or.inr (Or.inr (Or.inr ⟨⟨⟨rfl, rfl, rfl, rfl, rfl, rfl, rfl, rfl⟩, rfl, rfl⟩, rfl, (Or.inr (Or.inr (Or.inr (Or.inr (Or.inr (Or.inl (⟨hk9, by omega⟩)))))))⟩))))))), hfr⟩) dX4_succeeds_275
      · refine r_ic (pc := 270) (v := nI 1) C rfl dX4_succeeds_270 ?_
        refine r_goto (pc := 271) (tgt := 275) C dX4_succeeds_271 (by decide) ?_
        subst hQ
        exact e_zW C hr hk rfl (Nat.le_refl _) (Nat.le_refl _) ⟨pat, bro, mov, cnt, inp, outs, brd, mvd, got, owe, pn, pa, ph, pl, pm, pb, pfr, pto, pbf, ptr, phf, pht, pbs⟩ rfl (⟨(Or.inr (Or.inr (Or.inr (Or.inr (Or.inr (Or.inr (Or.inl (⟨⟨⟨rfl, rfl, rfl, rfl, rfl, rfl, rfl, rfl⟩, rfl, rfl⟩, rfl, (Or.inr (Or.inl (⟨hk9, c256, by omega⟩)))⟩)))))))), hfr⟩) dX4_succeeds_275
  · refine r_v (y := nI 9) (congrArg nI hk9) ?_
    refine r_tsN (pc := 18) (tgt := 276) C (by decide) dX4_succeeds_18 (by decide) ?_
    refine r_iln (pc := 276) C 2 rfl dX4_succeeds_276 ?_
    refine r_zneN (pc := 277) (tgt := 295) C (by omega) dX4_succeeds_277 (by decide) (fun c277 => ?_) (fun c277 => ?_)
    · refine r_ic (pc := 295) (v := nI 0) C rfl dX4_succeeds_295 ?_
      subst hQ
      exact e_zW C hr hk rfl (Nat.le_refl _) (Nat.le_refl _) ⟨pat, bro, mov, cnt, inp, outs, brd, mvd, got, owe, pn, pa, ph, pl, pm, pb, pfr, pto, pbf, ptr, phf, pht, pbs⟩ rfl (⟨(Or.inr (Or.inr (Or.inr (Or.inr (Or.inr (Or.inr (Or.inr ⟨⟨⟨rfl, rfl, rfl, rfl, rfl, rfl, rfl, rfl⟩, rfl, rfl⟩, rfl, (Or.inr (Or.inr (Or.inr (Or.inr (Or.inr (Or.inr (Or.inl (⟨hk9, by omega⟩))))))))⟩))))))), hfr⟩) dX4_succeeds_296
    · refine r_aln (pc := 280) C 0 rfl dX4_succeeds_280 ?_
      refine r_get (pc := 281) C iX4_succeeds_X4 0 rfl rfl 1 (by decide) (mw 1 rfl) rfl rfl dX4_succeeds_281 ?_
      refine r_get (pc := 284) C iX4_succeeds_X3 1 rfl rfl 7 (by decide) (mw 4 rfl) rfl rfl dX4_succeeds_284 ?_
      refine r_iln (pc := 287) C 3 rfl dX4_succeeds_287 ?_
      refine r_cltN (pc := 288) (tgt := 295) C (by omega) (by omega) dX4_succeeds_288 (by decide) (fun c288 => ?_) (fun c288 => ?_)
      · refine r_ic (pc := 295) (v := nI 0) C rfl dX4_succeeds_295 ?_
        subst hQ
        exact e_zW C hr hk rfl (Nat.le_refl _) (Nat.le_refl _) ⟨pat, bro, mov, cnt, inp, outs, brd, mvd, got, owe, pn, pa, ph, pl, pm, pb, pfr, pto, pbf, ptr, phf, pht, pbs⟩ rfl (⟨(Or.inr (Or.inr (Or.inr (Or.inr (Or.inr (Or.inr (Or.inr ⟨⟨⟨rfl, rfl, rfl, rfl, rfl, rfl, rfl, rfl⟩, rfl, rfl⟩, rfl, (Or.inr (Or.inr (Or.inr (Or.inr (Or.inr (Or.inr (Or.inl (⟨hk9, by omega⟩))))))))⟩))))))), hfr⟩) dX4_succeeds_296
      · refine r_ic (pc := 291) (v := nI 1) C rfl dX4_succeeds_291 ?_
        refine r_goto (pc := 292) (tgt := 296) C dX4_succeeds_292 (by decide) ?_
        subst hQ
        exact e_zW C hr hk rfl (Nat.le_refl _) (Nat.le_refl _) ⟨pat, bro, mov, cnt, inp, outs, brd, mvd, got, owe, pn, pa, ph, pl, pm, pb, pfr, pto, pbf, ptr, phf, pht, pbs⟩ rfl (⟨(Or.inr (Or.inr (Or.inr (Or.inr (Or.inr (Or.inr (Or.inl (⟨⟨⟨rfl, rfl, rfl, rfl, rfl, rfl, rfl, rfl⟩, rfl, rfl⟩, rfl, (Or.inr (Or.inr ⟨hk9, c277, by omega⟩))⟩)))))))), hfr⟩) dX4_succeeds_296
  · refine r_v (y := nI 0) (congrArg nI hk9) ?_
    refine r_tsN (pc := 18) (tgt := 297) C (by decide) dX4_succeeds_18 (by decide) ?_
    refine r_ic (pc := 297) (v := nI 0) C rfl dX4_succeeds_297 ?_
    subst hQ
    exact e_zW C hr hk rfl (Nat.le_refl _) (Nat.le_refl _) ⟨pat, bro, mov, cnt, inp, outs, brd, mvd, got, owe, pn, pa, ph, pl, pm, pb, pfr, pto, pbf, ptr, phf, pht, pbs⟩ rfl (⟨(Or.inr (Or.inr (Or.inr (Or.inr (Or.inr (Or.inr (Or.inr ⟨⟨⟨rfl, rfl, rfl, rfl, rfl, rfl, rfl, rfl⟩, rfl, rfl⟩, rfl, (Or.inr (Or.inr (Or.inr (Or.inr (Or.inr (Or.inr (Or.inr hk9)))))))⟩))))))), hfr⟩) dX4_succeeds_298

theorem iX4_movesOfTurn_X3 : ∀ w ∈ u_ws RX3 TX3 14, w ∈ wsX4_movesOfTurn := by decide +kernel
theorem iX4_movesOfTurn_X4 : ∀ w ∈ u_ws RX4 TX4 7, w ∈ wsX4_movesOfTurn := by decide +kernel
abbrev rmX4_movesOfTurn : Room := { frames := 28, cells := 0, slots := 0, locals := 697 }
theorem n_X4_movesOfTurn : yX4_movesOfTurn.cls = RX4 ∧ yX4_movesOfTurn.cls ≠ "java/lang/invoke/MethodHandle" ∧ yX4_movesOfTurn.cls ≠ "java/lang/invoke/VarHandle" ∧ (parseMethodDescriptor yX4_movesOfTurn.desc).map (fun d => d.parameters.length) = some 1 := by decide +kernel
set_option maxHeartbeats 4000000 in
set_option maxRecDepth 100000 in
theorem k_X4_movesOfTurn (l : Launch) (D : va_G) (cT : Nat → ClassId) (sw sN sA ha aS aH q ra fst wid mid las pat bro mov cnt sI sO sB sM sG sW : Nat) (inp outs brd mvd got owe : Nat → Nat) (pn : Nat) (pa : Int32) (qf qt qb qr ph qhf qht pl pm : Nat) (pb : Int32) (qs : Nat) (pfr pto : Nat → Nat) (pbf ptr : Nat → Int32) (phf pht : Nat → Nat) (pbs : Nat → Int32) (rr : Nat) (hI : INVq fst wid mid las pat bro cnt inp outs brd) (hfr : ∀ c, c < 16 → pfr c < 65536 ∧ pto c < 65536) (hrr : rr < 2147483648) : MWi (S := Nat × Nat × (Nat → Nat) × (Nat → Nat) × (Nat → Nat) × (Nat → Nat) × (Nat → Nat) × (Nat → Nat) × Nat × Int32 × Nat × Nat × Nat × Int32 × (Nat → Nat) × (Nat → Nat) × (Nat → Int32) × (Nat → Int32) × (Nat → Nat) × (Nat → Nat) × (Nat → Int32)) l D cT yX4_movesOfTurn wsX4_movesOfTurn rmX4_movesOfTurn [.ref sw, .int (nI rr)] [(sw, cSw sN sA ha aS aH q ra), (sA, cSt fst wid mid las pat bro mov cnt sI sO sB sM sG sW), (sI, aN (cT 0) 16 inp), (sO, aN (cT 0) 16 outs), (sB, aN (cT 0) 16 brd), (sM, aN (cT 0) 16 mvd), (sG, aN (cT 0) 16 got), (sW, aN (cT 0) 16 owe), (q, cPl pn pa qf qt qb qr ph qhf qht pl pm pb qs), (qf, aN (cT 0) 16 pfr), (qt, aN (cT 0) 16 pto), (qb, aI (cT 0) 16 pbf), (qr, aI (cT 0) 16 ptr), (qhf, aN (cT 0) 4 phf), (qht, aN (cT 0) 4 pht), (qs, aI (cT 0) 16 pbs)] (fun r u => MTq fst wid mid las pat bro mov cnt inp outs brd mvd got owe rr r u.1 u.2.1 u.2.2.1 u.2.2.2.1 u.2.2.2.2.1 u.2.2.2.2.2.1 u.2.2.2.2.2.2.1 u.2.2.2.2.2.2.2.1 ∧ (∀ c, c < 16 → u.2.2.2.2.2.2.2.2.2.2.2.2.2.2.1 c < 65536 ∧ u.2.2.2.2.2.2.2.2.2.2.2.2.2.2.2.1 c < 65536)) (fun u => [(sw, cSw sN sA ha aS aH q ra), (sA, cSt fst wid mid las pat bro u.1 u.2.1 sI sO sB sM sG sW), (sI, aN (cT 0) 16 u.2.2.1), (sO, aN (cT 0) 16 u.2.2.2.1), (sB, aN (cT 0) 16 u.2.2.2.2.1), (sM, aN (cT 0) 16 u.2.2.2.2.2.1), (sG, aN (cT 0) 16 u.2.2.2.2.2.2.1), (sW, aN (cT 0) 16 u.2.2.2.2.2.2.2.1), (q, cPl u.2.2.2.2.2.2.2.2.1 u.2.2.2.2.2.2.2.2.2.1 qf qt qb qr u.2.2.2.2.2.2.2.2.2.2.1 qhf qht u.2.2.2.2.2.2.2.2.2.2.2.1 u.2.2.2.2.2.2.2.2.2.2.2.2.1 u.2.2.2.2.2.2.2.2.2.2.2.2.2.1 qs), (qf, aN (cT 0) 16 u.2.2.2.2.2.2.2.2.2.2.2.2.2.2.1), (qt, aN (cT 0) 16 u.2.2.2.2.2.2.2.2.2.2.2.2.2.2.2.1), (qb, aI (cT 0) 16 u.2.2.2.2.2.2.2.2.2.2.2.2.2.2.2.2.1), (qr, aI (cT 0) 16 u.2.2.2.2.2.2.2.2.2.2.2.2.2.2.2.2.2.1), (qhf, aN (cT 0) 4 u.2.2.2.2.2.2.2.2.2.2.2.2.2.2.2.2.2.2.1), (qht, aN (cT 0) 4 u.2.2.2.2.2.2.2.2.2.2.2.2.2.2.2.2.2.2.2.1), (qs, aI (cT 0) 16 u.2.2.2.2.2.2.2.2.2.2.2.2.2.2.2.2.2.2.2.2)]) 0 0 := by
  refine m_Wi [(0, .ref sw), (1, .int (nI rr))] (by decide +kernel) rfl (Nat.le_of_ble_eq_true rfl) rfl ?_
  intro p e s m args below meth c A hAe C hA hr hk hnm_
  generalize hQ : MQ below (va_Qi _ _ A) args s 0 0 A = Q
  obtain ⟨⟨hF1, hF4⟩, ⟨hW1, hW2⟩, ⟨hM1, hM4⟩, ⟨hL1, hL4⟩, hPa, hB0, hCn, h16, hcc, hcd, hok⟩ := id hI
  have hIn : ∀ c, c < 16 → inp c < 16 := fun c hc => (h16 c hc).1
  have hOu : ∀ c, c < 16 → outs c < 65536 := fun c hc => (h16 c hc).2.1
  have hBo : ∀ c, c < 16 → brd c < 4 := fun c hc => (h16 c hc).2.2
  have hFW : fst * wid ≤ 16 := mul16 hF4 hW2
  have hLW : las * wid ≤ 16 := mul16 hL4 hW2
  have hb2 : bro < 16 := Nat.lt_of_lt_of_le hB0 (Nat.pow_le_pow_right (by decide) hM4)
  refine r_iln (pc := 0) C 1 rfl dX4_movesOfTurn_0 ?_
  refine r_bi (pc := 1) (v := nI 8) C rfl dX4_movesOfTurn_1 ?_
  refine r_idivN (pc := 3) C (by omega) (by omega) (by omega) dX4_movesOfTurn_3 ?_
  refine r_aln (pc := 4) C 0 rfl dX4_movesOfTurn_4 ?_
  refine r_get (pc := 5) C iX4_movesOfTurn_X4 0 rfl rfl 1 (by decide) (mw 1 rfl) rfl rfl dX4_movesOfTurn_5 ?_
  refine c_RV (pc := 8) (As := []) (wc := [(sA, cSt fst wid mid las pat bro mov cnt sI sO sB sM sG sW)]) (qr := 1) C (k_X3_inputs l D cT sA fst wid mid las pat bro mov cnt sI sO sB sM sG sW) (cwV 0 C.1.2.2.2.2 gX4_movesOfTurn_X3_inputs rfl rfl rfl n_X3_inputs ⟨Nat.le_of_ble_eq_true rfl, Nat.le_of_ble_eq_true rfl⟩) [1] rfl rfl rfl rfl rfl (Nat.le_of_ble_eq_true rfl) ⟨Nat.zero_le _, Nat.zero_le _⟩ dX4_movesOfTurn_8 (fun r8 h1 => ?_)
  subst h1
  refine c_RS (pc := 11) (As := [.int (nI (rr / 8)), .int (nI (fst * wid))]) (wc := [])  C (k_X4_rest l D cT (rr / 8) (fst * wid) (by first | assumption | omega) (by first | assumption | omega)) (va_cwS 2 C.1.2.2.2.2 gX4_movesOfTurn_X4_rest rfl rfl rfl n_X4_rest ⟨Nat.le_of_ble_eq_true rfl, Nat.le_of_ble_eq_true rfl⟩) [] rfl rfl rfl (Nat.le_of_ble_eq_true rfl) ⟨Nat.zero_le _, Nat.zero_le _⟩ dX4_movesOfTurn_11 (fun r11 h2 => ?_)
  subst h2
  refine r_isn (pc := 14) C [1, 2, 0] [(0, .ref sw), (1, .int (nI rr)), (2, .int (nI (if 0 < (fst * wid) then (rr / 8) % (fst * wid) else 0)))] rfl (by decide) rfl dX4_movesOfTurn_14 ?_
  refine r_iln (pc := 15) C 1 rfl dX4_movesOfTurn_15 ?_
  refine r_si (pc := 16) (v := nI 128) C rfl dX4_movesOfTurn_16 ?_
  refine r_idivN (pc := 19) C (by omega) (by omega) (by omega) dX4_movesOfTurn_19 ?_
  refine r_aln (pc := 20) C 0 rfl dX4_movesOfTurn_20 ?_
  refine r_get (pc := 21) C iX4_movesOfTurn_X4 0 rfl rfl 1 (by decide) (mw 1 rfl) rfl rfl dX4_movesOfTurn_21 ?_
  refine r_aln (pc := 24) C 0 rfl dX4_movesOfTurn_24 ?_
  refine r_get (pc := 25) C iX4_movesOfTurn_X4 0 rfl rfl 1 (by decide) (mw 1 rfl) rfl rfl dX4_movesOfTurn_25 ?_
  refine r_get (pc := 28) C iX4_movesOfTurn_X3 1 rfl rfl 3 (by decide) (mw 2 rfl) rfl rfl dX4_movesOfTurn_28 ?_
  refine c_RV (pc := 31) (As := [.int (nI las)]) (wc := [(sA, cSt fst wid mid las pat bro mov cnt sI sO sB sM sG sW)]) (qr := 1) C (k_X3_places l D cT sA fst wid mid las pat bro mov cnt sI sO sB sM sG sW las) (cwV 1 C.1.2.2.2.2 gX4_movesOfTurn_X3_places rfl rfl rfl n_X3_places ⟨Nat.le_of_ble_eq_true rfl, Nat.le_of_ble_eq_true rfl⟩) [1] rfl rfl rfl rfl rfl (Nat.le_of_ble_eq_true rfl) ⟨Nat.zero_le _, Nat.zero_le _⟩ dX4_movesOfTurn_31 (fun r31 h3 => ?_)
  subst h3
  refine c_RS (pc := 34) (As := [.int (nI (rr / 128)), .int (nI (las * wid))]) (wc := [])  C (k_X4_rest l D cT (rr / 128) (las * wid) (by first | assumption | omega) (by first | assumption | omega)) (va_cwS 2 C.1.2.2.2.2 gX4_movesOfTurn_X4_rest rfl rfl rfl n_X4_rest ⟨Nat.le_of_ble_eq_true rfl, Nat.le_of_ble_eq_true rfl⟩) [] rfl rfl rfl (Nat.le_of_ble_eq_true rfl) ⟨Nat.zero_le _, Nat.zero_le _⟩ dX4_movesOfTurn_34 (fun r34 h4 => ?_)
  subst h4
  refine r_isn (pc := 37) C [1, 2, 3, 0] [(0, .ref sw), (1, .int (nI rr)), (2, .int (nI (if 0 < (fst * wid) then (rr / 8) % (fst * wid) else 0))), (3, .int (nI (if 0 < (las * wid) then (rr / 128) % (las * wid) else 0)))] rfl (by decide) rfl dX4_movesOfTurn_37 ?_
  refine r_iln (pc := 38) C 1 rfl dX4_movesOfTurn_38 ?_
  refine r_bi (pc := 39) (v := nI 8) C rfl dX4_movesOfTurn_39 ?_
  refine r_idivN (pc := 41) C (by omega) (by omega) (by omega) dX4_movesOfTurn_41 ?_
  refine r_aln (pc := 42) C 0 rfl dX4_movesOfTurn_42 ?_
  refine r_get (pc := 43) C iX4_movesOfTurn_X4 0 rfl rfl 1 (by decide) (mw 1 rfl) rfl rfl dX4_movesOfTurn_43 ?_
  refine r_get (pc := 46) C iX4_movesOfTurn_X3 1 rfl rfl 7 (by decide) (mw 3 rfl) rfl rfl dX4_movesOfTurn_46 ?_
  refine c_RS (pc := 49) (As := [.int (nI (rr / 8)), .int (nI cnt)]) (wc := [])  C (k_X4_rest l D cT (rr / 8) cnt (by first | assumption | omega) (by first | assumption | omega)) (va_cwS 2 C.1.2.2.2.2 gX4_movesOfTurn_X4_rest rfl rfl rfl n_X4_rest ⟨Nat.le_of_ble_eq_true rfl, Nat.le_of_ble_eq_true rfl⟩) [] rfl rfl rfl (Nat.le_of_ble_eq_true rfl) ⟨Nat.zero_le _, Nat.zero_le _⟩ dX4_movesOfTurn_49 (fun r49 h5 => ?_)
  subst h5
  refine r_is (pc := 52) C [1, 2, 3, 4, 0] [(0, .ref sw), (1, .int (nI rr)), (2, .int (nI (if 0 < (fst * wid) then (rr / 8) % (fst * wid) else 0))), (3, .int (nI (if 0 < (las * wid) then (rr / 128) % (las * wid) else 0))), (4, .int (nI (if 0 < cnt then (rr / 8) % cnt else 0)))] (by decide) rfl dX4_movesOfTurn_52 ?_
  refine r_iln (pc := 54) C 1 rfl dX4_movesOfTurn_54 ?_
  refine r_bi (pc := 55) (v := nI 8) C rfl dX4_movesOfTurn_55 ?_
  refine r_iremN (pc := 57) C (by omega) (by omega) (by omega) dX4_movesOfTurn_57 ?_
  rcases mt_cases rr with hk9 | hk9 | hk9 | hk9 | hk9
  · refine r_v (y := nI 4) (congrArg nI hk9) ?_
    refine r_tsN (pc := 58) (tgt := 88) C (by decide) dX4_movesOfTurn_58 (by decide) ?_
    refine r_ic (pc := 88) (v := nI 0) C rfl dX4_movesOfTurn_88 ?_
    refine r_aln (pc := 89) C 0 rfl dX4_movesOfTurn_89 ?_
    refine r_get (pc := 90) C iX4_movesOfTurn_X4 0 rfl rfl 1 (by decide) (mw 1 rfl) rfl rfl dX4_movesOfTurn_90 ?_
    refine r_aln (pc := 93) C 0 rfl dX4_movesOfTurn_93 ?_
    refine r_get (pc := 94) C iX4_movesOfTurn_X4 0 rfl rfl 5 (by decide) (mw 4 rfl) rfl rfl dX4_movesOfTurn_94 ?_
    refine r_il (pc := 97) C 4 rfl dX4_movesOfTurn_97 ?_
    refine r_iln (pc := 99) C 3 rfl dX4_movesOfTurn_99 ?_
    refine c_WVi (pc := 100) (As := [.ref q, .int (nI (if 0 < cnt then (rr / 8) % cnt else 0)), .int (nI (if 0 < (las * wid) then (rr / 128) % (las * wid) else 0))]) (wc := [(sA, cSt fst wid mid las pat bro mov cnt sI sO sB sM sG sW), (sI, aN (cT 0) 16 inp), (sO, aN (cT 0) 16 outs), (sB, aN (cT 0) 16 brd), (sM, aN (cT 0) 16 mvd), (sG, aN (cT 0) 16 got), (sW, aN (cT 0) 16 owe), (q, cPl pn pa qf qt qb qr ph qhf qht pl pm pb qs), (qf, aN (cT 0) 16 pfr), (qt, aN (cT 0) 16 pto), (qb, aI (cT 0) 16 pbf), (qr, aI (cT 0) 16 ptr), (qhf, aN (cT 0) 4 phf), (qht, aN (cT 0) 4 pht), (qs, aI (cT 0) 16 pbs)]) (wr := [(sw, cSw sN sA ha aS aH q ra)]) (qr := 1) C hA (k_X3_addOutput l D cT sA fst wid mid las pat bro mov cnt sI sO sB sM sG sW inp outs brd mvd got owe q pn pa qf qt qb qr ph qhf qht pl pm pb qs pfr pto pbf ptr phf pht pbs (nI (if 0 < cnt then (rr / 8) % cnt else 0)) (nI (if 0 < (las * wid) then (rr / 128) % (las * wid) else 0)) (by first | assumption | omega) (by first | assumption | omega) (by first | assumption | omega) (by first | assumption | omega) (by first | assumption | omega) (by first | assumption | omega) (by first | assumption | omega) (by first | assumption | omega) (by first | assumption | omega) (by first | assumption | omega) (by first | assumption | omega) (by first | assumption | omega) (by first | assumption | omega) (by first | assumption | omega)) (cwV 3 C.1.2.2.2.2 gX4_movesOfTurn_X3_addOutput rfl rfl rfl n_X3_addOutput ⟨Nat.le_of_ble_eq_true rfl, Nat.le_of_ble_eq_true rfl⟩) rfl rfl [1, 2, 3, 4, 5, 6, 7, 8, 9, 10, 11, 12, 13, 14, 15] [0] rfl rfl ⟨by decide, by decide⟩ (by decide) [0, 1, 2, 3, 4, 5, 6, 7, 8, 9, 10, 11, 12, 13, 14, 15] (fun u7 => [(sw, cSw sN sA ha aS aH q ra), (sA, cSt fst wid mid las pat bro u7.1 u7.2.1 sI sO sB sM sG sW), (sI, aN (cT 0) 16 u7.2.2.1), (sO, aN (cT 0) 16 u7.2.2.2.1), (sB, aN (cT 0) 16 u7.2.2.2.2.1), (sM, aN (cT 0) 16 u7.2.2.2.2.2.1), (sG, aN (cT 0) 16 u7.2.2.2.2.2.2.1), (sW, aN (cT 0) 16 u7.2.2.2.2.2.2.2.1), (q, cPl u7.2.2.2.2.2.2.2.2.1 u7.2.2.2.2.2.2.2.2.2.1 qf qt qb qr u7.2.2.2.2.2.2.2.2.2.2.1 qhf qht u7.2.2.2.2.2.2.2.2.2.2.2.1 u7.2.2.2.2.2.2.2.2.2.2.2.2.1 u7.2.2.2.2.2.2.2.2.2.2.2.2.2.1 qs), (qf, aN (cT 0) 16 u7.2.2.2.2.2.2.2.2.2.2.2.2.2.2.1), (qt, aN (cT 0) 16 u7.2.2.2.2.2.2.2.2.2.2.2.2.2.2.2.1), (qb, aI (cT 0) 16 u7.2.2.2.2.2.2.2.2.2.2.2.2.2.2.2.2.1), (qr, aI (cT 0) 16 u7.2.2.2.2.2.2.2.2.2.2.2.2.2.2.2.2.2.1), (qhf, aN (cT 0) 4 u7.2.2.2.2.2.2.2.2.2.2.2.2.2.2.2.2.2.2.1), (qht, aN (cT 0) 4 u7.2.2.2.2.2.2.2.2.2.2.2.2.2.2.2.2.2.2.2.1), (qs, aI (cT 0) 16 u7.2.2.2.2.2.2.2.2.2.2.2.2.2.2.2.2.2.2.2.2)]) (fun _ => rfl) (by decide) rfl rfl (Nat.le_of_ble_eq_true rfl) ⟨Nat.zero_le _, Nat.zero_le _⟩ dX4_movesOfTurn_100 (fun r100 u7 h6 => ?_)
    refine r_mmax (pc := 103) (v := (mx0 r100)) C (mw 5 rfl) (mw 6 rfl) (mw 7 rfl) (mw 8 rfl) (Nat.le_of_ble_eq_true rfl) (Nat.le_of_ble_eq_true rfl) ⟨Nat.zero_le _, Nat.zero_le _⟩ rfl dX4_movesOfTurn_103 ?_
    subst hQ
    exact e_iW C hr hk (Nat.le_refl _) (Nat.le_refl _) ⟨u7.1, u7.2.1, u7.2.2.1, u7.2.2.2.1, u7.2.2.2.2.1, u7.2.2.2.2.2.1, u7.2.2.2.2.2.2.1, u7.2.2.2.2.2.2.2.1, u7.2.2.2.2.2.2.2.2.1, u7.2.2.2.2.2.2.2.2.2.1, u7.2.2.2.2.2.2.2.2.2.2.1, u7.2.2.2.2.2.2.2.2.2.2.2.1, u7.2.2.2.2.2.2.2.2.2.2.2.2.1, u7.2.2.2.2.2.2.2.2.2.2.2.2.2.1, u7.2.2.2.2.2.2.2.2.2.2.2.2.2.2.1, u7.2.2.2.2.2.2.2.2.2.2.2.2.2.2.2.1, u7.2.2.2.2.2.2.2.2.2.2.2.2.2.2.2.2.1, u7.2.2.2.2.2.2.2.2.2.2.2.2.2.2.2.2.2.1, u7.2.2.2.2.2.2.2.2.2.2.2.2.2.2.2.2.2.2.1, u7.2.2.2.2.2.2.2.2.2.2.2.2.2.2.2.2.2.2.2.1, u7.2.2.2.2.2.2.2.2.2.2.2.2.2.2.2.2.2.2.2.2⟩ rfl (⟨Or.inl ⟨hk9, _, h6.1, rfl⟩, h6.2⟩) dX4_movesOfTurn_106
  · refine r_v (y := nI 5) (congrArg nI hk9) ?_
    refine r_tsN (pc := 58) (tgt := 107) C (by decide) dX4_movesOfTurn_58 (by decide) ?_
    refine r_aln (pc := 107) C 0 rfl dX4_movesOfTurn_107 ?_
    refine r_get (pc := 108) C iX4_movesOfTurn_X4 0 rfl rfl 1 (by decide) (mw 1 rfl) rfl rfl dX4_movesOfTurn_108 ?_
    refine r_il (pc := 111) C 4 rfl dX4_movesOfTurn_111 ?_
    refine c_WVi (pc := 113) (As := [.int (nI (if 0 < cnt then (rr / 8) % cnt else 0))]) (wc := [(sA, cSt fst wid mid las pat bro mov cnt sI sO sB sM sG sW), (sI, aN (cT 0) 16 inp), (sO, aN (cT 0) 16 outs), (sB, aN (cT 0) 16 brd), (sM, aN (cT 0) 16 mvd)]) (wr := [(sw, cSw sN sA ha aS aH q ra), (sG, aN (cT 0) 16 got), (sW, aN (cT 0) 16 owe), (q, cPl pn pa qf qt qb qr ph qhf qht pl pm pb qs), (qf, aN (cT 0) 16 pfr), (qt, aN (cT 0) 16 pto), (qb, aI (cT 0) 16 pbf), (qr, aI (cT 0) 16 ptr), (qhf, aN (cT 0) 4 phf), (qht, aN (cT 0) 4 pht), (qs, aI (cT 0) 16 pbs)]) (qr := 1) C hA (k_X3_endCall l D cT sA fst wid mid las pat bro mov cnt sI sO sB sM sG sW inp outs brd mvd (nI (if 0 < cnt then (rr / 8) % cnt else 0)) (by first | assumption | omega)) (cwV 1 C.1.2.2.2.2 gX4_movesOfTurn_X3_endCall rfl rfl rfl n_X3_endCall ⟨Nat.le_of_ble_eq_true rfl, Nat.le_of_ble_eq_true rfl⟩) rfl rfl [1, 2, 3, 4, 5] [0, 6, 7, 8, 9, 10, 11, 12, 13, 14, 15] rfl rfl ⟨by decide, by decide⟩ (by decide) [0, 11, 12, 13, 14, 15, 1, 2, 3, 4, 5, 6, 7, 8, 9, 10] (fun u9 => [(sw, cSw sN sA ha aS aH q ra), (sA, cSt fst wid mid las pat bro mov u9.1 sI sO sB sM sG sW), (sI, aN (cT 0) 16 u9.2.1), (sO, aN (cT 0) 16 u9.2.2.1), (sB, aN (cT 0) 16 u9.2.2.2.1), (sM, aN (cT 0) 16 u9.2.2.2.2), (sG, aN (cT 0) 16 got), (sW, aN (cT 0) 16 owe), (q, cPl pn pa qf qt qb qr ph qhf qht pl pm pb qs), (qf, aN (cT 0) 16 pfr), (qt, aN (cT 0) 16 pto), (qb, aI (cT 0) 16 pbf), (qr, aI (cT 0) 16 ptr), (qhf, aN (cT 0) 4 phf), (qht, aN (cT 0) 4 pht), (qs, aI (cT 0) 16 pbs)]) (fun _ => rfl) (by decide) rfl rfl (Nat.le_of_ble_eq_true rfl) ⟨Nat.zero_le _, Nat.zero_le _⟩ dX4_movesOfTurn_113 (fun r113 u9 h8 => ?_)
    refine r_pop (pc := 116) C rfl dX4_movesOfTurn_116 ?_
    refine r_ic (pc := 117) (v := nI 0) C rfl dX4_movesOfTurn_117 ?_
    subst hQ
    exact e_iW C hr hk (Nat.le_refl _) (Nat.le_refl _) ⟨mov, u9.1, u9.2.1, u9.2.2.1, u9.2.2.2.1, u9.2.2.2.2, got, owe, pn, pa, ph, pl, pm, pb, pfr, pto, pbf, ptr, phf, pht, pbs⟩ rfl (⟨Or.inr (Or.inl ⟨Or.inl hk9, _, h8, rfl, rfl, rfl, rfl⟩), hfr⟩) dX4_movesOfTurn_118
  · refine r_v (y := nI 6) (congrArg nI hk9) ?_
    refine r_tsN (pc := 58) (tgt := 107) C (by decide) dX4_movesOfTurn_58 (by decide) ?_
    refine r_aln (pc := 107) C 0 rfl dX4_movesOfTurn_107 ?_
    refine r_get (pc := 108) C iX4_movesOfTurn_X4 0 rfl rfl 1 (by decide) (mw 1 rfl) rfl rfl dX4_movesOfTurn_108 ?_
    refine r_il (pc := 111) C 4 rfl dX4_movesOfTurn_111 ?_
    refine c_WVi (pc := 113) (As := [.int (nI (if 0 < cnt then (rr / 8) % cnt else 0))]) (wc := [(sA, cSt fst wid mid las pat bro mov cnt sI sO sB sM sG sW), (sI, aN (cT 0) 16 inp), (sO, aN (cT 0) 16 outs), (sB, aN (cT 0) 16 brd), (sM, aN (cT 0) 16 mvd)]) (wr := [(sw, cSw sN sA ha aS aH q ra), (sG, aN (cT 0) 16 got), (sW, aN (cT 0) 16 owe), (q, cPl pn pa qf qt qb qr ph qhf qht pl pm pb qs), (qf, aN (cT 0) 16 pfr), (qt, aN (cT 0) 16 pto), (qb, aI (cT 0) 16 pbf), (qr, aI (cT 0) 16 ptr), (qhf, aN (cT 0) 4 phf), (qht, aN (cT 0) 4 pht), (qs, aI (cT 0) 16 pbs)]) (qr := 1) C hA (k_X3_endCall l D cT sA fst wid mid las pat bro mov cnt sI sO sB sM sG sW inp outs brd mvd (nI (if 0 < cnt then (rr / 8) % cnt else 0)) (by first | assumption | omega)) (cwV 1 C.1.2.2.2.2 gX4_movesOfTurn_X3_endCall rfl rfl rfl n_X3_endCall ⟨Nat.le_of_ble_eq_true rfl, Nat.le_of_ble_eq_true rfl⟩) rfl rfl [1, 2, 3, 4, 5] [0, 6, 7, 8, 9, 10, 11, 12, 13, 14, 15] rfl rfl ⟨by decide, by decide⟩ (by decide) [0, 11, 12, 13, 14, 15, 1, 2, 3, 4, 5, 6, 7, 8, 9, 10] (fun u11 => [(sw, cSw sN sA ha aS aH q ra), (sA, cSt fst wid mid las pat bro mov u11.1 sI sO sB sM sG sW), (sI, aN (cT 0) 16 u11.2.1), (sO, aN (cT 0) 16 u11.2.2.1), (sB, aN (cT 0) 16 u11.2.2.2.1), (sM, aN (cT 0) 16 u11.2.2.2.2), (sG, aN (cT 0) 16 got), (sW, aN (cT 0) 16 owe), (q, cPl pn pa qf qt qb qr ph qhf qht pl pm pb qs), (qf, aN (cT 0) 16 pfr), (qt, aN (cT 0) 16 pto), (qb, aI (cT 0) 16 pbf), (qr, aI (cT 0) 16 ptr), (qhf, aN (cT 0) 4 phf), (qht, aN (cT 0) 4 pht), (qs, aI (cT 0) 16 pbs)]) (fun _ => rfl) (by decide) rfl rfl (Nat.le_of_ble_eq_true rfl) ⟨Nat.zero_le _, Nat.zero_le _⟩ dX4_movesOfTurn_113 (fun r113 u11 h10 => ?_)
    refine r_pop (pc := 116) C rfl dX4_movesOfTurn_116 ?_
    refine r_ic (pc := 117) (v := nI 0) C rfl dX4_movesOfTurn_117 ?_
    subst hQ
    exact e_iW C hr hk (Nat.le_refl _) (Nat.le_refl _) ⟨mov, u11.1, u11.2.1, u11.2.2.1, u11.2.2.2.1, u11.2.2.2.2, got, owe, pn, pa, ph, pl, pm, pb, pfr, pto, pbf, ptr, phf, pht, pbs⟩ rfl (⟨Or.inr (Or.inl ⟨Or.inr hk9, _, h10, rfl, rfl, rfl, rfl⟩), hfr⟩) dX4_movesOfTurn_118
  · refine r_v (y := nI 7) (congrArg nI hk9) ?_
    refine r_tsN (pc := 58) (tgt := 119) C (by decide) dX4_movesOfTurn_58 (by decide) ?_
    refine r_aln (pc := 119) C 0 rfl dX4_movesOfTurn_119 ?_
    refine r_get (pc := 120) C iX4_movesOfTurn_X4 0 rfl rfl 1 (by decide) (mw 1 rfl) rfl rfl dX4_movesOfTurn_120 ?_
    refine r_iln (pc := 123) C 3 rfl dX4_movesOfTurn_123 ?_
    refine c_WVi (pc := 124) (As := [.int (nI (if 0 < (las * wid) then (rr / 128) % (las * wid) else 0))]) (wc := [(sA, cSt fst wid mid las pat bro mov cnt sI sO sB sM sG sW), (sO, aN (cT 0) 16 outs)]) (wr := [(sw, cSw sN sA ha aS aH q ra), (sI, aN (cT 0) 16 inp), (sB, aN (cT 0) 16 brd), (sM, aN (cT 0) 16 mvd), (sG, aN (cT 0) 16 got), (sW, aN (cT 0) 16 owe), (q, cPl pn pa qf qt qb qr ph qhf qht pl pm pb qs), (qf, aN (cT 0) 16 pfr), (qt, aN (cT 0) 16 pto), (qb, aI (cT 0) 16 pbf), (qr, aI (cT 0) 16 ptr), (qhf, aN (cT 0) 4 phf), (qht, aN (cT 0) 4 pht), (qs, aI (cT 0) 16 pbs)]) (qr := 1) C hA (k_X3_takeOutput l D cT sA fst wid mid las pat bro mov cnt sI sO sB sM sG sW outs (nI (if 0 < (las * wid) then (rr / 128) % (las * wid) else 0)) (by first | assumption | omega) (by first | assumption | omega) (by first | assumption | omega)) (cwV 1 C.1.2.2.2.2 gX4_movesOfTurn_X3_takeOutput rfl rfl rfl n_X3_takeOutput ⟨Nat.le_of_ble_eq_true rfl, Nat.le_of_ble_eq_true rfl⟩) rfl rfl [1, 3] [0, 2, 4, 5, 6, 7, 8, 9, 10, 11, 12, 13, 14, 15] rfl rfl ⟨by decide, by decide⟩ (by decide) [0, 14, 1, 15, 2, 3, 4, 5, 6, 7, 8, 9, 10, 11, 12, 13] (fun u13 => [(sw, cSw sN sA ha aS aH q ra), (sA, cSt fst wid mid las pat bro mov cnt sI sO sB sM sG sW), (sI, aN (cT 0) 16 inp), (sO, aN (cT 0) 16 u13), (sB, aN (cT 0) 16 brd), (sM, aN (cT 0) 16 mvd), (sG, aN (cT 0) 16 got), (sW, aN (cT 0) 16 owe), (q, cPl pn pa qf qt qb qr ph qhf qht pl pm pb qs), (qf, aN (cT 0) 16 pfr), (qt, aN (cT 0) 16 pto), (qb, aI (cT 0) 16 pbf), (qr, aI (cT 0) 16 ptr), (qhf, aN (cT 0) 4 phf), (qht, aN (cT 0) 4 pht), (qs, aI (cT 0) 16 pbs)]) (fun _ => rfl) (by decide) rfl rfl (Nat.le_of_ble_eq_true rfl) ⟨Nat.zero_le _, Nat.zero_le _⟩ dX4_movesOfTurn_124 (fun r124 u13 h12 => ?_)
    refine r_pop (pc := 127) C rfl dX4_movesOfTurn_127 ?_
    refine r_ic (pc := 128) (v := nI 0) C rfl dX4_movesOfTurn_128 ?_
    subst hQ
    exact e_iW C hr hk (Nat.le_refl _) (Nat.le_refl _) ⟨mov, cnt, inp, u13, brd, mvd, got, owe, pn, pa, ph, pl, pm, pb, pfr, pto, pbf, ptr, phf, pht, pbs⟩ rfl (⟨Or.inr (Or.inr (Or.inl ⟨hk9, _, h12, ⟨rfl, rfl, rfl, rfl, rfl, rfl, rfl⟩, rfl⟩)), hfr⟩) dX4_movesOfTurn_129
  · refine r_tsN (pc := 58) (tgt := 130) C (by omega) dX4_movesOfTurn_58 (mt_lt hk9) ?_
    refine r_ic (pc := 130) (v := nI 0) C rfl dX4_movesOfTurn_130 ?_
    refine r_aln (pc := 131) C 0 rfl dX4_movesOfTurn_131 ?_
    refine r_get (pc := 132) C iX4_movesOfTurn_X4 0 rfl rfl 1 (by decide) (mw 1 rfl) rfl rfl dX4_movesOfTurn_132 ?_
    refine r_aln (pc := 135) C 0 rfl dX4_movesOfTurn_135 ?_
    refine r_get (pc := 136) C iX4_movesOfTurn_X4 0 rfl rfl 5 (by decide) (mw 4 rfl) rfl rfl dX4_movesOfTurn_136 ?_
    refine r_iln (pc := 139) C 2 rfl dX4_movesOfTurn_139 ?_
    refine r_iln (pc := 140) C 3 rfl dX4_movesOfTurn_140 ?_
    refine c_WVi (pc := 141) (As := [.ref q, .int (nI (if 0 < (fst * wid) then (rr / 8) % (fst * wid) else 0)), .int (nI (if 0 < (las * wid) then (rr / 128) % (las * wid) else 0))]) (wc := [(sA, cSt fst wid mid las pat bro mov cnt sI sO sB sM sG sW), (sI, aN (cT 0) 16 inp), (sO, aN (cT 0) 16 outs), (sB, aN (cT 0) 16 brd), (sM, aN (cT 0) 16 mvd), (sG, aN (cT 0) 16 got), (sW, aN (cT 0) 16 owe), (q, cPl pn pa qf qt qb qr ph qhf qht pl pm pb qs), (qf, aN (cT 0) 16 pfr), (qt, aN (cT 0) 16 pto), (qb, aI (cT 0) 16 pbf), (qr, aI (cT 0) 16 ptr), (qhf, aN (cT 0) 4 phf), (qht, aN (cT 0) 4 pht), (qs, aI (cT 0) 16 pbs)]) (wr := [(sw, cSw sN sA ha aS aH q ra)]) (qr := 1) C hA (k_X3_addCall l D cT sA fst wid mid las pat bro mov cnt sI sO sB sM sG sW inp outs brd mvd got owe q pn pa qf qt qb qr ph qhf qht pl pm pb qs pfr pto pbf ptr phf pht pbs (nI (if 0 < (fst * wid) then (rr / 8) % (fst * wid) else 0)) (nI (if 0 < (las * wid) then (rr / 128) % (las * wid) else 0)) (by first | assumption | omega) (by first | assumption | omega) (by first | assumption | omega) (by first | assumption | omega) (by first | assumption | omega) (by first | assumption | omega) (by first | assumption | omega) (by first | assumption | omega) (by first | assumption | omega) (by first | assumption | omega) (by first | assumption | omega) (by first | assumption | omega) (by first | assumption | omega) (by first | assumption | omega)) (cwV 3 C.1.2.2.2.2 gX4_movesOfTurn_X3_addCall rfl rfl rfl n_X3_addCall ⟨Nat.le_of_ble_eq_true rfl, Nat.le_of_ble_eq_true rfl⟩) rfl rfl [1, 2, 3, 4, 5, 6, 7, 8, 9, 10, 11, 12, 13, 14, 15] [0] rfl rfl ⟨by decide, by decide⟩ (by decide) [0, 1, 2, 3, 4, 5, 6, 7, 8, 9, 10, 11, 12, 13, 14, 15] (fun u15 => [(sw, cSw sN sA ha aS aH q ra), (sA, cSt fst wid mid las pat bro u15.1 u15.2.1 sI sO sB sM sG sW), (sI, aN (cT 0) 16 u15.2.2.1), (sO, aN (cT 0) 16 u15.2.2.2.1), (sB, aN (cT 0) 16 u15.2.2.2.2.1), (sM, aN (cT 0) 16 u15.2.2.2.2.2.1), (sG, aN (cT 0) 16 u15.2.2.2.2.2.2.1), (sW, aN (cT 0) 16 u15.2.2.2.2.2.2.2.1), (q, cPl u15.2.2.2.2.2.2.2.2.1 u15.2.2.2.2.2.2.2.2.2.1 qf qt qb qr u15.2.2.2.2.2.2.2.2.2.2.1 qhf qht u15.2.2.2.2.2.2.2.2.2.2.2.1 u15.2.2.2.2.2.2.2.2.2.2.2.2.1 u15.2.2.2.2.2.2.2.2.2.2.2.2.2.1 qs), (qf, aN (cT 0) 16 u15.2.2.2.2.2.2.2.2.2.2.2.2.2.2.1), (qt, aN (cT 0) 16 u15.2.2.2.2.2.2.2.2.2.2.2.2.2.2.2.1), (qb, aI (cT 0) 16 u15.2.2.2.2.2.2.2.2.2.2.2.2.2.2.2.2.1), (qr, aI (cT 0) 16 u15.2.2.2.2.2.2.2.2.2.2.2.2.2.2.2.2.2.1), (qhf, aN (cT 0) 4 u15.2.2.2.2.2.2.2.2.2.2.2.2.2.2.2.2.2.2.1), (qht, aN (cT 0) 4 u15.2.2.2.2.2.2.2.2.2.2.2.2.2.2.2.2.2.2.2.1), (qs, aI (cT 0) 16 u15.2.2.2.2.2.2.2.2.2.2.2.2.2.2.2.2.2.2.2.2)]) (fun _ => rfl) (by decide) rfl rfl (Nat.le_of_ble_eq_true rfl) ⟨Nat.zero_le _, Nat.zero_le _⟩ dX4_movesOfTurn_141 (fun r141 u15 h14 => ?_)
    refine r_mmax (pc := 144) (v := (mx0 r141)) C (mw 5 rfl) (mw 6 rfl) (mw 7 rfl) (mw 8 rfl) (Nat.le_of_ble_eq_true rfl) (Nat.le_of_ble_eq_true rfl) ⟨Nat.zero_le _, Nat.zero_le _⟩ rfl dX4_movesOfTurn_144 ?_
    subst hQ
    exact e_iW C hr hk (Nat.le_refl _) (Nat.le_refl _) ⟨u15.1, u15.2.1, u15.2.2.1, u15.2.2.2.1, u15.2.2.2.2.1, u15.2.2.2.2.2.1, u15.2.2.2.2.2.2.1, u15.2.2.2.2.2.2.2.1, u15.2.2.2.2.2.2.2.2.1, u15.2.2.2.2.2.2.2.2.2.1, u15.2.2.2.2.2.2.2.2.2.2.1, u15.2.2.2.2.2.2.2.2.2.2.2.1, u15.2.2.2.2.2.2.2.2.2.2.2.2.1, u15.2.2.2.2.2.2.2.2.2.2.2.2.2.1, u15.2.2.2.2.2.2.2.2.2.2.2.2.2.2.1, u15.2.2.2.2.2.2.2.2.2.2.2.2.2.2.2.1, u15.2.2.2.2.2.2.2.2.2.2.2.2.2.2.2.2.1, u15.2.2.2.2.2.2.2.2.2.2.2.2.2.2.2.2.2.1, u15.2.2.2.2.2.2.2.2.2.2.2.2.2.2.2.2.2.2.1, u15.2.2.2.2.2.2.2.2.2.2.2.2.2.2.2.2.2.2.2.1, u15.2.2.2.2.2.2.2.2.2.2.2.2.2.2.2.2.2.2.2.2⟩ rfl (⟨Or.inr (Or.inr (Or.inr ⟨hk9, _, h14.1, rfl⟩)), h14.2⟩) dX4_movesOfTurn_147

