/-! the law's loop -/
theorem lp_out {L i : Nat} (hL : L ≤ 2048) (hi : i ≤ 4096) : nI L - nI 4 < nI i ↔ L < i + 4 := by
  rw [Int32.lt_iff_toInt_lt, pk_sub_toInt (by omega) (by omega), nI_toInt (by omega)]
  omega
theorem lp_inc {i : Nat} : nI i + Int32.ofInt 4 = nI (i + 4) := by
  rw [show (Int32.ofInt 4 : Int32) = nI 4 from rfl]
  exact nI_add _ _
theorem sw32 (x : Int32) : x &&& nI 31 = nI 0 ∨ x &&& nI 31 = nI 1 ∨ x &&& nI 31 = nI 2 ∨ x &&& nI 31 = nI 3 ∨ x &&& nI 31 = nI 4 ∨ x &&& nI 31 = nI 5 ∨ x &&& nI 31 = nI 6 ∨ x &&& nI 31 = nI 7 ∨ x &&& nI 31 = nI 8 ∨ x &&& nI 31 = nI 9 ∨ x &&& nI 31 = nI 10 ∨ x &&& nI 31 = nI 11 ∨ x &&& nI 31 = nI 12 ∨ x &&& nI 31 = nI 13 ∨ x &&& nI 31 = nI 14 ∨ x &&& nI 31 = nI 15 ∨ x &&& nI 31 = nI 16 ∨ x &&& nI 31 = nI 17 ∨ x &&& nI 31 = nI 18 ∨ x &&& nI 31 = nI 19 ∨ x &&& nI 31 = nI 20 ∨ x &&& nI 31 = nI 21 ∨ x &&& nI 31 = nI 22 ∨ x &&& nI 31 = nI 23 ∨ x &&& nI 31 = nI 24 ∨ x &&& nI 31 = nI 25 ∨ x &&& nI 31 = nI 26 ∨ x &&& nI 31 = nI 27 ∨ x &&& nI 31 = nI 28 ∨ x &&& nI 31 = nI 29 ∨ x &&& nI 31 = nI 30 ∨ x &&& nI 31 = nI 31 := by
  have h : ∃ v, v < 32 ∧ x &&& nI 31 = nI v := by
    refine ⟨(x.toBitVec.toNat) % 32, Nat.mod_lt _ (by decide), ?_⟩
    apply Int32.toBitVec_inj.mp
    apply BitVec.eq_of_toNat_eq
    rw [Int32.toBitVec_and, BitVec.toNat_and]
    have e1 : (nI 31).toBitVec.toNat = 31 := by decide
    rw [e1]
    have e2 : x.toBitVec.toNat &&& 31 = x.toBitVec.toNat % 32 := Nat.and_two_pow_sub_one_eq_mod _ 5
    rw [e2]
    have h32 : x.toBitVec.toNat % 32 < 32 := Nat.mod_lt _ (by decide)
    show _ = (BitVec.ofNat 32 (x.toBitVec.toNat % 32)).toNat
    rw [BitVec.toNat_ofNat]
    exact (Nat.mod_eq_of_lt (by omega)).symm
  obtain ⟨v, hv, e⟩ := h
  rw [e]
  rcases (show v = 0 ∨ v = 1 ∨ v = 2 ∨ v = 3 ∨ v = 4 ∨ v = 5 ∨ v = 6 ∨ v = 7 ∨ v = 8 ∨ v = 9 ∨ v = 10 ∨ v = 11 ∨ v = 12 ∨ v = 13 ∨ v = 14 ∨ v = 15 ∨ v = 16 ∨ v = 17 ∨ v = 18 ∨ v = 19 ∨ v = 20 ∨ v = 21 ∨ v = 22 ∨ v = 23 ∨ v = 24 ∨ v = 25 ∨ v = 26 ∨ v = 27 ∨ v = 28 ∨ v = 29 ∨ v = 30 ∨ v = 31 by omega) with rfl | rfl | rfl | rfl | rfl | rfl | rfl | rfl | rfl | rfl | rfl | rfl | rfl | rfl | rfl | rfl | rfl | rfl | rfl | rfl | rfl | rfl | rfl | rfl | rfl | rfl | rfl | rfl | rfl | rfl | rfl | rfl <;> simp
set_option maxHeartbeats 8000000 in
set_option maxRecDepth 100000 in
theorem law_loop {p : Program} {l : Launch} {e : Env} {s : State} {m : MethodId} {args : Array Value} {below : List Frame} {meth : Method} {c : Code} {Q : State → Prop} {D : va_G} {cT : Nat → ClassId} {A : Nat → Prop} (sa : Nat → Nat) (hlt : l.stackTraces = false) (C : CX p s m args c cL_law 7 RL wsL_law D cT (IW s D A)) (hA : ∀ q : Nat, s.heap.size ≤ q → A q) (hX : XB A sa s s.heap) (hN : NC s) {b L : Nat} {xs : Nat → Int32} (hsc : va_X b L xs s s.heap) (hbl : b < s.heap.size) (hbA : ¬ A b) (hL : L ≤ 2048) (sw sA sC ha aS aH q ra sI sO sB sM sG sW yI yO yB yM yG yW qf qt qb qr qhf qht qs rs hka ou mA mscr mread mnow mtri mdia mkept misk qp : Nat) (ad sd : Nat → Nat → Nat) (hx : ∀ i, i ≤ 2048 → LKc p l e s m args below meth c Q D cT A sw sA sC ha aS aH q ra sI sO sB sM sG sW yI yO yB yM yG yW qf qt qb qr qhf qht qs rs hka ou mA mscr mread mnow mtri mdia mkept misk qp ad sd b i 2500 8800 1562) : ∀ n i, L + 4 - i < n → i ≤ L → LKc p l e s m args below meth c Q D cT A sw sA sC ha aS aH q ra sI sO sB sM sG sW yI yO yB yM yG yW qf qt qb qr qhf qht qs rs hka ou mA mscr mread mnow mtri mdia mkept misk qp ad sd b i (200 + i) (4600 + 2 * i) 23 := by
  intro n
  induction n with
  | zero => intro i h; exact absurd h (Nat.not_lt_zero _)
  | succ n ih =>
    intro i hn hiL fst wid mid las pat bro mov cnt inp outs brd mvd got owe xf xw xm xl xp xb xv xc xinp xouts xbrd xmvd xgot xowe pn pa ph pl pm pb pfr pto pbf ptr phf pht pbs rl rp rf rw0 rm0 rla rle rn ro sg ho hs hS hT sh zS zT og mref msz mspot mgood mleft macts sgm mp9 fr f ft fd fk sk eU eP eT eH eK
    have hk9 : i + 3 < L → LKc p l e s m args below meth c Q D cT A sw sA sC ha aS aH q ra sI sO sB sM sG sW yI yO yB yM yG yW qf qt qb qr qhf qht qs rs hka ou mA mscr mread mnow mtri mdia mkept misk qp ad sd b i (200 + i + 1) (4600 + 2 * i + 6) 1556 := fun hi fst wid mid las pat bro mov cnt inp outs brd mvd got owe xf xw xm xl xp xb xv xc xinp xouts xbrd xmvd xgot xowe pn pa ph pl pm pb pfr pto pbf ptr phf pht pbs rl rp rf rw0 rm0 rla rle rn ro sg ho hs hS hT sh zS zT og mref msz mspot mgood mleft macts sgm mp9 fr f ft fd fk sk k1 k2 k3 k4 k5 => by
      refine r_inc (pc := 1556) (v := nI (i + 4)) C 4 [1, 2, 3, 4, 0] [(0, .ref b), (1, .ref sw), (2, .ref mA), (3, .ref ou), (4, .int (nI (i + 4)))] rfl lp_inc (by decide) rfl dL_law_1556 ?_
      refine r_goto (pc := 1559) (tgt := 23) C dL_law_1559 (by decide) ?_
      exact r_wid (by omega) (by omega) (ih (i + 4) (by omega) (by omega) fst wid mid las pat bro mov cnt inp outs brd mvd got owe xf xw xm xl xp xb xv xc xinp xouts xbrd xmvd xgot xowe pn pa ph pl pm pb pfr pto pbf ptr phf pht pbs rl rp rf rw0 rm0 rla rle rn ro sg ho hs hS hT sh zS zT og mref msz mspot mgood mleft macts sgm mp9 fr f ft fd fk sk k1 k2 k3 k4 k5)
    refine r_il (pc := 23) C 4 rfl dL_law_23 ?_
    refine r_aln (pc := 25) C 0 rfl dL_law_25 ?_
    refine r_slen (pc := 26) C hsc hbl hbA dL_law_26 ?_
    refine r_ic (pc := 27) (v := nI 4) C rfl dL_law_27 ?_
    refine r_isub (pc := 28) C dL_law_28 ?_
    refine r_cgt (pc := 29) (tgt := 1562) C dL_law_29 (by decide) (fun c29 => ?_) (fun c29 => ?_)
    · exact r_wid (by omega) (by omega) (hx i (by omega) fst wid mid las pat bro mov cnt inp outs brd mvd got owe xf xw xm xl xp xb xv xc xinp xouts xbrd xmvd xgot xowe pn pa ph pl pm pb pfr pto pbf ptr phf pht pbs rl rp rf rw0 rm0 rla rle rn ro sg ho hs hS hT sh zS zT og mref msz mspot mgood mleft macts sgm mp9 fr f ft fd fk sk eU eP eT eH eK)
    · have hi : i + 3 < L := by
        have h9 : ¬ L < i + 4 := fun q => c29 ((lp_out hL (by omega)).mpr q)
        omega
      replace hk9 := hk9 hi
      refine r_aln (pc := 32) C 0 rfl dL_law_32 ?_
      refine r_il (pc := 33) C 4 rfl dL_law_33 ?_
      refine r_sld (pc := 35) (i := i) C hsc hbl hbA (by omega) hL dL_law_35 ?_
      refine r_bi (pc := 36) (v := nI 31) C rfl dL_law_36 ?_
      refine r_iand (pc := 38) C dL_law_38 ?_
      rcases sw32 (xs i) with h9 | h9 | h9 | h9 | h9 | h9 | h9 | h9 | h9 | h9 | h9 | h9 | h9 | h9 | h9 | h9 | h9 | h9 | h9 | h9 | h9 | h9 | h9 | h9 | h9 | h9 | h9 | h9 | h9 | h9 | h9 | h9
      · refine r_v (y := nI 0) h9 ?_
        refine r_tsN (pc := 39) (tgt := 148) C (by decide) dL_law_39 (by decide) ?_
        exact law_c0 sa hlt C hA hX hN hsc hbl hbA hL sw sA sC ha aS aH q ra sI sO sB sM sG sW yI yO yB yM yG yW qf qt qb qr qhf qht qs rs hka ou mA mscr mread mnow mtri mdia mkept misk qp ad sd i (200 + i) (4600 + 2 * i) (by omega) (by omega) hi hk9 fst wid mid las pat bro mov cnt inp outs brd mvd got owe xf xw xm xl xp xb xv xc xinp xouts xbrd xmvd xgot xowe pn pa ph pl pm pb pfr pto pbf ptr phf pht pbs rl rp rf rw0 rm0 rla rle rn ro sg ho hs hS hT sh zS zT og mref msz mspot mgood mleft macts sgm mp9 fr f ft fd fk sk eU eP eT eH eK
      · refine r_v (y := nI 1) h9 ?_
        refine r_tsN (pc := 39) (tgt := 204) C (by decide) dL_law_39 (by decide) ?_
        exact law_c1 sa hlt C hA hX hN hsc hbl hbA hL sw sA sC ha aS aH q ra sI sO sB sM sG sW yI yO yB yM yG yW qf qt qb qr qhf qht qs rs hka ou mA mscr mread mnow mtri mdia mkept misk qp ad sd i (200 + i) (4600 + 2 * i) (by omega) (by omega) hi hk9 fst wid mid las pat bro mov cnt inp outs brd mvd got owe xf xw xm xl xp xb xv xc xinp xouts xbrd xmvd xgot xowe pn pa ph pl pm pb pfr pto pbf ptr phf pht pbs rl rp rf rw0 rm0 rla rle rn ro sg ho hs hS hT sh zS zT og mref msz mspot mgood mleft macts sgm mp9 fr f ft fd fk sk eU eP eT eH eK
      · refine r_v (y := nI 2) h9 ?_
        refine r_tsN (pc := 39) (tgt := 217) C (by decide) dL_law_39 (by decide) ?_
        exact law_c2 sa hlt C hA hX hN hsc hbl hbA hL sw sA sC ha aS aH q ra sI sO sB sM sG sW yI yO yB yM yG yW qf qt qb qr qhf qht qs rs hka ou mA mscr mread mnow mtri mdia mkept misk qp ad sd i (200 + i) (4600 + 2 * i) (by omega) (by omega) hi hk9 fst wid mid las pat bro mov cnt inp outs brd mvd got owe xf xw xm xl xp xb xv xc xinp xouts xbrd xmvd xgot xowe pn pa ph pl pm pb pfr pto pbf ptr phf pht pbs rl rp rf rw0 rm0 rla rle rn ro sg ho hs hS hT sh zS zT og mref msz mspot mgood mleft macts sgm mp9 fr f ft fd fk sk eU eP eT eH eK
      · refine r_v (y := nI 3) h9 ?_
        refine r_tsN (pc := 39) (tgt := 230) C (by decide) dL_law_39 (by decide) ?_
        exact law_c3 sa hlt C hA hX hN hsc hbl hbA hL sw sA sC ha aS aH q ra sI sO sB sM sG sW yI yO yB yM yG yW qf qt qb qr qhf qht qs rs hka ou mA mscr mread mnow mtri mdia mkept misk qp ad sd i (200 + i) (4600 + 2 * i) (by omega) (by omega) hi hk9 fst wid mid las pat bro mov cnt inp outs brd mvd got owe xf xw xm xl xp xb xv xc xinp xouts xbrd xmvd xgot xowe pn pa ph pl pm pb pfr pto pbf ptr phf pht pbs rl rp rf rw0 rm0 rla rle rn ro sg ho hs hS hT sh zS zT og mref msz mspot mgood mleft macts sgm mp9 fr f ft fd fk sk eU eP eT eH eK
      · refine r_v (y := nI 4) h9 ?_
        refine r_tsN (pc := 39) (tgt := 274) C (by decide) dL_law_39 (by decide) ?_
        exact law_c4 sa hlt C hA hX hN hsc hbl hbA hL sw sA sC ha aS aH q ra sI sO sB sM sG sW yI yO yB yM yG yW qf qt qb qr qhf qht qs rs hka ou mA mscr mread mnow mtri mdia mkept misk qp ad sd i (200 + i) (4600 + 2 * i) (by omega) (by omega) hi hk9 fst wid mid las pat bro mov cnt inp outs brd mvd got owe xf xw xm xl xp xb xv xc xinp xouts xbrd xmvd xgot xowe pn pa ph pl pm pb pfr pto pbf ptr phf pht pbs rl rp rf rw0 rm0 rla rle rn ro sg ho hs hS hT sh zS zT og mref msz mspot mgood mleft macts sgm mp9 fr f ft fd fk sk eU eP eT eH eK
      · refine r_v (y := nI 5) h9 ?_
        refine r_tsN (pc := 39) (tgt := 330) C (by decide) dL_law_39 (by decide) ?_
        exact law_c5 sa hlt C hA hX hN hsc hbl hbA hL sw sA sC ha aS aH q ra sI sO sB sM sG sW yI yO yB yM yG yW qf qt qb qr qhf qht qs rs hka ou mA mscr mread mnow mtri mdia mkept misk qp ad sd i (200 + i) (4600 + 2 * i) (by omega) (by omega) hi hk9 fst wid mid las pat bro mov cnt inp outs brd mvd got owe xf xw xm xl xp xb xv xc xinp xouts xbrd xmvd xgot xowe pn pa ph pl pm pb pfr pto pbf ptr phf pht pbs rl rp rf rw0 rm0 rla rle rn ro sg ho hs hS hT sh zS zT og mref msz mspot mgood mleft macts sgm mp9 fr f ft fd fk sk eU eP eT eH eK
      · refine r_v (y := nI 6) h9 ?_
        refine r_tsN (pc := 39) (tgt := 398) C (by decide) dL_law_39 (by decide) ?_
        exact law_c6 sa hlt C hA hX hN hsc hbl hbA hL sw sA sC ha aS aH q ra sI sO sB sM sG sW yI yO yB yM yG yW qf qt qb qr qhf qht qs rs hka ou mA mscr mread mnow mtri mdia mkept misk qp ad sd i (200 + i) (4600 + 2 * i) (by omega) (by omega) hi hk9 fst wid mid las pat bro mov cnt inp outs brd mvd got owe xf xw xm xl xp xb xv xc xinp xouts xbrd xmvd xgot xowe pn pa ph pl pm pb pfr pto pbf ptr phf pht pbs rl rp rf rw0 rm0 rla rle rn ro sg ho hs hS hT sh zS zT og mref msz mspot mgood mleft macts sgm mp9 fr f ft fd fk sk eU eP eT eH eK
      · refine r_v (y := nI 7) h9 ?_
        refine r_tsN (pc := 39) (tgt := 494) C (by decide) dL_law_39 (by decide) ?_
        exact law_c7 sa hlt C hA hX hN hsc hbl hbA hL sw sA sC ha aS aH q ra sI sO sB sM sG sW yI yO yB yM yG yW qf qt qb qr qhf qht qs rs hka ou mA mscr mread mnow mtri mdia mkept misk qp ad sd i (200 + i) (4600 + 2 * i) (by omega) (by omega) hi hk9 fst wid mid las pat bro mov cnt inp outs brd mvd got owe xf xw xm xl xp xb xv xc xinp xouts xbrd xmvd xgot xowe pn pa ph pl pm pb pfr pto pbf ptr phf pht pbs rl rp rf rw0 rm0 rla rle rn ro sg ho hs hS hT sh zS zT og mref msz mspot mgood mleft macts sgm mp9 fr f ft fd fk sk eU eP eT eH eK
      · refine r_v (y := nI 8) h9 ?_
        refine r_tsN (pc := 39) (tgt := 578) C (by decide) dL_law_39 (by decide) ?_
        exact law_c8 sa hlt C hA hX hN hsc hbl hbA hL sw sA sC ha aS aH q ra sI sO sB sM sG sW yI yO yB yM yG yW qf qt qb qr qhf qht qs rs hka ou mA mscr mread mnow mtri mdia mkept misk qp ad sd i (200 + i) (4600 + 2 * i) (by omega) (by omega) hi hk9 fst wid mid las pat bro mov cnt inp outs brd mvd got owe xf xw xm xl xp xb xv xc xinp xouts xbrd xmvd xgot xowe pn pa ph pl pm pb pfr pto pbf ptr phf pht pbs rl rp rf rw0 rm0 rla rle rn ro sg ho hs hS hT sh zS zT og mref msz mspot mgood mleft macts sgm mp9 fr f ft fd fk sk eU eP eT eH eK
      · refine r_v (y := nI 9) h9 ?_
        refine r_tsN (pc := 39) (tgt := 662) C (by decide) dL_law_39 (by decide) ?_
        exact law_c9 sa hlt C hA hX hN hsc hbl hbA hL sw sA sC ha aS aH q ra sI sO sB sM sG sW yI yO yB yM yG yW qf qt qb qr qhf qht qs rs hka ou mA mscr mread mnow mtri mdia mkept misk qp ad sd i (200 + i) (4600 + 2 * i) (by omega) (by omega) hi hk9 fst wid mid las pat bro mov cnt inp outs brd mvd got owe xf xw xm xl xp xb xv xc xinp xouts xbrd xmvd xgot xowe pn pa ph pl pm pb pfr pto pbf ptr phf pht pbs rl rp rf rw0 rm0 rla rle rn ro sg ho hs hS hT sh zS zT og mref msz mspot mgood mleft macts sgm mp9 fr f ft fd fk sk eU eP eT eH eK
      · refine r_v (y := nI 10) h9 ?_
        refine r_tsN (pc := 39) (tgt := 730) C (by decide) dL_law_39 (by decide) ?_
        exact law_c10 sa hlt C hA hX hN hsc hbl hbA hL sw sA sC ha aS aH q ra sI sO sB sM sG sW yI yO yB yM yG yW qf qt qb qr qhf qht qs rs hka ou mA mscr mread mnow mtri mdia mkept misk qp ad sd i (200 + i) (4600 + 2 * i) (by omega) (by omega) hi hk9 fst wid mid las pat bro mov cnt inp outs brd mvd got owe xf xw xm xl xp xb xv xc xinp xouts xbrd xmvd xgot xowe pn pa ph pl pm pb pfr pto pbf ptr phf pht pbs rl rp rf rw0 rm0 rla rle rn ro sg ho hs hS hT sh zS zT og mref msz mspot mgood mleft macts sgm mp9 fr f ft fd fk sk eU eP eT eH eK
      · refine r_v (y := nI 11) h9 ?_
        refine r_tsN (pc := 39) (tgt := 798) C (by decide) dL_law_39 (by decide) ?_
        exact law_c11 sa hlt C hA hX hN hsc hbl hbA hL sw sA sC ha aS aH q ra sI sO sB sM sG sW yI yO yB yM yG yW qf qt qb qr qhf qht qs rs hka ou mA mscr mread mnow mtri mdia mkept misk qp ad sd i (200 + i) (4600 + 2 * i) (by omega) (by omega) hi hk9 fst wid mid las pat bro mov cnt inp outs brd mvd got owe xf xw xm xl xp xb xv xc xinp xouts xbrd xmvd xgot xowe pn pa ph pl pm pb pfr pto pbf ptr phf pht pbs rl rp rf rw0 rm0 rla rle rn ro sg ho hs hS hT sh zS zT og mref msz mspot mgood mleft macts sgm mp9 fr f ft fd fk sk eU eP eT eH eK
      · refine r_v (y := nI 12) h9 ?_
        refine r_tsN (pc := 39) (tgt := 854) C (by decide) dL_law_39 (by decide) ?_
        exact law_c12 sa hlt C hA hX hN hsc hbl hbA hL sw sA sC ha aS aH q ra sI sO sB sM sG sW yI yO yB yM yG yW qf qt qb qr qhf qht qs rs hka ou mA mscr mread mnow mtri mdia mkept misk qp ad sd i (200 + i) (4600 + 2 * i) (by omega) (by omega) hi hk9 fst wid mid las pat bro mov cnt inp outs brd mvd got owe xf xw xm xl xp xb xv xc xinp xouts xbrd xmvd xgot xowe pn pa ph pl pm pb pfr pto pbf ptr phf pht pbs rl rp rf rw0 rm0 rla rle rn ro sg ho hs hS hT sh zS zT og mref msz mspot mgood mleft macts sgm mp9 fr f ft fd fk sk eU eP eT eH eK
      · refine r_v (y := nI 13) h9 ?_
        refine r_tsN (pc := 39) (tgt := 910) C (by decide) dL_law_39 (by decide) ?_
        exact law_c13 sa hlt C hA hX hN hsc hbl hbA hL sw sA sC ha aS aH q ra sI sO sB sM sG sW yI yO yB yM yG yW qf qt qb qr qhf qht qs rs hka ou mA mscr mread mnow mtri mdia mkept misk qp ad sd i (200 + i) (4600 + 2 * i) (by omega) (by omega) hi hk9 fst wid mid las pat bro mov cnt inp outs brd mvd got owe xf xw xm xl xp xb xv xc xinp xouts xbrd xmvd xgot xowe pn pa ph pl pm pb pfr pto pbf ptr phf pht pbs rl rp rf rw0 rm0 rla rle rn ro sg ho hs hS hT sh zS zT og mref msz mspot mgood mleft macts sgm mp9 fr f ft fd fk sk eU eP eT eH eK
      · refine r_v (y := nI 14) h9 ?_
        refine r_tsN (pc := 39) (tgt := 994) C (by decide) dL_law_39 (by decide) ?_
        exact law_c14 sa hlt C hA hX hN hsc hbl hbA hL sw sA sC ha aS aH q ra sI sO sB sM sG sW yI yO yB yM yG yW qf qt qb qr qhf qht qs rs hka ou mA mscr mread mnow mtri mdia mkept misk qp ad sd i (200 + i) (4600 + 2 * i) (by omega) (by omega) hi hk9 fst wid mid las pat bro mov cnt inp outs brd mvd got owe xf xw xm xl xp xb xv xc xinp xouts xbrd xmvd xgot xowe pn pa ph pl pm pb pfr pto pbf ptr phf pht pbs rl rp rf rw0 rm0 rla rle rn ro sg ho hs hS hT sh zS zT og mref msz mspot mgood mleft macts sgm mp9 fr f ft fd fk sk eU eP eT eH eK
      · refine r_v (y := nI 15) h9 ?_
        refine r_tsN (pc := 39) (tgt := 1050) C (by decide) dL_law_39 (by decide) ?_
        exact law_c15 sa hlt C hA hX hN hsc hbl hbA hL sw sA sC ha aS aH q ra sI sO sB sM sG sW yI yO yB yM yG yW qf qt qb qr qhf qht qs rs hka ou mA mscr mread mnow mtri mdia mkept misk qp ad sd i (200 + i) (4600 + 2 * i) (by omega) (by omega) hi hk9 fst wid mid las pat bro mov cnt inp outs brd mvd got owe xf xw xm xl xp xb xv xc xinp xouts xbrd xmvd xgot xowe pn pa ph pl pm pb pfr pto pbf ptr phf pht pbs rl rp rf rw0 rm0 rla rle rn ro sg ho hs hS hT sh zS zT og mref msz mspot mgood mleft macts sgm mp9 fr f ft fd fk sk eU eP eT eH eK
      · refine r_v (y := nI 16) h9 ?_
        refine r_tsN (pc := 39) (tgt := 1094) C (by decide) dL_law_39 (by decide) ?_
        exact law_c16 sa hlt C hA hX hN hsc hbl hbA hL sw sA sC ha aS aH q ra sI sO sB sM sG sW yI yO yB yM yG yW qf qt qb qr qhf qht qs rs hka ou mA mscr mread mnow mtri mdia mkept misk qp ad sd i (200 + i) (4600 + 2 * i) (by omega) (by omega) hi hk9 fst wid mid las pat bro mov cnt inp outs brd mvd got owe xf xw xm xl xp xb xv xc xinp xouts xbrd xmvd xgot xowe pn pa ph pl pm pb pfr pto pbf ptr phf pht pbs rl rp rf rw0 rm0 rla rle rn ro sg ho hs hS hT sh zS zT og mref msz mspot mgood mleft macts sgm mp9 fr f ft fd fk sk eU eP eT eH eK
      · refine r_v (y := nI 17) h9 ?_
        refine r_tsN (pc := 39) (tgt := 1162) C (by decide) dL_law_39 (by decide) ?_
        exact law_c17 sa hlt C hA hX hN hsc hbl hbA hL sw sA sC ha aS aH q ra sI sO sB sM sG sW yI yO yB yM yG yW qf qt qb qr qhf qht qs rs hka ou mA mscr mread mnow mtri mdia mkept misk qp ad sd i (200 + i) (4600 + 2 * i) (by omega) (by omega) hi hk9 fst wid mid las pat bro mov cnt inp outs brd mvd got owe xf xw xm xl xp xb xv xc xinp xouts xbrd xmvd xgot xowe pn pa ph pl pm pb pfr pto pbf ptr phf pht pbs rl rp rf rw0 rm0 rla rle rn ro sg ho hs hS hT sh zS zT og mref msz mspot mgood mleft macts sgm mp9 fr f ft fd fk sk eU eP eT eH eK
      · refine r_v (y := nI 18) h9 ?_
        refine r_tsN (pc := 39) (tgt := 1218) C (by decide) dL_law_39 (by decide) ?_
        exact law_c18 sa hlt C hA hX hN hsc hbl hbA hL sw sA sC ha aS aH q ra sI sO sB sM sG sW yI yO yB yM yG yW qf qt qb qr qhf qht qs rs hka ou mA mscr mread mnow mtri mdia mkept misk qp ad sd i (200 + i) (4600 + 2 * i) (by omega) (by omega) hi hk9 fst wid mid las pat bro mov cnt inp outs brd mvd got owe xf xw xm xl xp xb xv xc xinp xouts xbrd xmvd xgot xowe pn pa ph pl pm pb pfr pto pbf ptr phf pht pbs rl rp rf rw0 rm0 rla rle rn ro sg ho hs hS hT sh zS zT og mref msz mspot mgood mleft macts sgm mp9 fr f ft fd fk sk eU eP eT eH eK
      · refine r_v (y := nI 19) h9 ?_
        refine r_tsN (pc := 39) (tgt := 1231) C (by decide) dL_law_39 (by decide) ?_
        exact law_c19 sa hlt C hA hX hN hsc hbl hbA hL sw sA sC ha aS aH q ra sI sO sB sM sG sW yI yO yB yM yG yW qf qt qb qr qhf qht qs rs hka ou mA mscr mread mnow mtri mdia mkept misk qp ad sd i (200 + i) (4600 + 2 * i) (by omega) (by omega) hi hk9 fst wid mid las pat bro mov cnt inp outs brd mvd got owe xf xw xm xl xp xb xv xc xinp xouts xbrd xmvd xgot xowe pn pa ph pl pm pb pfr pto pbf ptr phf pht pbs rl rp rf rw0 rm0 rla rle rn ro sg ho hs hS hT sh zS zT og mref msz mspot mgood mleft macts sgm mp9 fr f ft fd fk sk eU eP eT eH eK
      · refine r_v (y := nI 20) h9 ?_
        refine r_tsN (pc := 39) (tgt := 1244) C (by decide) dL_law_39 (by decide) ?_
        exact law_c20 sa hlt C hA hX hN hsc hbl hbA hL sw sA sC ha aS aH q ra sI sO sB sM sG sW yI yO yB yM yG yW qf qt qb qr qhf qht qs rs hka ou mA mscr mread mnow mtri mdia mkept misk qp ad sd i (200 + i) (4600 + 2 * i) (by omega) (by omega) hi hk9 fst wid mid las pat bro mov cnt inp outs brd mvd got owe xf xw xm xl xp xb xv xc xinp xouts xbrd xmvd xgot xowe pn pa ph pl pm pb pfr pto pbf ptr phf pht pbs rl rp rf rw0 rm0 rla rle rn ro sg ho hs hS hT sh zS zT og mref msz mspot mgood mleft macts sgm mp9 fr f ft fd fk sk eU eP eT eH eK
      · refine r_v (y := nI 21) h9 ?_
        refine r_tsN (pc := 39) (tgt := 1344) C (by decide) dL_law_39 (by decide) ?_
        exact law_c21 sa hlt C hA hX hN hsc hbl hbA hL sw sA sC ha aS aH q ra sI sO sB sM sG sW yI yO yB yM yG yW qf qt qb qr qhf qht qs rs hka ou mA mscr mread mnow mtri mdia mkept misk qp ad sd i (200 + i) (4600 + 2 * i) (by omega) (by omega) hi hk9 fst wid mid las pat bro mov cnt inp outs brd mvd got owe xf xw xm xl xp xb xv xc xinp xouts xbrd xmvd xgot xowe pn pa ph pl pm pb pfr pto pbf ptr phf pht pbs rl rp rf rw0 rm0 rla rle rn ro sg ho hs hS hT sh zS zT og mref msz mspot mgood mleft macts sgm mp9 fr f ft fd fk sk eU eP eT eH eK
      · refine r_v (y := nI 22) h9 ?_
        refine r_tsN (pc := 39) (tgt := 1444) C (by decide) dL_law_39 (by decide) ?_
        exact law_c22 sa hlt C hA hX hN hsc hbl hbA hL sw sA sC ha aS aH q ra sI sO sB sM sG sW yI yO yB yM yG yW qf qt qb qr qhf qht qs rs hka ou mA mscr mread mnow mtri mdia mkept misk qp ad sd i (200 + i) (4600 + 2 * i) (by omega) (by omega) hi hk9 fst wid mid las pat bro mov cnt inp outs brd mvd got owe xf xw xm xl xp xb xv xc xinp xouts xbrd xmvd xgot xowe pn pa ph pl pm pb pfr pto pbf ptr phf pht pbs rl rp rf rw0 rm0 rla rle rn ro sg ho hs hS hT sh zS zT og mref msz mspot mgood mleft macts sgm mp9 fr f ft fd fk sk eU eP eT eH eK
      · refine r_v (y := nI 23) h9 ?_
        refine r_tsN (pc := 39) (tgt := 1500) C (by decide) dL_law_39 (by decide) ?_
        exact law_c23 sa hlt C hA hX hN hsc hbl hbA hL sw sA sC ha aS aH q ra sI sO sB sM sG sW yI yO yB yM yG yW qf qt qb qr qhf qht qs rs hka ou mA mscr mread mnow mtri mdia mkept misk qp ad sd i (200 + i) (4600 + 2 * i) (by omega) (by omega) hi hk9 fst wid mid las pat bro mov cnt inp outs brd mvd got owe xf xw xm xl xp xb xv xc xinp xouts xbrd xmvd xgot xowe pn pa ph pl pm pb pfr pto pbf ptr phf pht pbs rl rp rf rw0 rm0 rla rle rn ro sg ho hs hS hT sh zS zT og mref msz mspot mgood mleft macts sgm mp9 fr f ft fd fk sk eU eP eT eH eK
      · refine r_v (y := nI 24) h9 ?_
        refine r_tsN (pc := 39) (tgt := 1556) C (by decide) dL_law_39 (by decide) ?_
        exact r_wid (Nat.le_add_right _ 1) (Nat.le_add_right _ 6) (hk9 fst wid mid las pat bro mov cnt inp outs brd mvd got owe xf xw xm xl xp xb xv xc xinp xouts xbrd xmvd xgot xowe pn pa ph pl pm pb pfr pto pbf ptr phf pht pbs rl rp rf rw0 rm0 rla rle rn ro sg ho hs hS hT sh zS zT og mref msz mspot mgood mleft macts sgm mp9 fr f ft fd fk sk eU eP eT eH eK)
      · refine r_v (y := nI 25) h9 ?_
        refine r_tsN (pc := 39) (tgt := 1556) C (by decide) dL_law_39 (by decide) ?_
        exact r_wid (Nat.le_add_right _ 1) (Nat.le_add_right _ 6) (hk9 fst wid mid las pat bro mov cnt inp outs brd mvd got owe xf xw xm xl xp xb xv xc xinp xouts xbrd xmvd xgot xowe pn pa ph pl pm pb pfr pto pbf ptr phf pht pbs rl rp rf rw0 rm0 rla rle rn ro sg ho hs hS hT sh zS zT og mref msz mspot mgood mleft macts sgm mp9 fr f ft fd fk sk eU eP eT eH eK)
      · refine r_v (y := nI 26) h9 ?_
        refine r_tsN (pc := 39) (tgt := 1556) C (by decide) dL_law_39 (by decide) ?_
        exact r_wid (Nat.le_add_right _ 1) (Nat.le_add_right _ 6) (hk9 fst wid mid las pat bro mov cnt inp outs brd mvd got owe xf xw xm xl xp xb xv xc xinp xouts xbrd xmvd xgot xowe pn pa ph pl pm pb pfr pto pbf ptr phf pht pbs rl rp rf rw0 rm0 rla rle rn ro sg ho hs hS hT sh zS zT og mref msz mspot mgood mleft macts sgm mp9 fr f ft fd fk sk eU eP eT eH eK)
      · refine r_v (y := nI 27) h9 ?_
        refine r_tsN (pc := 39) (tgt := 1556) C (by decide) dL_law_39 (by decide) ?_
        exact r_wid (Nat.le_add_right _ 1) (Nat.le_add_right _ 6) (hk9 fst wid mid las pat bro mov cnt inp outs brd mvd got owe xf xw xm xl xp xb xv xc xinp xouts xbrd xmvd xgot xowe pn pa ph pl pm pb pfr pto pbf ptr phf pht pbs rl rp rf rw0 rm0 rla rle rn ro sg ho hs hS hT sh zS zT og mref msz mspot mgood mleft macts sgm mp9 fr f ft fd fk sk eU eP eT eH eK)
      · refine r_v (y := nI 28) h9 ?_
        refine r_tsN (pc := 39) (tgt := 1556) C (by decide) dL_law_39 (by decide) ?_
        exact r_wid (Nat.le_add_right _ 1) (Nat.le_add_right _ 6) (hk9 fst wid mid las pat bro mov cnt inp outs brd mvd got owe xf xw xm xl xp xb xv xc xinp xouts xbrd xmvd xgot xowe pn pa ph pl pm pb pfr pto pbf ptr phf pht pbs rl rp rf rw0 rm0 rla rle rn ro sg ho hs hS hT sh zS zT og mref msz mspot mgood mleft macts sgm mp9 fr f ft fd fk sk eU eP eT eH eK)
      · refine r_v (y := nI 29) h9 ?_
        refine r_tsN (pc := 39) (tgt := 1556) C (by decide) dL_law_39 (by decide) ?_
        exact r_wid (Nat.le_add_right _ 1) (Nat.le_add_right _ 6) (hk9 fst wid mid las pat bro mov cnt inp outs brd mvd got owe xf xw xm xl xp xb xv xc xinp xouts xbrd xmvd xgot xowe pn pa ph pl pm pb pfr pto pbf ptr phf pht pbs rl rp rf rw0 rm0 rla rle rn ro sg ho hs hS hT sh zS zT og mref msz mspot mgood mleft macts sgm mp9 fr f ft fd fk sk eU eP eT eH eK)
      · refine r_v (y := nI 30) h9 ?_
        refine r_tsN (pc := 39) (tgt := 1556) C (by decide) dL_law_39 (by decide) ?_
        exact r_wid (Nat.le_add_right _ 1) (Nat.le_add_right _ 6) (hk9 fst wid mid las pat bro mov cnt inp outs brd mvd got owe xf xw xm xl xp xb xv xc xinp xouts xbrd xmvd xgot xowe pn pa ph pl pm pb pfr pto pbf ptr phf pht pbs rl rp rf rw0 rm0 rla rle rn ro sg ho hs hS hT sh zS zT og mref msz mspot mgood mleft macts sgm mp9 fr f ft fd fk sk eU eP eT eH eK)
      · refine r_v (y := nI 31) h9 ?_
        refine r_tsN (pc := 39) (tgt := 1556) C (by decide) dL_law_39 (by decide) ?_
        exact r_wid (Nat.le_add_right _ 1) (Nat.le_add_right _ 6) (hk9 fst wid mid las pat bro mov cnt inp outs brd mvd got owe xf xw xm xl xp xb xv xc xinp xouts xbrd xmvd xgot xowe pn pa ph pl pm pb pfr pto pbf ptr phf pht pbs rl rp rf rw0 rm0 rla rle rn ro sg ho hs hS hT sh zS zT og mref msz mspot mgood mleft macts sgm mp9 fr f ft fd fk sk eU eP eT eH eK)
