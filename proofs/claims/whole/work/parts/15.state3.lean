/-! calls that end, outputs that are taken, boards that break -/
def SHF (f f1 : Nat → Nat) (ca i : Nat) : Prop := ∀ k, k < 16 → f1 k = if ca ≤ k ∧ k < i then f (k + 1) else f k
theorem shf_0 {f : Nat → Nat} {ca : Nat} : SHF f f ca ca := fun k _ => by rw [if_neg (by omega)]
theorem shf_at {f f1 : Nat → Nat} {ca i : Nat} (h : SHF f f1 ca i) (hi : i + 1 < 16) : f1 (i + 1) = f (i + 1) := by rw [h _ hi, if_neg (by omega)]
theorem shf_step {f f1 : Nat → Nat} {ca i : Nat} (h : SHF f f1 ca i) (hc : ca ≤ i) : SHF f (va_up f1 i (f (i + 1))) ca (i + 1) := by
  intro k hk
  unfold va_up
  by_cases e : k = i
  · subst e; rw [if_pos rfl, if_pos (by omega)]
  · rw [if_neg e, h k hk]
    by_cases g : ca ≤ k ∧ k < i
    · rw [if_pos g, if_pos (by omega)]
    · rw [if_neg g, if_neg (by omega)]
def HGq (cnt : Nat) (inp outs brd mvd : Nat → Nat) (x r : Int32) (cnt' : Nat) (inp' outs' brd' mvd' : Nat → Nat) : Prop :=
  (r = -2 ∧ ¬ CIn cnt x ∧ cnt' = cnt ∧ inp' = inp ∧ outs' = outs ∧ brd' = brd ∧ mvd' = mvd) ∨
  ∃ ca, x = nI ca ∧ ca < cnt ∧ r = nI (cnt - 1) ∧ cnt' = cnt - 1 ∧ SHF inp inp' ca (cnt - 1) ∧ SHF outs outs' ca (cnt - 1) ∧ SHF brd brd' ca (cnt - 1) ∧ SHF mvd mvd' ca (cnt - 1)
def DRq (las wid cnt : Nat) (outs : Nat → Nat) (y r : Int32) (outs' : Nat → Nat) : Prop :=
  (r = -2 ∧ ¬ CIn (las * wid) y ∧ outs' = outs) ∨
  (r = -3 ∧ (∃ jy, y = nI jy ∧ jy < las * wid ∧ (freeOut cnt outs jy ∨ ∃ ca, ca < cnt ∧ (outs ca).testBit jy = true ∧ outs ca = 2 ^ jy)) ∧ outs' = outs) ∨
  ∃ jy ca, y = nI jy ∧ jy < las * wid ∧ ca < cnt ∧ (outs ca).testBit jy = true ∧ ¬ outs ca = 2 ^ jy ∧ r = nI (pcn (wo (outs ca) (2 ^ jy))) ∧ outs' = va_up outs ca (wo (outs ca) (2 ^ jy))
def BKq (mid bro cnt : Nat) (brd : Nat → Nat) (x : Int32) (is : Nat) (r : Int32) (bro' : Nat) : Prop :=
  (r = -2 ∧ ¬ CIn mid x ∧ bro' = bro) ∨
  (r = -3 ∧ (∃ mb, x = nI mb ∧ mb < mid ∧ 0 < is ∧ ∃ k, k < cnt ∧ brd k = mb) ∧ bro' = bro) ∨
  ∃ mb, x = nI mb ∧ mb < mid ∧ (0 < is → ∀ k, k < cnt → ¬ brd k = mb) ∧ bro' = (if is = 0 then wo bro (2 ^ mb) else bro ||| 2 ^ mb) ∧ r = nI (pcn (wo (2 ^ mid - 1) bro'))
/-! the text: digits, numbers, commands -/
def m9 (a : Nat) : Nat := if a < 9 then a else 9
theorem min_v {a : Nat} (h : a < 2147483648) : (if nI a < nI 9 then nI a else nI 9) = nI (m9 a) := by
  unfold m9
  by_cases g : a < 9
  · rw [if_pos g, if_pos ((nI_ltI h (by decide)).mpr g)]
  · rw [if_neg g, if_neg (fun q => g ((nI_ltI h (by decide)).mp q))]
def PD (len : Nat) (sg : Nat → Nat) (p lo hi : Nat) : Option Nat := if p < len ∧ 48 + lo ≤ sg p ∧ sg p ≤ 48 + hi then some (sg p - 48) else none
def PN (len : Nat) (sg : Nat → Nat) (p hi : Nat) : Bool × Nat × Nat := match PD len sg p 0 (hi / 10) with
  | none => (false, 0, p)
  | some t => match PD len sg (p + 1) 0 (m9 (hi - 10 * t)) with
    | none => (false, 0, p + 1)
    | some d => (true, 10 * t + d, p + 2)
theorem pd_some {len p lo hi d : Nat} {sg : Nat → Nat} (h : PD len sg p lo hi = some d) : p < len ∧ lo ≤ d ∧ d ≤ hi ∧ sg p = 48 + d := by
  unfold PD at h
  split at h
  next g => cases h; omega
  next => cases h
theorem dig_lt {v lo : Nat} (hv : v < 65536) (hl : lo < 65536) : nI v - nI 48 < nI lo ↔ v < 48 + lo := by
  rw [Int32.lt_iff_toInt_lt, pk_sub_toInt (by omega) (by omega), nI_toInt (by omega)]; omega
theorem dig_le {v hi : Nat} (hv : v < 65536) (hl : hi < 65536) : nI v - nI 48 ≤ nI hi ↔ v ≤ 48 + hi := by
  rw [Int32.le_iff_toInt_le, pk_sub_toInt (by omega) (by omega), nI_toInt (by omega)]; omega
theorem dig_m1 {lo : Nat} (hl : lo < 65536) : (-1 : Int32) - nI 48 < nI lo := by
  rw [Int32.lt_iff_toInt_lt, nI_toInt (by omega)]
  have : ((-1 : Int32) - nI 48).toInt = -49 := by decide
  omega
/-- boards of the text: ok, the error position, first, width, middle, last -/
def PB4 (len : Nat) (sg : Nat → Nat) : Bool × Nat × Nat × Nat × Nat × Nat :=
  if 0 < len ∧ sg 0 = 67 then
    match PD len sg 1 1 4 with
    | none => (false, 1, 0, 0, 0, 0)
    | some a => match PD len sg 2 1 4 with
      | none => (false, 2, 0, 0, 0, 0)
      | some b => match PD len sg 3 1 4 with
        | none => (false, 3, 0, 0, 0, 0)
        | some c => match PD len sg 4 1 4 with
          | none => (false, 4, 0, 0, 0, 0)
          | some d => (true, 5, a, b, c, d)
  else (false, 0, 0, 0, 0, 0)
/-- a command of the text from p on: ok, where it goes on (or the error), its letter, its number, its output -/
def PC (fw mid lw len : Nat) (sg : Nat → Nat) (p : Nat) : Bool × Nat × Nat × Nat × Nat :=
  if p < len then
    if sg p = 99 then match PN len sg (p + 1) (fw - 1) with
      | (false, _, e) => (false, e, 0, 0, 0)
      | (true, a, p1) => match PN len sg p1 (lw - 1) with
        | (false, _, e) => (false, e, 0, 0, 0)
        | (true, b, p2) => (true, p2, 99, a, b)
    else if sg p = 106 then match PN len sg (p + 1) 15 with
      | (false, _, e) => (false, e, 0, 0, 0)
      | (true, a, p1) => match PN len sg p1 (lw - 1) with
        | (false, _, e) => (false, e, 0, 0, 0)
        | (true, b, p2) => (true, p2, 106, a, b)
    else if sg p = 104 then match PN len sg (p + 1) 15 with
      | (false, _, e) => (false, e, 0, 0, 0)
      | (true, a, p1) => (true, p1, 104, a, 0)
    else if sg p = 98 then match PD len sg (p + 1) 0 (mid - 1) with
      | none => (false, p + 1, 0, 0, 0)
      | some a => (true, p + 2, 98, a, 0)
    else if sg p = 112 then match PD len sg (p + 1) 0 3 with
      | none => (false, p + 1, 0, 0, 0)
      | some a => (true, p + 2, 112, a, 0)
    else (false, p, 0, 0, 0)
  else (false, p, 0, 0, 0)
theorem shf_e {f f1 : Nat → Nat} {ca i j : Nat} (h : SHF f f1 ca i) (e : i = j) : SHF f f1 ca j := e ▸ h

theorem iX3_endCall_X3 : ∀ w ∈ u_ws RX3 TX3 14, w ∈ wsX3_endCall := by decide +kernel
abbrev rmX3_endCall : Room := { frames := 1, cells := 0, slots := 0, locals := 21 }
theorem n_X3_endCall : yX3_endCall.cls = RX3 ∧ yX3_endCall.cls ≠ "java/lang/invoke/MethodHandle" ∧ yX3_endCall.cls ≠ "java/lang/invoke/VarHandle" ∧ (parseMethodDescriptor yX3_endCall.desc).map (fun d => d.parameters.length) = some 1 := by decide +kernel
set_option maxHeartbeats 4000000 in
set_option maxRecDepth 100000 in
theorem k_X3_endCall (l : Launch) (D : va_G) (cT : Nat → ClassId) (sA fst wid mid las pat bro mov cnt sI sO sB sM sG sW : Nat) (inp outs brd mvd : Nat → Nat) (x : Int32) (hCn : cnt ≤ 16) : MWi (S := Nat × (Nat → Nat) × (Nat → Nat) × (Nat → Nat) × (Nat → Nat)) l D cT yX3_endCall wsX3_endCall rmX3_endCall [.ref sA, .int x] [(sA, cSt fst wid mid las pat bro mov cnt sI sO sB sM sG sW), (sI, aN (cT 0) 16 inp), (sO, aN (cT 0) 16 outs), (sB, aN (cT 0) 16 brd), (sM, aN (cT 0) 16 mvd)] (fun r u => HGq cnt inp outs brd mvd x r u.1 u.2.1 u.2.2.1 u.2.2.2.1 u.2.2.2.2) (fun u => [(sA, cSt fst wid mid las pat bro mov u.1 sI sO sB sM sG sW), (sI, aN (cT 0) 16 u.2.1), (sO, aN (cT 0) 16 u.2.2.1), (sB, aN (cT 0) 16 u.2.2.2.1), (sM, aN (cT 0) 16 u.2.2.2.2)]) 0 0 := by
  refine m_Wi [(0, .ref sA), (1, .int x)] (by decide +kernel) rfl (Nat.le_of_ble_eq_true rfl) rfl ?_
  intro p e s m args below meth c A hAe C hA hr hk hnm_
  generalize hQ : MQ below (va_Qi _ _ A) args s 0 0 A = Q
  refine r_aln (pc := 0) C 0 rfl dX3_endCall_0 ?_
  refine r_iln (pc := 1) C 1 rfl dX3_endCall_1 ?_
  refine c_RV (pc := 2) (As := [.int x]) (wc := [(sA, cSt fst wid mid las pat bro mov cnt sI sO sB sM sG sW)]) (qr := 0) C (k_X3_hasCall l D cT sA fst wid mid las pat bro mov cnt sI sO sB sM sG sW x (by first | assumption | omega)) (cwV 1 C.1.2.2.2.2 gX3_endCall_X3_hasCall rfl rfl rfl n_X3_hasCall ⟨Nat.le_of_ble_eq_true rfl, Nat.le_of_ble_eq_true rfl⟩) [0] rfl rfl rfl rfl rfl (Nat.le_of_ble_eq_true rfl) ⟨Nat.zero_le _, Nat.zero_le _⟩ dX3_endCall_2 (fun r2 h1 => ?_)
  rcases h1 with ⟨rfl, h1j, rfl, h1⟩ | ⟨rfl, h1⟩
  · refine r_zneN (pc := 5) (tgt := 11) C (by omega) dX3_endCall_5 (by decide) (fun _ => ?_) (fun h => absurd h (by decide))
    refine r_aln (pc := 11) C 0 rfl dX3_endCall_11 ?_
    refine r_dup (pc := 12) C rfl dX3_endCall_12 ?_
    refine r_get (pc := 13) C iX3_endCall_X3 0 rfl rfl 7 (by decide) (mw 1 rfl) rfl rfl dX3_endCall_13 ?_
    refine r_ic (pc := 16) (v := nI 1) C rfl dX3_endCall_16 ?_
    refine r_isubN (pc := 17) C (by omega) dX3_endCall_17 ?_
    refine r_put (pc := 18) (ws2 := [(sA, cSt fst wid mid las pat bro mov (cnt - 1) sI sO sB sM sG sW), (sI, aN (cT 0) 16 inp), (sO, aN (cT 0) 16 outs), (sB, aN (cT 0) 16 brd), (sM, aN (cT 0) 16 mvd)]) C iX3_endCall_X3 tyX3_ok nmX3 0 rfl rfl 7 (by decide) (mw 1 rfl) rfl rfl rfl rfl (Nat.le_of_ble_eq_true rfl) rfl dX3_endCall_18 ?_
    refine r_iln (pc := 21) C 1 rfl dX3_endCall_21 ?_
    refine r_isn (pc := 22) C [1, 2, 0] [(0, .ref sA), (1, .int (nI h1j)), (2, .int (nI h1j))] rfl (by decide) rfl dX3_endCall_22 ?_
    have L23 : ∀ (n23 : Nat) (i : Nat) (inp1 : Nat → Nat) (outs1 : Nat → Nat) (brd1 : Nat → Nat) (mvd1 : Nat → Nat) (hi1 : h1j ≤ i) (hi2 : i ≤ cnt - 1) (hs0 : SHF inp inp1 h1j i) (hs1 : SHF outs outs1 h1j i) (hs2 : SHF brd brd1 h1j i) (hs3 : SHF mvd mvd1 h1j i), cnt - 1 - i < n23 → RW p l e (headSpec wsX3_endCall rmX3_endCall).room s m args below meth c (IW s D A) 3 0 0 Q [(sA, cSt fst wid mid las pat bro mov (cnt - 1) sI sO sB sM sG sW), (sI, aN (cT 0) 16 inp1), (sO, aN (cT 0) 16 outs1), (sB, aN (cT 0) 16 brd1), (sM, aN (cT 0) 16 mvd1)] 23 [(0, .ref sA), (1, .int (nI h1j)), (2, .int (nI i))] [] := by
      intro n23
      induction n23 with
      | zero => intro i inp1 outs1 brd1 mvd1 hi1 hi2 hs0 hs1 hs2 hs3 hn23; exact absurd hn23 (Nat.not_lt_zero _)
      | succ n23 ih23 =>
        intro i inp1 outs1 brd1 mvd1 hi1 hi2 hs0 hs1 hs2 hs3 hn23
        refine r_iln (pc := 23) C 2 rfl dX3_endCall_23 ?_
        refine r_aln (pc := 24) C 0 rfl dX3_endCall_24 ?_
        refine r_get (pc := 25) C iX3_endCall_X3 0 rfl rfl 7 (by decide) (mw 1 rfl) rfl rfl dX3_endCall_25 ?_
        refine r_cgeN (pc := 28) (tgt := 93) C (by omega) (by omega) dX3_endCall_28 (by decide) (fun c28 => ?_) (fun c28 => ?_)
        · refine r_aln (pc := 93) C 0 rfl dX3_endCall_93 ?_
          refine r_get (pc := 94) C iX3_endCall_X3 0 rfl rfl 7 (by decide) (mw 1 rfl) rfl rfl dX3_endCall_94 ?_
          subst hQ
          exact e_iW C hr hk (Nat.le_refl _) (Nat.le_refl _) ⟨cnt - 1, inp1, outs1, brd1, mvd1⟩ rfl (Or.inr ⟨h1j, rfl, h1, rfl, rfl, shf_e hs0 (by omega), shf_e hs1 (by omega), shf_e hs2 (by omega), shf_e hs3 (by omega)⟩) dX3_endCall_97
        · refine r_aln (pc := 31) C 0 rfl dX3_endCall_31 ?_
          refine r_get (pc := 32) C iX3_endCall_X3 0 rfl rfl 8 (by decide) (mw 2 rfl) rfl rfl dX3_endCall_32 ?_
          refine r_iln (pc := 35) C 2 rfl dX3_endCall_35 ?_
          refine r_aln (pc := 36) C 0 rfl dX3_endCall_36 ?_
          refine r_get (pc := 37) C iX3_endCall_X3 0 rfl rfl 8 (by decide) (mw 2 rfl) rfl rfl dX3_endCall_37 ?_
          refine r_iln (pc := 40) C 2 rfl dX3_endCall_40 ?_
          refine r_ic (pc := 41) (v := nI 1) C rfl dX3_endCall_41 ?_
          refine r_iaddN (pc := 42) C dX3_endCall_42 ?_
          refine r_ialN (pc := 43) C 1 rfl (by omega) (by decide) dX3_endCall_43 ?_
          refine r_v (y := nI (inp (i + 1))) (congrArg nI (shf_at hs0 (by omega))) ?_
          refine r_iasN (pc := 44) (ws2 := [(sA, cSt fst wid mid las pat bro mov (cnt - 1) sI sO sB sM sG sW), (sI, aN (cT 0) 16 (va_up inp1 i (inp (i + 1)))), (sO, aN (cT 0) 16 outs1), (sB, aN (cT 0) 16 brd1), (sM, aN (cT 0) 16 mvd1)]) C 1 rfl (by omega) (by decide) rfl dX3_endCall_44 ?_
          refine r_aln (pc := 45) C 0 rfl dX3_endCall_45 ?_
          refine r_get (pc := 46) C iX3_endCall_X3 0 rfl rfl 9 (by decide) (mw 3 rfl) rfl rfl dX3_endCall_46 ?_
          refine r_iln (pc := 49) C 2 rfl dX3_endCall_49 ?_
          refine r_aln (pc := 50) C 0 rfl dX3_endCall_50 ?_
          refine r_get (pc := 51) C iX3_endCall_X3 0 rfl rfl 9 (by decide) (mw 3 rfl) rfl rfl dX3_endCall_51 ?_
          refine r_iln (pc := 54) C 2 rfl dX3_endCall_54 ?_
          refine r_ic (pc := 55) (v := nI 1) C rfl dX3_endCall_55 ?_
          refine r_iaddN (pc := 56) C dX3_endCall_56 ?_
          refine r_ialN (pc := 57) C 2 rfl (by omega) (by decide) dX3_endCall_57 ?_
          refine r_v (y := nI (outs (i + 1))) (congrArg nI (shf_at hs1 (by omega))) ?_
          refine r_iasN (pc := 58) (ws2 := [(sA, cSt fst wid mid las pat bro mov (cnt - 1) sI sO sB sM sG sW), (sI, aN (cT 0) 16 (va_up inp1 i (inp (i + 1)))), (sO, aN (cT 0) 16 (va_up outs1 i (outs (i + 1)))), (sB, aN (cT 0) 16 brd1), (sM, aN (cT 0) 16 mvd1)]) C 2 rfl (by omega) (by decide) rfl dX3_endCall_58 ?_
          refine r_aln (pc := 59) C 0 rfl dX3_endCall_59 ?_
          refine r_get (pc := 60) C iX3_endCall_X3 0 rfl rfl 10 (by decide) (mw 4 rfl) rfl rfl dX3_endCall_60 ?_
          refine r_iln (pc := 63) C 2 rfl dX3_endCall_63 ?_
          refine r_aln (pc := 64) C 0 rfl dX3_endCall_64 ?_
          refine r_get (pc := 65) C iX3_endCall_X3 0 rfl rfl 10 (by decide) (mw 4 rfl) rfl rfl dX3_endCall_65 ?_
          refine r_iln (pc := 68) C 2 rfl dX3_endCall_68 ?_
          refine r_ic (pc := 69) (v := nI 1) C rfl dX3_endCall_69 ?_
          refine r_iaddN (pc := 70) C dX3_endCall_70 ?_
          refine r_ialN (pc := 71) C 3 rfl (by omega) (by decide) dX3_endCall_71 ?_
          refine r_v (y := nI (brd (i + 1))) (congrArg nI (shf_at hs2 (by omega))) ?_
          refine r_iasN (pc := 72) (ws2 := [(sA, cSt fst wid mid las pat bro mov (cnt - 1) sI sO sB sM sG sW), (sI, aN (cT 0) 16 (va_up inp1 i (inp (i + 1)))), (sO, aN (cT 0) 16 (va_up outs1 i (outs (i + 1)))), (sB, aN (cT 0) 16 (va_up brd1 i (brd (i + 1)))), (sM, aN (cT 0) 16 mvd1)]) C 3 rfl (by omega) (by decide) rfl dX3_endCall_72 ?_
          refine r_aln (pc := 73) C 0 rfl dX3_endCall_73 ?_
          refine r_get (pc := 74) C iX3_endCall_X3 0 rfl rfl 11 (by decide) (mw 5 rfl) rfl rfl dX3_endCall_74 ?_
          refine r_iln (pc := 77) C 2 rfl dX3_endCall_77 ?_
          refine r_aln (pc := 78) C 0 rfl dX3_endCall_78 ?_
          refine r_get (pc := 79) C iX3_endCall_X3 0 rfl rfl 11 (by decide) (mw 5 rfl) rfl rfl dX3_endCall_79 ?_
          refine r_iln (pc := 82) C 2 rfl dX3_endCall_82 ?_
          refine r_ic (pc := 83) (v := nI 1) C rfl dX3_endCall_83 ?_
          refine r_iaddN (pc := 84) C dX3_endCall_84 ?_
          refine r_ialN (pc := 85) C 4 rfl (by omega) (by decide) dX3_endCall_85 ?_
          refine r_v (y := nI (mvd (i + 1))) (congrArg nI (shf_at hs3 (by omega))) ?_
          refine r_iasN (pc := 86) (ws2 := [(sA, cSt fst wid mid las pat bro mov (cnt - 1) sI sO sB sM sG sW), (sI, aN (cT 0) 16 (va_up inp1 i (inp (i + 1)))), (sO, aN (cT 0) 16 (va_up outs1 i (outs (i + 1)))), (sB, aN (cT 0) 16 (va_up brd1 i (brd (i + 1)))), (sM, aN (cT 0) 16 (va_up mvd1 i (mvd (i + 1))))]) C 4 rfl (by omega) (by decide) rfl dX3_endCall_86 ?_
          refine r_incN (pc := 87) C 2 [1, 2, 0] [(0, .ref sA), (1, .int (nI h1j)), (2, .int (nI (i + 1)))] rfl (by decide) rfl dX3_endCall_87 ?_
          refine r_goto (pc := 90) (tgt := 23) C dX3_endCall_90 (by decide) ?_
          exact ih23 (i + 1) (va_up inp1 i (inp (i + 1))) (va_up outs1 i (outs (i + 1))) (va_up brd1 i (brd (i + 1))) (va_up mvd1 i (mvd (i + 1))) (by omega) (by omega) (shf_step hs0 hi1) (shf_step hs1 hi1) (shf_step hs2 hi1) (shf_step hs3 hi1) (by omega)
    exact L23 _ h1j inp outs brd mvd (Nat.le_refl _) (by omega) shf_0 shf_0 shf_0 shf_0 (Nat.lt_succ_self _)
  · refine r_zneN (pc := 5) (tgt := 11) C (by omega) dX3_endCall_5 (by decide) (fun h => absurd h (by decide)) (fun _ => ?_)
    refine r_bi (pc := 8) (v := (-2)) C rfl dX3_endCall_8 ?_
    subst hQ
    exact e_iW C hr hk (Nat.le_refl _) (Nat.le_refl _) ⟨cnt, inp, outs, brd, mvd⟩ rfl (Or.inl ⟨rfl, h1, rfl, rfl, rfl, rfl, rfl⟩) dX3_endCall_10

theorem iX3_takeOutput_X3 : ∀ w ∈ u_ws RX3 TX3 14, w ∈ wsX3_takeOutput := by decide +kernel
abbrev rmX3_takeOutput : Room := { frames := 2, cells := 0, slots := 0, locals := 42 }
theorem n_X3_takeOutput : yX3_takeOutput.cls = RX3 ∧ yX3_takeOutput.cls ≠ "java/lang/invoke/MethodHandle" ∧ yX3_takeOutput.cls ≠ "java/lang/invoke/VarHandle" ∧ (parseMethodDescriptor yX3_takeOutput.desc).map (fun d => d.parameters.length) = some 1 := by decide +kernel
set_option maxHeartbeats 4000000 in
set_option maxRecDepth 100000 in
theorem k_X3_takeOutput (l : Launch) (D : va_G) (cT : Nat → ClassId) (sA fst wid mid las pat bro mov cnt sI sO sB sM sG sW : Nat) (outs : Nat → Nat) (y : Int32) (hCn : cnt ≤ 16) (hOu : ∀ c, c < 16 → outs c < 65536) (hLW : las * wid ≤ 16) : MWi (S := (Nat → Nat)) l D cT yX3_takeOutput wsX3_takeOutput rmX3_takeOutput [.ref sA, .int y] [(sA, cSt fst wid mid las pat bro mov cnt sI sO sB sM sG sW), (sO, aN (cT 0) 16 outs)] (fun r u => DRq las wid cnt outs y r u) (fun u => [(sA, cSt fst wid mid las pat bro mov cnt sI sO sB sM sG sW), (sO, aN (cT 0) 16 u)]) 0 0 := by
  refine m_Wi [(0, .ref sA), (1, .int y)] (by decide +kernel) rfl (Nat.le_of_ble_eq_true rfl) rfl ?_
  intro p e s m args below meth c A hAe C hA hr hk hnm_
  generalize hQ : MQ below (va_Qi _ _ A) args s 0 0 A = Q
  refine r_aln (pc := 0) C 0 rfl dX3_takeOutput_0 ?_
  refine r_iln (pc := 1) C 1 rfl dX3_takeOutput_1 ?_
  refine c_RV (pc := 2) (As := [.int y]) (wc := [(sA, cSt fst wid mid las pat bro mov cnt sI sO sB sM sG sW)]) (qr := 0) C (k_X3_hasOutput l D cT sA fst wid mid las pat bro mov cnt sI sO sB sM sG sW y (by first | assumption | omega)) (cwV 1 C.1.2.2.2.2 gX3_takeOutput_X3_hasOutput rfl rfl rfl n_X3_hasOutput ⟨Nat.le_of_ble_eq_true rfl, Nat.le_of_ble_eq_true rfl⟩) [0] rfl rfl rfl rfl rfl (Nat.le_of_ble_eq_true rfl) ⟨Nat.zero_le _, Nat.zero_le _⟩ dX3_takeOutput_2 (fun r2 h1 => ?_)
  rcases h1 with ⟨rfl, h1j, rfl, h1⟩ | ⟨rfl, h1⟩
  · refine r_zneN (pc := 5) (tgt := 11) C (by first | omega | exact p2_lt31 (by omega) | exact lt_trans2 (hOu _ (by omega)) | exact lt_trans2 (p2_lt (by omega))) dX3_takeOutput_5 (by decide) (fun _ => ?_) (fun h => absurd h (by decide))
    refine r_aln (pc := 11) C 0 rfl dX3_takeOutput_11 ?_
    refine r_iln (pc := 12) C 1 rfl dX3_takeOutput_12 ?_
    refine c_RV (pc := 13) (As := [.int (nI h1j)]) (wc := [(sA, cSt fst wid mid las pat bro mov cnt sI sO sB sM sG sW), (sO, aN (cT 0) 16 outs)]) (qr := 0) C (k_X3_callAtOutput l D cT sA fst wid mid las pat bro mov cnt sI sO sB sM sG sW outs h1j (by first | assumption | omega) (by first | assumption | omega) (by first | assumption | omega)) (cwV 1 C.1.2.2.2.2 gX3_takeOutput_X3_callAtOutput rfl rfl rfl n_X3_callAtOutput ⟨Nat.le_of_ble_eq_true rfl, Nat.le_of_ble_eq_true rfl⟩) [0, 1] rfl rfl rfl rfl rfl (Nat.le_of_ble_eq_true rfl) ⟨Nat.zero_le _, Nat.zero_le _⟩ dX3_takeOutput_13 (fun r13 h2 => ?_)
    rcases h2 with ⟨rfl, h2⟩ | ⟨h2k, rfl, h2l, h2a, h2b⟩
    · refine r_isn (pc := 16) C [1, 2, 0] [(0, .ref sA), (1, .int (nI h1j)), (2, .int (-1))] rfl (by decide) rfl dX3_takeOutput_16 ?_
      refine r_iln (pc := 17) C 2 rfl dX3_takeOutput_17 ?_
      refine r_ic (pc := 18) (v := (-1)) C rfl dX3_takeOutput_18 ?_
      refine r_ceq (pc := 19) (tgt := 34) C dX3_takeOutput_19 (by decide) (fun c19 => ?_) (fun c19 => absurd c19 (by exact fun h => h rfl))
      refine r_bi (pc := 34) (v := (-3)) C rfl dX3_takeOutput_34 ?_
      subst hQ
      exact e_iW C hr hk (Nat.le_refl _) (Nat.le_refl _) outs rfl (Or.inr (Or.inl ⟨rfl, ⟨h1j, rfl, h1, Or.inl h2⟩, rfl⟩)) dX3_takeOutput_36
    · refine r_isn (pc := 16) C [1, 2, 0] [(0, .ref sA), (1, .int (nI h1j)), (2, .int (nI h2k))] rfl (by decide) rfl dX3_takeOutput_16 ?_
      refine r_iln (pc := 17) C 2 rfl dX3_takeOutput_17 ?_
      refine r_ic (pc := 18) (v := (-1)) C rfl dX3_takeOutput_18 ?_
      refine r_ceq (pc := 19) (tgt := 34) C dX3_takeOutput_19 (by decide) (fun c19 => absurd c19 (by exact nI_m1 (by omega))) (fun c19 => ?_)
      refine r_aln (pc := 22) C 0 rfl dX3_takeOutput_22 ?_
      refine r_get (pc := 23) C iX3_takeOutput_X3 0 rfl rfl 9 (by decide) (mw 1 rfl) rfl rfl dX3_takeOutput_23 ?_
      refine r_iln (pc := 26) C 2 rfl dX3_takeOutput_26 ?_
      refine r_ialN (pc := 27) C 1 rfl (by first | omega | exact p2_lt31 (by omega) | exact lt_trans2 (hOu _ (by omega)) | exact lt_trans2 (p2_lt (by omega))) (by decide) dX3_takeOutput_27 ?_
      refine r_ic (pc := 28) (v := nI 1) C rfl dX3_takeOutput_28 ?_
      refine r_iln (pc := 29) C 1 rfl dX3_takeOutput_29 ?_
      refine r_ishlN (pc := 30) C (by first | omega | exact p2_lt31 (by omega) | exact lt_trans2 (hOu _ (by omega)) | exact lt_trans2 (p2_lt (by omega))) (by rw [Nat.one_mul]; exact p2_lt31 (by first | omega | exact p2_lt31 (by omega) | exact lt_trans2 (hOu _ (by omega)) | exact lt_trans2 (p2_lt (by omega)))) dX3_takeOutput_30 ?_
      refine r_v (y := nI (2 ^ h1j)) (congrArg nI (Nat.one_mul _)) ?_
      refine r_cneN (pc := 31) (tgt := 37) C (by first | omega | exact p2_lt31 (by omega) | exact lt_trans2 (hOu _ (by omega)) | exact lt_trans2 (p2_lt (by omega))) (by first | omega | exact p2_lt31 (by omega) | exact lt_trans2 (hOu _ (by omega)) | exact lt_trans2 (p2_lt (by omega))) dX3_takeOutput_31 (by decide) (fun c31 => ?_) (fun c31 => ?_)
      · refine r_aln (pc := 37) C 0 rfl dX3_takeOutput_37 ?_
        refine r_get (pc := 38) C iX3_takeOutput_X3 0 rfl rfl 9 (by decide) (mw 1 rfl) rfl rfl dX3_takeOutput_38 ?_
        refine r_iln (pc := 41) C 2 rfl dX3_takeOutput_41 ?_
        refine r_dup2 (pc := 42) C rfl rfl dX3_takeOutput_42 ?_
        refine r_ialN (pc := 43) C 1 rfl (by first | omega | exact p2_lt31 (by omega) | exact lt_trans2 (hOu _ (by omega)) | exact lt_trans2 (p2_lt (by omega))) (by decide) dX3_takeOutput_43 ?_
        refine r_ic (pc := 44) (v := nI 1) C rfl dX3_takeOutput_44 ?_
        refine r_iln (pc := 45) C 1 rfl dX3_takeOutput_45 ?_
        refine r_ishlN (pc := 46) C (by first | omega | exact p2_lt31 (by omega) | exact lt_trans2 (hOu _ (by omega)) | exact lt_trans2 (p2_lt (by omega))) (by rw [Nat.one_mul]; exact p2_lt31 (by first | omega | exact p2_lt31 (by omega) | exact lt_trans2 (hOu _ (by omega)) | exact lt_trans2 (p2_lt (by omega)))) dX3_takeOutput_46 ?_
        refine r_v (y := nI (2 ^ h1j)) (congrArg nI (Nat.one_mul _)) ?_
        refine r_ic (pc := 47) (v := (-1)) C rfl dX3_takeOutput_47 ?_
        refine r_ixor (pc := 48) C dX3_takeOutput_48 ?_
        refine r_iandWo (pc := 49) C dX3_takeOutput_49 ?_
        refine r_iasN (pc := 50) (ws2 := [(sA, cSt fst wid mid las pat bro mov cnt sI sO sB sM sG sW), (sO, aN (cT 0) 16 (va_up outs h2k (wo (outs h2k) (2 ^ h1j))))]) C 1 rfl (by first | omega | exact p2_lt31 (by omega) | exact lt_trans2 (hOu _ (by omega)) | exact lt_trans2 (p2_lt (by omega))) (by decide) rfl dX3_takeOutput_50 ?_
        refine r_aln (pc := 51) C 0 rfl dX3_takeOutput_51 ?_
        refine r_get (pc := 52) C iX3_takeOutput_X3 0 rfl rfl 9 (by decide) (mw 1 rfl) rfl rfl dX3_takeOutput_52 ?_
        refine r_iln (pc := 55) C 2 rfl dX3_takeOutput_55 ?_
        refine r_ialN (pc := 56) C 1 rfl (by first | omega | exact p2_lt31 (by omega) | exact lt_trans2 (hOu _ (by omega)) | exact lt_trans2 (p2_lt (by omega))) (by decide) dX3_takeOutput_56 ?_
        refine r_v (y := nI (wo (outs h2k) (2 ^ h1j))) (congrArg nI (va_up_self _ _ _)) ?_
        refine c_RS (pc := 57) (As := [.int (nI (wo (outs h2k) (2 ^ h1j)))]) (wc := [])  C (k_J6_bitCount_0f7a4 l D cT (wo (outs h2k) (2 ^ h1j)) (wo_lt (hOu _ (by omega)))) (va_cwS 1 C.1.2.2.2.2 gX3_takeOutput_J6_bitCount_0f7a4 rfl rfl rfl n_J6_bitCount_0f7a4 ⟨Nat.le_of_ble_eq_true rfl, Nat.le_of_ble_eq_true rfl⟩) [] rfl rfl rfl (Nat.le_of_ble_eq_true rfl) ⟨Nat.zero_le _, Nat.zero_le _⟩ dX3_takeOutput_57 (fun r57 h3 => ?_)
        subst h3
        subst hQ
        exact e_iW C hr hk (Nat.le_refl _) (Nat.le_refl _) (va_up outs h2k (wo (outs h2k) (2 ^ h1j))) rfl (Or.inr (Or.inr ⟨h1j, h2k, rfl, h1, h2l, h2a, c31, rfl, rfl⟩)) dX3_takeOutput_60
      · refine r_bi (pc := 34) (v := (-3)) C rfl dX3_takeOutput_34 ?_
        subst hQ
        exact e_iW C hr hk (Nat.le_refl _) (Nat.le_refl _) outs rfl (Or.inr (Or.inl ⟨rfl, ⟨h1j, rfl, h1, Or.inr ⟨h2k, h2l, h2a, c31⟩⟩, rfl⟩)) dX3_takeOutput_36
  · refine r_zneN (pc := 5) (tgt := 11) C (by first | omega | exact p2_lt31 (by omega) | exact lt_trans2 (hOu _ (by omega)) | exact lt_trans2 (p2_lt (by omega))) dX3_takeOutput_5 (by decide) (fun h => absurd h (by decide)) (fun _ => ?_)
    refine r_bi (pc := 8) (v := (-2)) C rfl dX3_takeOutput_8 ?_
    subst hQ
    exact e_iW C hr hk (Nat.le_refl _) (Nat.le_refl _) outs rfl (Or.inl ⟨rfl, h1, rfl⟩) dX3_takeOutput_10

theorem iX3_makeBroken_X3 : ∀ w ∈ u_ws RX3 TX3 14, w ∈ wsX3_makeBroken := by decide +kernel
abbrev rmX3_makeBroken : Room := { frames := 1, cells := 0, slots := 0, locals := 22 }
theorem n_X3_makeBroken : yX3_makeBroken.cls = RX3 ∧ yX3_makeBroken.cls ≠ "java/lang/invoke/MethodHandle" ∧ yX3_makeBroken.cls ≠ "java/lang/invoke/VarHandle" ∧ (parseMethodDescriptor yX3_makeBroken.desc).map (fun d => d.parameters.length) = some 2 := by decide +kernel
set_option maxHeartbeats 4000000 in
set_option maxRecDepth 100000 in
theorem k_X3_makeBroken (l : Launch) (D : va_G) (cT : Nat → ClassId) (sA fst wid mid las pat bro mov cnt sI sO sB sM sG sW : Nat) (brd : Nat → Nat) (x : Int32) (is : Nat) (hCn : cnt ≤ 16) (hBo : ∀ c, c < 16 → brd c < 4) (hM4 : mid ≤ 4) (his : is < 2) : MWi (S := Nat) l D cT yX3_makeBroken wsX3_makeBroken rmX3_makeBroken [.ref sA, .int x, .int (nI is)] [(sA, cSt fst wid mid las pat bro mov cnt sI sO sB sM sG sW), (sB, aN (cT 0) 16 brd)] (fun r u => BKq mid bro cnt brd x is r u) (fun u => [(sA, cSt fst wid mid las pat u mov cnt sI sO sB sM sG sW), (sB, aN (cT 0) 16 brd)]) 0 0 := by
  refine m_Wi [(0, .ref sA), (1, .int x), (2, .int (nI is))] (by decide +kernel) rfl (Nat.le_of_ble_eq_true rfl) rfl ?_
  intro p e s m args below meth c A hAe C hA hr hk hnm_
  generalize hQ : MQ below (va_Qi _ _ A) args s 0 0 A = Q
  refine r_aln (pc := 0) C 0 rfl dX3_makeBroken_0 ?_
  refine r_iln (pc := 1) C 1 rfl dX3_makeBroken_1 ?_
  refine c_RV (pc := 2) (As := [.int x]) (wc := [(sA, cSt fst wid mid las pat bro mov cnt sI sO sB sM sG sW)]) (qr := 0) C (k_X3_hasMiddle l D cT sA fst wid mid las pat bro mov cnt sI sO sB sM sG sW x (by first | assumption | omega)) (cwV 1 C.1.2.2.2.2 gX3_makeBroken_X3_hasMiddle rfl rfl rfl n_X3_hasMiddle ⟨Nat.le_of_ble_eq_true rfl, Nat.le_of_ble_eq_true rfl⟩) [0] rfl rfl rfl rfl rfl (Nat.le_of_ble_eq_true rfl) ⟨Nat.zero_le _, Nat.zero_le _⟩ dX3_makeBroken_2 (fun r2 h1 => ?_)
  rcases h1 with ⟨rfl, h1j, rfl, h1⟩ | ⟨rfl, h1⟩
  · refine r_zneN (pc := 5) (tgt := 11) C (by first | omega | exact p2_lt31 (by omega)) dX3_makeBroken_5 (by decide) (fun _ => ?_) (fun h => absurd h (by decide))
    refine r_iln (pc := 11) C 2 rfl dX3_makeBroken_11 ?_
    refine r_zeqN (pc := 12) (tgt := 26) C (by first | omega | exact p2_lt31 (by omega)) dX3_makeBroken_12 (by decide) (fun c12 => ?_) (fun c12 => ?_)
    · refine r_aln (pc := 26) C 0 rfl dX3_makeBroken_26 ?_
      refine r_iln (pc := 27) C 2 rfl dX3_makeBroken_27 ?_
      refine r_zeqN (pc := 28) (tgt := 42) C (by first | omega | exact p2_lt31 (by omega)) dX3_makeBroken_28 (by decide) (fun c28 => ?_) (fun c28 => absurd c28 (by omega))
      refine r_aln (pc := 42) C 0 rfl dX3_makeBroken_42 ?_
      refine r_get (pc := 43) C iX3_makeBroken_X3 0 rfl rfl 5 (by decide) (mw 1 rfl) rfl rfl dX3_makeBroken_43 ?_
      refine r_ic (pc := 46) (v := nI 1) C rfl dX3_makeBroken_46 ?_
      refine r_iln (pc := 47) C 1 rfl dX3_makeBroken_47 ?_
      refine r_ishlN (pc := 48) C (by first | omega | exact p2_lt31 (by omega)) (by rw [Nat.one_mul]; exact p2_lt31 (by first | omega | exact p2_lt31 (by omega))) dX3_makeBroken_48 ?_
      refine r_v (y := nI (2 ^ h1j)) (congrArg nI (Nat.one_mul _)) ?_
      refine r_ic (pc := 49) (v := (-1)) C rfl dX3_makeBroken_49 ?_
      refine r_ixor (pc := 50) C dX3_makeBroken_50 ?_
      refine r_iandWo (pc := 51) C dX3_makeBroken_51 ?_
      refine r_put (pc := 52) (ws2 := [(sA, cSt fst wid mid las pat (wo bro (2 ^ h1j)) mov cnt sI sO sB sM sG sW), (sB, aN (cT 0) 16 brd)]) C iX3_makeBroken_X3 tyX3_ok nmX3 0 rfl rfl 5 (by decide) (mw 1 rfl) rfl rfl rfl rfl (Nat.le_of_ble_eq_true rfl) rfl dX3_makeBroken_52 ?_
      refine r_aln (pc := 55) C 0 rfl dX3_makeBroken_55 ?_
      refine c_RV (pc := 56) (As := []) (wc := [(sA, cSt fst wid mid las pat (wo bro (2 ^ h1j)) mov cnt sI sO sB sM sG sW)]) (qr := 0) C (k_X3_wholeBoards l D cT sA fst wid mid las pat (wo bro (2 ^ h1j)) mov cnt sI sO sB sM sG sW hM4) (cwV 0 C.1.2.2.2.2 gX3_makeBroken_X3_wholeBoards rfl rfl rfl n_X3_wholeBoards ⟨Nat.le_of_ble_eq_true rfl, Nat.le_of_ble_eq_true rfl⟩) [0] rfl rfl rfl rfl rfl (Nat.le_of_ble_eq_true rfl) ⟨Nat.zero_le _, Nat.zero_le _⟩ dX3_makeBroken_56 (fun r56 h2 => ?_)
      subst h2
      refine c_RS (pc := 59) (As := [.int (nI (wo (2 ^ mid - 1) (wo bro (2 ^ h1j))))]) (wc := [])  C (k_J6_bitCount_0f7a4 l D cT (wo (2 ^ mid - 1) (wo bro (2 ^ h1j))) (wo_lt (m1_lt hM4))) (va_cwS 1 C.1.2.2.2.2 gX3_makeBroken_J6_bitCount_0f7a4 rfl rfl rfl n_J6_bitCount_0f7a4 ⟨Nat.le_of_ble_eq_true rfl, Nat.le_of_ble_eq_true rfl⟩) [] rfl rfl rfl (Nat.le_of_ble_eq_true rfl) ⟨Nat.zero_le _, Nat.zero_le _⟩ dX3_makeBroken_59 (fun r59 h3 => ?_)
      subst h3
      subst hQ
      exact e_iW C hr hk (Nat.le_refl _) (Nat.le_refl _) (wo bro (2 ^ h1j)) rfl (Or.inr (Or.inr ⟨h1j, rfl, h1, fun h => absurd h (by omega), (if_pos c12).symm, rfl⟩)) dX3_makeBroken_62
    · refine r_aln (pc := 15) C 0 rfl dX3_makeBroken_15 ?_
      refine r_iln (pc := 16) C 1 rfl dX3_makeBroken_16 ?_
      refine c_RV (pc := 17) (As := [.int (nI h1j)]) (wc := [(sA, cSt fst wid mid las pat bro mov cnt sI sO sB sM sG sW), (sB, aN (cT 0) 16 brd)]) (qr := 0) C (k_X3_hasCallBy l D cT sA fst wid mid las pat bro mov cnt sI sO sB sM sG sW brd h1j (by first | assumption | omega) (by first | assumption | omega) (by first | assumption | omega)) (cwV 1 C.1.2.2.2.2 gX3_makeBroken_X3_hasCallBy rfl rfl rfl n_X3_hasCallBy ⟨Nat.le_of_ble_eq_true rfl, Nat.le_of_ble_eq_true rfl⟩) [0, 1] rfl rfl rfl rfl rfl (Nat.le_of_ble_eq_true rfl) ⟨Nat.zero_le _, Nat.zero_le _⟩ dX3_makeBroken_17 (fun r17 h4 => ?_)
      rcases h4 with ⟨rfl, h4⟩ | ⟨rfl, h4⟩
      · refine r_zeqN (pc := 20) (tgt := 26) C (by first | omega | exact p2_lt31 (by omega)) dX3_makeBroken_20 (by decide) (fun h => absurd h (by decide)) (fun _ => ?_)
        refine r_bi (pc := 23) (v := (-3)) C rfl dX3_makeBroken_23 ?_
        subst hQ
        exact e_iW C hr hk (Nat.le_refl _) (Nat.le_refl _) bro rfl (Or.inr (Or.inl ⟨rfl, ⟨h1j, rfl, h1, c12, h4⟩, rfl⟩)) dX3_makeBroken_25
      · refine r_zeqN (pc := 20) (tgt := 26) C (by first | omega | exact p2_lt31 (by omega)) dX3_makeBroken_20 (by decide) (fun _ => ?_) (fun h => absurd h (by decide))
        refine r_aln (pc := 26) C 0 rfl dX3_makeBroken_26 ?_
        refine r_iln (pc := 27) C 2 rfl dX3_makeBroken_27 ?_
        refine r_zeqN (pc := 28) (tgt := 42) C (by first | omega | exact p2_lt31 (by omega)) dX3_makeBroken_28 (by decide) (fun c28 => absurd c28 (by omega)) (fun c28 => ?_)
        refine r_aln (pc := 31) C 0 rfl dX3_makeBroken_31 ?_
        refine r_get (pc := 32) C iX3_makeBroken_X3 0 rfl rfl 5 (by decide) (mw 1 rfl) rfl rfl dX3_makeBroken_32 ?_
        refine r_ic (pc := 35) (v := nI 1) C rfl dX3_makeBroken_35 ?_
        refine r_iln (pc := 36) C 1 rfl dX3_makeBroken_36 ?_
        refine r_ishlN (pc := 37) C (by first | omega | exact p2_lt31 (by omega)) (by rw [Nat.one_mul]; exact p2_lt31 (by first | omega | exact p2_lt31 (by omega))) dX3_makeBroken_37 ?_
        refine r_v (y := nI (2 ^ h1j)) (congrArg nI (Nat.one_mul _)) ?_
        refine r_iorN (pc := 38) C dX3_makeBroken_38 ?_
        refine r_goto (pc := 39) (tgt := 52) C dX3_makeBroken_39 (by decide) ?_
        refine r_put (pc := 52) (ws2 := [(sA, cSt fst wid mid las pat (bro ||| (2 ^ h1j)) mov cnt sI sO sB sM sG sW), (sB, aN (cT 0) 16 brd)]) C iX3_makeBroken_X3 tyX3_ok nmX3 0 rfl rfl 5 (by decide) (mw 1 rfl) rfl rfl rfl rfl (Nat.le_of_ble_eq_true rfl) rfl dX3_makeBroken_52 ?_
        refine r_aln (pc := 55) C 0 rfl dX3_makeBroken_55 ?_
        refine c_RV (pc := 56) (As := []) (wc := [(sA, cSt fst wid mid las pat (bro ||| (2 ^ h1j)) mov cnt sI sO sB sM sG sW)]) (qr := 0) C (k_X3_wholeBoards l D cT sA fst wid mid las pat (bro ||| (2 ^ h1j)) mov cnt sI sO sB sM sG sW hM4) (cwV 0 C.1.2.2.2.2 gX3_makeBroken_X3_wholeBoards rfl rfl rfl n_X3_wholeBoards ⟨Nat.le_of_ble_eq_true rfl, Nat.le_of_ble_eq_true rfl⟩) [0] rfl rfl rfl rfl rfl (Nat.le_of_ble_eq_true rfl) ⟨Nat.zero_le _, Nat.zero_le _⟩ dX3_makeBroken_56 (fun r56 h5 => ?_)
        subst h5
        refine c_RS (pc := 59) (As := [.int (nI (wo (2 ^ mid - 1) (bro ||| (2 ^ h1j))))]) (wc := [])  C (k_J6_bitCount_0f7a4 l D cT (wo (2 ^ mid - 1) (bro ||| (2 ^ h1j))) (wo_lt (m1_lt hM4))) (va_cwS 1 C.1.2.2.2.2 gX3_makeBroken_J6_bitCount_0f7a4 rfl rfl rfl n_J6_bitCount_0f7a4 ⟨Nat.le_of_ble_eq_true rfl, Nat.le_of_ble_eq_true rfl⟩) [] rfl rfl rfl (Nat.le_of_ble_eq_true rfl) ⟨Nat.zero_le _, Nat.zero_le _⟩ dX3_makeBroken_59 (fun r59 h6 => ?_)
        subst h6
        subst hQ
        exact e_iW C hr hk (Nat.le_refl _) (Nat.le_refl _) (bro ||| (2 ^ h1j)) rfl (Or.inr (Or.inr ⟨h1j, rfl, h1, fun _ => h4, (if_neg (by omega)).symm, rfl⟩)) dX3_makeBroken_62
  · refine r_zneN (pc := 5) (tgt := 11) C (by first | omega | exact p2_lt31 (by omega)) dX3_makeBroken_5 (by decide) (fun h => absurd h (by decide)) (fun _ => ?_)
    refine r_bi (pc := 8) (v := (-2)) C rfl dX3_makeBroken_8 ?_
    subst hQ
    exact e_iW C hr hk (Nat.le_refl _) (Nat.le_refl _) bro rfl (Or.inl ⟨rfl, h1, rfl⟩) dX3_makeBroken_10

theorem iX2_sign_X2 : ∀ w ∈ u_ws RX2 TX2 10, w ∈ wsX2_sign := by decide +kernel
abbrev rmX2_sign : Room := { frames := 0, cells := 0, slots := 0, locals := 0 }
theorem n_X2_sign : yX2_sign.cls = RX2 ∧ yX2_sign.cls ≠ "java/lang/invoke/MethodHandle" ∧ yX2_sign.cls ≠ "java/lang/invoke/VarHandle" ∧ (parseMethodDescriptor yX2_sign.desc).map (fun d => d.parameters.length) = some 0 := by decide +kernel
set_option maxHeartbeats 4000000 in
set_option maxRecDepth 100000 in
theorem k_X2_sign (l : Launch) (D : va_G) (cT : Nat → ClassId) (ra rs rl rp : Nat) (rf rw0 rm0 rla rle rn ro : Int32) (sg : Nat → Nat) (hl : rl ≤ 120) (hp : rp ≤ 120) : MR l D cT yX2_sign wsX2_sign rmX2_sign [.ref ra] [(ra, cRd rs rl rp rf rw0 rm0 rla rle rn ro), (rs, aN (cT 2) 120 sg)] (fun r => (rp < rl ∧ r = nI (sg rp)) ∨ (rl ≤ rp ∧ r = -1)) := by
  refine m_R [(0, .ref ra)] (by decide +kernel) rfl (Nat.le_of_ble_eq_true rfl) rfl ?_
  intro p e s m args below meth c C hr hk
  generalize hQ : MQ below (vp_Si _) args s 0 0 (fun _ => False) = Q
  refine r_aln (pc := 0) C 0 rfl dX2_sign_0 ?_
  refine r_get (pc := 1) C iX2_sign_X2 0 rfl rfl 2 (by decide) (mw 1 rfl) rfl rfl dX2_sign_1 ?_
  refine r_aln (pc := 4) C 0 rfl dX2_sign_4 ?_
  refine r_get (pc := 5) C iX2_sign_X2 0 rfl rfl 1 (by decide) (mw 2 rfl) rfl rfl dX2_sign_5 ?_
  refine r_cgeN (pc := 8) (tgt := 32) C (by omega) (by omega) dX2_sign_8 (by decide) (fun c8 => ?_) (fun c8 => ?_)
  · refine r_ic (pc := 32) (v := (-1)) C rfl dX2_sign_32 ?_
    subst hQ
    exact e_iR C hr hk (Or.inr ⟨by omega, rfl⟩) dX2_sign_33
  · refine r_aln (pc := 11) C 0 rfl dX2_sign_11 ?_
    refine r_get (pc := 12) C iX2_sign_X2 0 rfl rfl 2 (by decide) (mw 1 rfl) rfl rfl dX2_sign_12 ?_
    refine r_bi (pc := 15) (v := nI 120) C rfl dX2_sign_15 ?_
    refine r_cgeN (pc := 17) (tgt := 32) C (by omega) (by omega) dX2_sign_17 (by decide) (fun c17 => absurd c17 (by omega)) (fun c17 => ?_)
    refine r_aln (pc := 20) C 0 rfl dX2_sign_20 ?_
    refine r_get (pc := 21) C iX2_sign_X2 0 rfl rfl 0 (by decide) (mw 3 rfl) rfl rfl dX2_sign_21 ?_
    refine r_aln (pc := 24) C 0 rfl dX2_sign_24 ?_
    refine r_get (pc := 25) C iX2_sign_X2 0 rfl rfl 2 (by decide) (mw 1 rfl) rfl rfl dX2_sign_25 ?_
    refine r_calN (pc := 28) C 1 rfl (by omega) (by decide) dX2_sign_28 ?_
    refine r_goto (pc := 29) (tgt := 33) C dX2_sign_29 (by decide) ?_
    subst hQ
    exact e_iR C hr hk (Or.inl ⟨by omega, rfl⟩) dX2_sign_33

theorem iX2_readDigit_X2 : ∀ w ∈ u_ws RX2 TX2 10, w ∈ wsX2_readDigit := by decide +kernel
abbrev rmX2_readDigit : Room := { frames := 1, cells := 0, slots := 0, locals := 20 }
theorem n_X2_readDigit : yX2_readDigit.cls = RX2 ∧ yX2_readDigit.cls ≠ "java/lang/invoke/MethodHandle" ∧ yX2_readDigit.cls ≠ "java/lang/invoke/VarHandle" ∧ (parseMethodDescriptor yX2_readDigit.desc).map (fun d => d.parameters.length) = some 2 := by decide +kernel
set_option maxHeartbeats 4000000 in
set_option maxRecDepth 100000 in
theorem k_X2_readDigit (l : Launch) (D : va_G) (cT : Nat → ClassId) (ra rs rl rp : Nat) (rf rw0 rm0 rla rle rn ro : Int32) (sg : Nat → Nat) (lo hi : Nat) (hl : rl ≤ 120) (hp : rp ≤ 120) (hsg : ∀ k, k < 120 → sg k < 256) (hlo : lo < 10) (hhi : hi < 10) : MWi (S := Nat) l D cT yX2_readDigit wsX2_readDigit rmX2_readDigit [.ref ra, .int (nI lo), .int (nI hi)] [(ra, cRd rs rl rp rf rw0 rm0 rla rle rn ro), (rs, aN (cT 2) 120 sg)] (fun r u => (PD rl sg rp lo hi = none ∧ r = -1 ∧ u = rp) ∨ ∃ d, PD rl sg rp lo hi = some d ∧ r = nI d ∧ d < 10 ∧ u = rp + 1) (fun u => [(ra, cRd rs rl u rf rw0 rm0 rla rle rn ro), (rs, aN (cT 2) 120 sg)]) 0 0 := by
  refine m_Wi [(0, .ref ra), (1, .int (nI lo)), (2, .int (nI hi))] (by decide +kernel) rfl (Nat.le_of_ble_eq_true rfl) rfl ?_
  intro p e s m args below meth c A hAe C hA hr hk hnm_
  generalize hQ : MQ below (va_Qi _ _ A) args s 0 0 A = Q
  refine r_aln (pc := 0) C 0 rfl dX2_readDigit_0 ?_
  refine c_RV (pc := 1) (As := []) (wc := [(ra, cRd rs rl rp rf rw0 rm0 rla rle rn ro), (rs, aN (cT 2) 120 sg)]) (qr := 0) C (k_X2_sign l D cT ra rs rl rp rf rw0 rm0 rla rle rn ro sg (by first | assumption | omega) (by first | assumption | omega)) (cwV 0 C.1.2.2.2.2 gX2_readDigit_X2_sign rfl rfl rfl n_X2_sign ⟨Nat.le_of_ble_eq_true rfl, Nat.le_of_ble_eq_true rfl⟩) [0, 1] rfl rfl rfl rfl rfl (Nat.le_of_ble_eq_true rfl) ⟨Nat.zero_le _, Nat.zero_le _⟩ dX2_readDigit_1 (fun r1 h1 => ?_)
  rcases h1 with ⟨h1, rfl⟩ | ⟨h1, rfl⟩
  · refine r_bi (pc := 4) (v := nI 48) C rfl dX2_readDigit_4 ?_
    refine r_isub (pc := 6) C dX2_readDigit_6 ?_
    refine r_isn (pc := 7) C [1, 2, 3, 0] [(0, .ref ra), (1, .int (nI lo)), (2, .int (nI hi)), (3, .int (nI (sg rp) - nI 48))] rfl (by decide) rfl dX2_readDigit_7 ?_
    refine r_iln (pc := 8) C 3 rfl dX2_readDigit_8 ?_
    refine r_iln (pc := 9) C 1 rfl dX2_readDigit_9 ?_
    refine r_clt (pc := 10) (tgt := 18) C dX2_readDigit_10 (by decide) (fun c10 => ?_) (fun c10 => ?_)
    · refine r_ic (pc := 18) (v := (-1)) C rfl dX2_readDigit_18 ?_
      subst hQ
      exact e_iW C hr hk (Nat.le_refl _) (Nat.le_refl _) rp rfl (Or.inl ⟨if_neg (fun g => by exact absurd ((dig_lt (by have := hsg rp (by omega); omega) (by omega)).mp c10) (by omega)), rfl, rfl⟩) dX2_readDigit_19
    · refine r_iln (pc := 13) C 3 rfl dX2_readDigit_13 ?_
      refine r_iln (pc := 14) C 2 rfl dX2_readDigit_14 ?_
      refine r_cle (pc := 15) (tgt := 20) C dX2_readDigit_15 (by decide) (fun c15 => ?_) (fun c15 => ?_)
      · refine r_aln (pc := 20) C 0 rfl dX2_readDigit_20 ?_
        refine r_dup (pc := 21) C rfl dX2_readDigit_21 ?_
        refine r_get (pc := 22) C iX2_readDigit_X2 0 rfl rfl 2 (by decide) (mw 1 rfl) rfl rfl dX2_readDigit_22 ?_
        refine r_ic (pc := 25) (v := nI 1) C rfl dX2_readDigit_25 ?_
        refine r_iaddN (pc := 26) C dX2_readDigit_26 ?_
        refine r_put (pc := 27) (ws2 := [(ra, cRd rs rl (rp + 1) rf rw0 rm0 rla rle rn ro), (rs, aN (cT 2) 120 sg)]) C iX2_readDigit_X2 tyX2_ok nmX2 0 rfl rfl 2 (by decide) (mw 1 rfl) rfl rfl rfl rfl (Nat.le_of_ble_eq_true rfl) rfl dX2_readDigit_27 ?_
        refine r_iln (pc := 30) C 3 rfl dX2_readDigit_30 ?_
        refine r_v (y := nI (sg rp - 48)) (pk_sub (by have := (not_congr (dig_lt (v := sg rp) (lo := lo) (by have := hsg rp (by omega); omega) (by omega))).mp c10; omega)) ?_
        subst hQ
        exact e_iW C hr hk (Nat.le_refl _) (Nat.le_refl _) (rp + 1) rfl (Or.inr ⟨_, if_pos ⟨h1, by have := (not_congr (dig_lt (v := sg rp) (lo := lo) (by have := hsg rp (by omega); omega) (by omega))).mp c10; omega, (dig_le (by have := hsg rp (by omega); omega) (by omega)).mp c15⟩, rfl, by have := (dig_le (v := sg rp) (by have := hsg rp (by omega); omega) (by omega)).mp c15; omega, rfl⟩) dX2_readDigit_31
      · refine r_ic (pc := 18) (v := (-1)) C rfl dX2_readDigit_18 ?_
        subst hQ
        exact e_iW C hr hk (Nat.le_refl _) (Nat.le_refl _) rp rfl (Or.inl ⟨if_neg (fun g => by exact c15 ((dig_le (by have := hsg rp (by omega); omega) (by omega)).mpr g.2.2)), rfl, rfl⟩) dX2_readDigit_19
  · refine r_bi (pc := 4) (v := nI 48) C rfl dX2_readDigit_4 ?_
    refine r_isub (pc := 6) C dX2_readDigit_6 ?_
    refine r_isn (pc := 7) C [1, 2, 3, 0] [(0, .ref ra), (1, .int (nI lo)), (2, .int (nI hi)), (3, .int ((-1) - nI 48))] rfl (by decide) rfl dX2_readDigit_7 ?_
    refine r_iln (pc := 8) C 3 rfl dX2_readDigit_8 ?_
    refine r_iln (pc := 9) C 1 rfl dX2_readDigit_9 ?_
    refine r_clt (pc := 10) (tgt := 18) C dX2_readDigit_10 (by decide) (fun c10 => ?_) (fun c10 => absurd c10 (by exact fun h => h (dig_m1 (by omega))))
    refine r_ic (pc := 18) (v := (-1)) C rfl dX2_readDigit_18 ?_
    subst hQ
    exact e_iW C hr hk (Nat.le_refl _) (Nat.le_refl _) rp rfl (Or.inl ⟨if_neg (fun g => by omega), rfl, rfl⟩) dX2_readDigit_19

