/-! the objects' cells; the State object -/
/-- an object of SwitchRows$State: its fields in their order (first, width, middle, last, patience, broken, movedInAll, count, input, outputs, board, moved, got, owed) -/
def cSt (f0 : Nat) (f1 : Nat) (f2 : Nat) (f3 : Nat) (f4 : Nat) (f5 : Nat) (f6 : Nat) (f7 : Nat) (f8 : Nat) (f9 : Nat) (f10 : Nat) (f11 : Nat) (f12 : Nat) (f13 : Nat) : va_E := .inr (3, [.int (nI f0), .int (nI f1), .int (nI f2), .int (nI f3), .int (nI f4), .int (nI f5), .int (nI f6), .int (nI f7), .ref f8, .ref f9, .ref f10, .ref f11, .ref f12, .ref f13])
/-- an object of SwitchRows$Planner: its fields in their order (count, asking, from, to, before, trial, held, heldFrom, heldTo, allowed, limit, bestMoves, best) -/
def cPl (f0 : Nat) (f1 : Int32) (f2 : Nat) (f3 : Nat) (f4 : Nat) (f5 : Nat) (f6 : Nat) (f7 : Nat) (f8 : Nat) (f9 : Nat) (f10 : Nat) (f11 : Int32) (f12 : Nat) : va_E := .inr (1, [.int (nI f0), .int f1, .ref f2, .ref f3, .ref f4, .ref f5, .int (nI f6), .ref f7, .ref f8, .int (nI f9), .int (nI f10), .int f11, .ref f12])
/-- an object of SwitchRows$Reader: its fields in their order (signs, length, position, first, width, middle, last, letter, number, output) -/
def cRd (f0 : Nat) (f1 : Nat) (f2 : Nat) (f3 : Int32) (f4 : Int32) (f5 : Int32) (f6 : Int32) (f7 : Int32) (f8 : Int32) (f9 : Int32) : va_E := .inr (2, [.ref f0, .int (nI f1), .int (nI f2), .int f3, .int f4, .int f5, .int f6, .int f7, .int f8, .int f9])
/-- an object of SwitchRowsModel: its fields in their order (refusal, script, scriptSize, spot, isGood, leftOut, read, now, trial, diary, acts, kept, isKept, plan) -/
def cMo (f0 : Nat) (f1 : Nat) (f2 : Nat) (f3 : Nat) (f4 : Nat) (f5 : Nat) (f6 : Nat) (f7 : Nat) (f8 : Nat) (f9 : Nat) (f10 : Nat) (f11 : Nat) (f12 : Nat) (f13 : Nat) : va_E := .inr (5, [.int (nI f0), .ref f1, .int (nI f2), .int (nI f3), .int (nI f4), .int (nI f5), .ref f6, .ref f7, .ref f8, .ref f9, .int (nI f10), .ref f11, .ref f12, .ref f13])
/-- an object of SwitchRows$History: its fields in their order (kept, oldest, size) -/
def cHi (f0 : Nat) (f1 : Nat) (f2 : Nat) : va_E := .inr (0, [.ref f0, .int (nI f1), .int (nI f2)])
/-- an object of SwitchRows: its fields in their order (now, copy, history, slots, slotHolds, planner, reader) -/
def cSw (f0 : Nat) (f1 : Nat) (f2 : Nat) (f3 : Nat) (f4 : Nat) (f5 : Nat) (f6 : Nat) : va_E := .inr (4, [.ref f0, .ref f1, .ref f2, .ref f3, .ref f4, .ref f5, .ref f6])
abbrev rmJ6_bitCount_0f7a4 : Room := { frames := 0, cells := 0, slots := 0, locals := 0 }
theorem n_J6_bitCount_0f7a4 : yJ6_bitCount_0f7a4.cls ≠ "java/lang/invoke/MethodHandle" ∧ yJ6_bitCount_0f7a4.cls ≠ "java/lang/invoke/VarHandle" ∧ (parseMethodDescriptor yJ6_bitCount_0f7a4.desc).map (fun d => d.parameters.length) = some 1 := by decide +kernel
set_option maxHeartbeats 4000000 in
set_option maxRecDepth 100000 in
theorem k_J6_bitCount_0f7a4 (l : Launch) (D : va_G) (cT : Nat → ClassId) (x : Nat) (hx : x < 65536) : MR l D cT yJ6_bitCount_0f7a4 wsJ6_bitCount_0f7a4 rmJ6_bitCount_0f7a4 [.int (nI x)] [] (fun r => r = nI (pcn x)) := by
  refine m_R [(0, .int (nI x))] (by decide +kernel) rfl (Nat.le_of_ble_eq_true rfl) rfl ?_
  intro p e s m args below meth c C hr hk
  generalize hQ : MQ below (vp_Si _) args s 0 0 (fun _ => False) = Q
  refine r_iln (pc := 0) C 0 rfl dJ6_bitCount_0f7a4_0 ?_
  refine r_iln (pc := 1) C 0 rfl dJ6_bitCount_0f7a4_1 ?_
  refine r_ic (pc := 2) (v := nI 1) C rfl dJ6_bitCount_0f7a4_2 ?_
  refine r_iushrN (pc := 3) C (by first | omega | exact bk_sub x | (have := bk1_le x; omega) | (have := bk2_le (bk1 x); omega) | (have := bk3_le (bk2 (bk1 x)); omega) | (have := bk4_le (bk2 (bk1 x)); omega)) (by decide) (by decide) dJ6_bitCount_0f7a4_3 ?_
  refine r_ldcw (pc := 4) (v := nI 1431655765) C (mw 1 rfl) dJ6_bitCount_0f7a4_4 ?_
  refine r_iandN (pc := 7) C dJ6_bitCount_0f7a4_7 ?_
  refine r_isubN (pc := 8) C (by first | omega | exact bk_sub x | (have := bk1_le x; omega) | (have := bk2_le (bk1 x); omega) | (have := bk3_le (bk2 (bk1 x)); omega) | (have := bk4_le (bk2 (bk1 x)); omega)) dJ6_bitCount_0f7a4_8 ?_
  refine r_v (y := nI (bk1 x)) rfl ?_
  refine r_isn (pc := 9) C [0] [(0, .int (nI (bk1 x)))] rfl (by decide) rfl dJ6_bitCount_0f7a4_9 ?_
  refine r_iln (pc := 10) C 0 rfl dJ6_bitCount_0f7a4_10 ?_
  refine r_ldcw (pc := 11) (v := nI 858993459) C (mw 2 rfl) dJ6_bitCount_0f7a4_11 ?_
  refine r_iandN (pc := 14) C dJ6_bitCount_0f7a4_14 ?_
  refine r_iln (pc := 15) C 0 rfl dJ6_bitCount_0f7a4_15 ?_
  refine r_ic (pc := 16) (v := nI 2) C rfl dJ6_bitCount_0f7a4_16 ?_
  refine r_iushrN (pc := 17) C (by first | omega | exact bk_sub x | (have := bk1_le x; omega) | (have := bk2_le (bk1 x); omega) | (have := bk3_le (bk2 (bk1 x)); omega) | (have := bk4_le (bk2 (bk1 x)); omega)) (by decide) (by decide) dJ6_bitCount_0f7a4_17 ?_
  refine r_ldcw (pc := 18) (v := nI 858993459) C (mw 2 rfl) dJ6_bitCount_0f7a4_18 ?_
  refine r_iandN (pc := 21) C dJ6_bitCount_0f7a4_21 ?_
  refine r_iaddN (pc := 22) C dJ6_bitCount_0f7a4_22 ?_
  refine r_v (y := nI (bk2 (bk1 x))) rfl ?_
  refine r_isn (pc := 23) C [0] [(0, .int (nI (bk2 (bk1 x))))] rfl (by decide) rfl dJ6_bitCount_0f7a4_23 ?_
  refine r_iln (pc := 24) C 0 rfl dJ6_bitCount_0f7a4_24 ?_
  refine r_iln (pc := 25) C 0 rfl dJ6_bitCount_0f7a4_25 ?_
  refine r_ic (pc := 26) (v := nI 4) C rfl dJ6_bitCount_0f7a4_26 ?_
  refine r_iushrN (pc := 27) C (by first | omega | exact bk_sub x | (have := bk1_le x; omega) | (have := bk2_le (bk1 x); omega) | (have := bk3_le (bk2 (bk1 x)); omega) | (have := bk4_le (bk2 (bk1 x)); omega)) (by decide) (by decide) dJ6_bitCount_0f7a4_27 ?_
  refine r_iaddN (pc := 28) C dJ6_bitCount_0f7a4_28 ?_
  refine r_ldcw (pc := 29) (v := nI 252645135) C (mw 3 rfl) dJ6_bitCount_0f7a4_29 ?_
  refine r_iandN (pc := 32) C dJ6_bitCount_0f7a4_32 ?_
  refine r_v (y := nI (bk3 (bk2 (bk1 x)))) rfl ?_
  refine r_isn (pc := 33) C [0] [(0, .int (nI (bk3 (bk2 (bk1 x)))))] rfl (by decide) rfl dJ6_bitCount_0f7a4_33 ?_
  refine r_iln (pc := 34) C 0 rfl dJ6_bitCount_0f7a4_34 ?_
  refine r_iln (pc := 35) C 0 rfl dJ6_bitCount_0f7a4_35 ?_
  refine r_bi (pc := 36) (v := nI 8) C rfl dJ6_bitCount_0f7a4_36 ?_
  refine r_iushrN (pc := 38) C (by first | omega | exact bk_sub x | (have := bk1_le x; omega) | (have := bk2_le (bk1 x); omega) | (have := bk3_le (bk2 (bk1 x)); omega) | (have := bk4_le (bk2 (bk1 x)); omega)) (by decide) (by decide) dJ6_bitCount_0f7a4_38 ?_
  refine r_iaddN (pc := 39) C dJ6_bitCount_0f7a4_39 ?_
  refine r_v (y := nI (bk4 (bk3 (bk2 (bk1 x))))) rfl ?_
  refine r_isn (pc := 40) C [0] [(0, .int (nI (bk4 (bk3 (bk2 (bk1 x))))))] rfl (by decide) rfl dJ6_bitCount_0f7a4_40 ?_
  refine r_iln (pc := 41) C 0 rfl dJ6_bitCount_0f7a4_41 ?_
  refine r_iln (pc := 42) C 0 rfl dJ6_bitCount_0f7a4_42 ?_
  refine r_bi (pc := 43) (v := nI 16) C rfl dJ6_bitCount_0f7a4_43 ?_
  refine r_iushrN (pc := 45) C (by first | omega | exact bk_sub x | (have := bk1_le x; omega) | (have := bk2_le (bk1 x); omega) | (have := bk3_le (bk2 (bk1 x)); omega) | (have := bk4_le (bk2 (bk1 x)); omega)) (by decide) (by decide) dJ6_bitCount_0f7a4_45 ?_
  refine r_iaddN (pc := 46) C dJ6_bitCount_0f7a4_46 ?_
  refine r_v (y := nI (bk5 (bk4 (bk3 (bk2 (bk1 x)))))) rfl ?_
  refine r_isn (pc := 47) C [0] [(0, .int (nI (bk5 (bk4 (bk3 (bk2 (bk1 x)))))))] rfl (by decide) rfl dJ6_bitCount_0f7a4_47 ?_
  refine r_iln (pc := 48) C 0 rfl dJ6_bitCount_0f7a4_48 ?_
  refine r_bi (pc := 49) (v := nI 63) C rfl dJ6_bitCount_0f7a4_49 ?_
  refine r_iandN (pc := 51) C dJ6_bitCount_0f7a4_51 ?_
  subst hQ
  exact e_iR C hr hk (bc_ok x hx) dJ6_bitCount_0f7a4_52

theorem iX3_places_X3 : ∀ w ∈ u_ws RX3 TX3 14, w ∈ wsX3_places := by decide +kernel
abbrev rmX3_places : Room := { frames := 0, cells := 0, slots := 0, locals := 0 }
theorem n_X3_places : yX3_places.cls = RX3 ∧ yX3_places.cls ≠ "java/lang/invoke/MethodHandle" ∧ yX3_places.cls ≠ "java/lang/invoke/VarHandle" ∧ (parseMethodDescriptor yX3_places.desc).map (fun d => d.parameters.length) = some 1 := by decide +kernel
set_option maxHeartbeats 4000000 in
set_option maxRecDepth 100000 in
theorem k_X3_places (l : Launch) (D : va_G) (cT : Nat → ClassId) (sA fst wid mid las pat bro mov cnt sI sO sB sM sG sW b : Nat)  : MR l D cT yX3_places wsX3_places rmX3_places [.ref sA, .int (nI b)] [(sA, cSt fst wid mid las pat bro mov cnt sI sO sB sM sG sW)] (fun r => r = nI (b * wid)) := by
  refine m_R [(0, .ref sA), (1, .int (nI b))] (by decide +kernel) rfl (Nat.le_of_ble_eq_true rfl) rfl ?_
  intro p e s m args below meth c C hr hk
  generalize hQ : MQ below (vp_Si _) args s 0 0 (fun _ => False) = Q
  refine r_iln (pc := 0) C 1 rfl dX3_places_0 ?_
  refine r_aln (pc := 1) C 0 rfl dX3_places_1 ?_
  refine r_get (pc := 2) C iX3_places_X3 0 rfl rfl 1 (by decide) (mw 1 rfl) rfl rfl dX3_places_2 ?_
  refine r_imulN (pc := 5) C dX3_places_5 ?_
  subst hQ
  exact e_iR C hr hk rfl dX3_places_6

theorem iX3_inputs_X3 : ∀ w ∈ u_ws RX3 TX3 14, w ∈ wsX3_inputs := by decide +kernel
abbrev rmX3_inputs : Room := { frames := 1, cells := 0, slots := 0, locals := 21 }
theorem n_X3_inputs : yX3_inputs.cls = RX3 ∧ yX3_inputs.cls ≠ "java/lang/invoke/MethodHandle" ∧ yX3_inputs.cls ≠ "java/lang/invoke/VarHandle" ∧ (parseMethodDescriptor yX3_inputs.desc).map (fun d => d.parameters.length) = some 0 := by decide +kernel
set_option maxHeartbeats 4000000 in
set_option maxRecDepth 100000 in
theorem k_X3_inputs (l : Launch) (D : va_G) (cT : Nat → ClassId) (sA fst wid mid las pat bro mov cnt sI sO sB sM sG sW : Nat)  : MR l D cT yX3_inputs wsX3_inputs rmX3_inputs [.ref sA] [(sA, cSt fst wid mid las pat bro mov cnt sI sO sB sM sG sW)] (fun r => r = nI (fst * wid)) := by
  refine m_R [(0, .ref sA)] (by decide +kernel) rfl (Nat.le_of_ble_eq_true rfl) rfl ?_
  intro p e s m args below meth c C hr hk
  generalize hQ : MQ below (vp_Si _) args s 0 0 (fun _ => False) = Q
  refine r_aln (pc := 0) C 0 rfl dX3_inputs_0 ?_
  refine r_aln (pc := 1) C 0 rfl dX3_inputs_1 ?_
  refine r_get (pc := 2) C iX3_inputs_X3 0 rfl rfl 0 (by decide) (mw 1 rfl) rfl rfl dX3_inputs_2 ?_
  refine c_RV (pc := 5) (As := [.int (nI fst)]) (wc := [(sA, cSt fst wid mid las pat bro mov cnt sI sO sB sM sG sW)]) (qr := 0) C (k_X3_places l D cT sA fst wid mid las pat bro mov cnt sI sO sB sM sG sW fst) (cwV 1 C.1.2.2.2.2 gX3_inputs_X3_places rfl rfl rfl n_X3_places ⟨Nat.le_of_ble_eq_true rfl, Nat.le_of_ble_eq_true rfl⟩) [0] rfl rfl rfl rfl rfl (Nat.le_of_ble_eq_true rfl) ⟨Nat.zero_le _, Nat.zero_le _⟩ dX3_inputs_5 (fun r5 h1 => ?_)
  subst h1
  subst hQ
  exact e_iR C hr hk rfl dX3_inputs_8

abbrev rmX3_hasInput : Room := { frames := 2, cells := 0, slots := 0, locals := 41 }
theorem n_X3_hasInput : yX3_hasInput.cls = RX3 ∧ yX3_hasInput.cls ≠ "java/lang/invoke/MethodHandle" ∧ yX3_hasInput.cls ≠ "java/lang/invoke/VarHandle" ∧ (parseMethodDescriptor yX3_hasInput.desc).map (fun d => d.parameters.length) = some 1 := by decide +kernel
set_option maxHeartbeats 4000000 in
set_option maxRecDepth 100000 in
theorem k_X3_hasInput (l : Launch) (D : va_G) (cT : Nat → ClassId) (sA fst wid mid las pat bro mov cnt sI sO sB sM sG sW : Nat) (x : Int32) (hL : fst * wid ≤ 16) : MR l D cT yX3_hasInput wsX3_hasInput rmX3_hasInput [.ref sA, .int x] [(sA, cSt fst wid mid las pat bro mov cnt sI sO sB sM sG sW)] (fun r => (r = nI 1 ∧ ∃ j, x = nI j ∧ j < fst * wid) ∨ (r = nI 0 ∧ ¬ ∃ j, x = nI j ∧ j < fst * wid)) := by
  refine m_R [(0, .ref sA), (1, .int x)] (by decide +kernel) rfl (Nat.le_of_ble_eq_true rfl) rfl ?_
  intro p e s m args below meth c C hr hk
  generalize hQ : MQ below (vp_Si _) args s 0 0 (fun _ => False) = Q
  refine r_iln (pc := 0) C 1 rfl dX3_hasInput_0 ?_
  refine r_zlt (pc := 1) (tgt := 16) C dX3_hasInput_1 (by decide) (fun c1 => ?_) (fun c1 => ?_)
  · refine r_ic (pc := 16) (v := nI 0) C rfl dX3_hasInput_16 ?_
    subst hQ
    exact e_zR C hr hk rfl (Or.inr ⟨rfl, fun ⟨k, hk, _⟩ => nI_pos (by omega) (hk ▸ c1)⟩) dX3_hasInput_17
  · obtain ⟨j, hj, rfl⟩ := nI_of c1
    refine r_iln (pc := 4) C 1 rfl dX3_hasInput_4 ?_
    refine r_aln (pc := 5) C 0 rfl dX3_hasInput_5 ?_
    refine c_RV (pc := 6) (As := []) (wc := [(sA, cSt fst wid mid las pat bro mov cnt sI sO sB sM sG sW)]) (qr := 0) C (k_X3_inputs l D cT sA fst wid mid las pat bro mov cnt sI sO sB sM sG sW) (cwV 0 C.1.2.2.2.2 gX3_hasInput_X3_inputs rfl rfl rfl n_X3_inputs ⟨Nat.le_of_ble_eq_true rfl, Nat.le_of_ble_eq_true rfl⟩) [0] rfl rfl rfl rfl rfl (Nat.le_of_ble_eq_true rfl) ⟨Nat.zero_le _, Nat.zero_le _⟩ dX3_hasInput_6 (fun r6 h1 => ?_)
    subst h1
    refine r_cgeN (pc := 9) (tgt := 16) C (by omega) (by omega) dX3_hasInput_9 (by decide) (fun c9 => ?_) (fun c9 => ?_)
    · refine r_ic (pc := 16) (v := nI 0) C rfl dX3_hasInput_16 ?_
      subst hQ
      exact e_zR C hr hk rfl (Or.inr ⟨rfl, fun ⟨k, hk, hk2⟩ => by have := (nI_eq (by omega) (by omega)).mp hk; omega⟩) dX3_hasInput_17
    · refine r_ic (pc := 12) (v := nI 1) C rfl dX3_hasInput_12 ?_
      refine r_goto (pc := 13) (tgt := 17) C dX3_hasInput_13 (by decide) ?_
      subst hQ
      exact e_zR C hr hk rfl (Or.inl ⟨rfl, j, rfl, by omega⟩) dX3_hasInput_17

theorem iX3_hasOutput_X3 : ∀ w ∈ u_ws RX3 TX3 14, w ∈ wsX3_hasOutput := by decide +kernel
abbrev rmX3_hasOutput : Room := { frames := 1, cells := 0, slots := 0, locals := 21 }
theorem n_X3_hasOutput : yX3_hasOutput.cls = RX3 ∧ yX3_hasOutput.cls ≠ "java/lang/invoke/MethodHandle" ∧ yX3_hasOutput.cls ≠ "java/lang/invoke/VarHandle" ∧ (parseMethodDescriptor yX3_hasOutput.desc).map (fun d => d.parameters.length) = some 1 := by decide +kernel
set_option maxHeartbeats 4000000 in
set_option maxRecDepth 100000 in
theorem k_X3_hasOutput (l : Launch) (D : va_G) (cT : Nat → ClassId) (sA fst wid mid las pat bro mov cnt sI sO sB sM sG sW : Nat) (x : Int32) (hL : las * wid ≤ 16) : MR l D cT yX3_hasOutput wsX3_hasOutput rmX3_hasOutput [.ref sA, .int x] [(sA, cSt fst wid mid las pat bro mov cnt sI sO sB sM sG sW)] (fun r => (r = nI 1 ∧ ∃ j, x = nI j ∧ j < las * wid) ∨ (r = nI 0 ∧ ¬ ∃ j, x = nI j ∧ j < las * wid)) := by
  refine m_R [(0, .ref sA), (1, .int x)] (by decide +kernel) rfl (Nat.le_of_ble_eq_true rfl) rfl ?_
  intro p e s m args below meth c C hr hk
  generalize hQ : MQ below (vp_Si _) args s 0 0 (fun _ => False) = Q
  refine r_iln (pc := 0) C 1 rfl dX3_hasOutput_0 ?_
  refine r_zlt (pc := 1) (tgt := 20) C dX3_hasOutput_1 (by decide) (fun c1 => ?_) (fun c1 => ?_)
  · refine r_ic (pc := 20) (v := nI 0) C rfl dX3_hasOutput_20 ?_
    subst hQ
    exact e_zR C hr hk rfl (Or.inr ⟨rfl, fun ⟨k, hk, _⟩ => nI_pos (by omega) (hk ▸ c1)⟩) dX3_hasOutput_21
  · obtain ⟨j, hj, rfl⟩ := nI_of c1
    refine r_iln (pc := 4) C 1 rfl dX3_hasOutput_4 ?_
    refine r_aln (pc := 5) C 0 rfl dX3_hasOutput_5 ?_
    refine r_aln (pc := 6) C 0 rfl dX3_hasOutput_6 ?_
    refine r_get (pc := 7) C iX3_hasOutput_X3 0 rfl rfl 3 (by decide) (mw 1 rfl) rfl rfl dX3_hasOutput_7 ?_
    refine c_RV (pc := 10) (As := [.int (nI las)]) (wc := [(sA, cSt fst wid mid las pat bro mov cnt sI sO sB sM sG sW)]) (qr := 0) C (k_X3_places l D cT sA fst wid mid las pat bro mov cnt sI sO sB sM sG sW las) (cwV 1 C.1.2.2.2.2 gX3_hasOutput_X3_places rfl rfl rfl n_X3_places ⟨Nat.le_of_ble_eq_true rfl, Nat.le_of_ble_eq_true rfl⟩) [0] rfl rfl rfl rfl rfl (Nat.le_of_ble_eq_true rfl) ⟨Nat.zero_le _, Nat.zero_le _⟩ dX3_hasOutput_10 (fun r10 h1 => ?_)
    subst h1
    refine r_cgeN (pc := 13) (tgt := 20) C (by omega) (by omega) dX3_hasOutput_13 (by decide) (fun c13 => ?_) (fun c13 => ?_)
    · refine r_ic (pc := 20) (v := nI 0) C rfl dX3_hasOutput_20 ?_
      subst hQ
      exact e_zR C hr hk rfl (Or.inr ⟨rfl, fun ⟨k, hk, hk2⟩ => by have := (nI_eq (by omega) (by omega)).mp hk; omega⟩) dX3_hasOutput_21
    · refine r_ic (pc := 16) (v := nI 1) C rfl dX3_hasOutput_16 ?_
      refine r_goto (pc := 17) (tgt := 21) C dX3_hasOutput_17 (by decide) ?_
      subst hQ
      exact e_zR C hr hk rfl (Or.inl ⟨rfl, j, rfl, by omega⟩) dX3_hasOutput_21

theorem iX3_hasMiddle_X3 : ∀ w ∈ u_ws RX3 TX3 14, w ∈ wsX3_hasMiddle := by decide +kernel
abbrev rmX3_hasMiddle : Room := { frames := 0, cells := 0, slots := 0, locals := 0 }
theorem n_X3_hasMiddle : yX3_hasMiddle.cls = RX3 ∧ yX3_hasMiddle.cls ≠ "java/lang/invoke/MethodHandle" ∧ yX3_hasMiddle.cls ≠ "java/lang/invoke/VarHandle" ∧ (parseMethodDescriptor yX3_hasMiddle.desc).map (fun d => d.parameters.length) = some 1 := by decide +kernel
set_option maxHeartbeats 4000000 in
set_option maxRecDepth 100000 in
theorem k_X3_hasMiddle (l : Launch) (D : va_G) (cT : Nat → ClassId) (sA fst wid mid las pat bro mov cnt sI sO sB sM sG sW : Nat) (x : Int32) (hL : mid ≤ 4) : MR l D cT yX3_hasMiddle wsX3_hasMiddle rmX3_hasMiddle [.ref sA, .int x] [(sA, cSt fst wid mid las pat bro mov cnt sI sO sB sM sG sW)] (fun r => (r = nI 1 ∧ ∃ j, x = nI j ∧ j < mid) ∨ (r = nI 0 ∧ ¬ ∃ j, x = nI j ∧ j < mid)) := by
  refine m_R [(0, .ref sA), (1, .int x)] (by decide +kernel) rfl (Nat.le_of_ble_eq_true rfl) rfl ?_
  intro p e s m args below meth c C hr hk
  generalize hQ : MQ below (vp_Si _) args s 0 0 (fun _ => False) = Q
  refine r_iln (pc := 0) C 1 rfl dX3_hasMiddle_0 ?_
  refine r_zlt (pc := 1) (tgt := 16) C dX3_hasMiddle_1 (by decide) (fun c1 => ?_) (fun c1 => ?_)
  · refine r_ic (pc := 16) (v := nI 0) C rfl dX3_hasMiddle_16 ?_
    subst hQ
    exact e_zR C hr hk rfl (Or.inr ⟨rfl, fun ⟨k, hk, _⟩ => nI_pos (by omega) (hk ▸ c1)⟩) dX3_hasMiddle_17
  · obtain ⟨j, hj, rfl⟩ := nI_of c1
    refine r_iln (pc := 4) C 1 rfl dX3_hasMiddle_4 ?_
    refine r_aln (pc := 5) C 0 rfl dX3_hasMiddle_5 ?_
    refine r_get (pc := 6) C iX3_hasMiddle_X3 0 rfl rfl 2 (by decide) (mw 1 rfl) rfl rfl dX3_hasMiddle_6 ?_
    refine r_cgeN (pc := 9) (tgt := 16) C (by omega) (by omega) dX3_hasMiddle_9 (by decide) (fun c9 => ?_) (fun c9 => ?_)
    · refine r_ic (pc := 16) (v := nI 0) C rfl dX3_hasMiddle_16 ?_
      subst hQ
      exact e_zR C hr hk rfl (Or.inr ⟨rfl, fun ⟨k, hk, hk2⟩ => by have := (nI_eq (by omega) (by omega)).mp hk; omega⟩) dX3_hasMiddle_17
    · refine r_ic (pc := 12) (v := nI 1) C rfl dX3_hasMiddle_12 ?_
      refine r_goto (pc := 13) (tgt := 17) C dX3_hasMiddle_13 (by decide) ?_
      subst hQ
      exact e_zR C hr hk rfl (Or.inl ⟨rfl, j, rfl, by omega⟩) dX3_hasMiddle_17

theorem iX3_hasCall_X3 : ∀ w ∈ u_ws RX3 TX3 14, w ∈ wsX3_hasCall := by decide +kernel
abbrev rmX3_hasCall : Room := { frames := 0, cells := 0, slots := 0, locals := 0 }
theorem n_X3_hasCall : yX3_hasCall.cls = RX3 ∧ yX3_hasCall.cls ≠ "java/lang/invoke/MethodHandle" ∧ yX3_hasCall.cls ≠ "java/lang/invoke/VarHandle" ∧ (parseMethodDescriptor yX3_hasCall.desc).map (fun d => d.parameters.length) = some 1 := by decide +kernel
set_option maxHeartbeats 4000000 in
set_option maxRecDepth 100000 in
theorem k_X3_hasCall (l : Launch) (D : va_G) (cT : Nat → ClassId) (sA fst wid mid las pat bro mov cnt sI sO sB sM sG sW : Nat) (x : Int32) (hL : cnt ≤ 16) : MR l D cT yX3_hasCall wsX3_hasCall rmX3_hasCall [.ref sA, .int x] [(sA, cSt fst wid mid las pat bro mov cnt sI sO sB sM sG sW)] (fun r => (r = nI 1 ∧ ∃ j, x = nI j ∧ j < cnt) ∨ (r = nI 0 ∧ ¬ ∃ j, x = nI j ∧ j < cnt)) := by
  refine m_R [(0, .ref sA), (1, .int x)] (by decide +kernel) rfl (Nat.le_of_ble_eq_true rfl) rfl ?_
  intro p e s m args below meth c C hr hk
  generalize hQ : MQ below (vp_Si _) args s 0 0 (fun _ => False) = Q
  refine r_iln (pc := 0) C 1 rfl dX3_hasCall_0 ?_
  refine r_zlt (pc := 1) (tgt := 16) C dX3_hasCall_1 (by decide) (fun c1 => ?_) (fun c1 => ?_)
  · refine r_ic (pc := 16) (v := nI 0) C rfl dX3_hasCall_16 ?_
    subst hQ
    exact e_zR C hr hk rfl (Or.inr ⟨rfl, fun ⟨k, hk, _⟩ => nI_pos (by omega) (hk ▸ c1)⟩) dX3_hasCall_17
  · obtain ⟨j, hj, rfl⟩ := nI_of c1
    refine r_iln (pc := 4) C 1 rfl dX3_hasCall_4 ?_
    refine r_aln (pc := 5) C 0 rfl dX3_hasCall_5 ?_
    refine r_get (pc := 6) C iX3_hasCall_X3 0 rfl rfl 7 (by decide) (mw 1 rfl) rfl rfl dX3_hasCall_6 ?_
    refine r_cgeN (pc := 9) (tgt := 16) C (by omega) (by omega) dX3_hasCall_9 (by decide) (fun c9 => ?_) (fun c9 => ?_)
    · refine r_ic (pc := 16) (v := nI 0) C rfl dX3_hasCall_16 ?_
      subst hQ
      exact e_zR C hr hk rfl (Or.inr ⟨rfl, fun ⟨k, hk, hk2⟩ => by have := (nI_eq (by omega) (by omega)).mp hk; omega⟩) dX3_hasCall_17
    · refine r_ic (pc := 12) (v := nI 1) C rfl dX3_hasCall_12 ?_
      refine r_goto (pc := 13) (tgt := 17) C dX3_hasCall_13 (by decide) ?_
      subst hQ
      exact e_zR C hr hk rfl (Or.inl ⟨rfl, j, rfl, by omega⟩) dX3_hasCall_17

theorem iX3_isBroken_X3 : ∀ w ∈ u_ws RX3 TX3 14, w ∈ wsX3_isBroken := by decide +kernel
abbrev rmX3_isBroken : Room := { frames := 0, cells := 0, slots := 0, locals := 0 }
theorem n_X3_isBroken : yX3_isBroken.cls = RX3 ∧ yX3_isBroken.cls ≠ "java/lang/invoke/MethodHandle" ∧ yX3_isBroken.cls ≠ "java/lang/invoke/VarHandle" ∧ (parseMethodDescriptor yX3_isBroken.desc).map (fun d => d.parameters.length) = some 1 := by decide +kernel
set_option maxHeartbeats 4000000 in
set_option maxRecDepth 100000 in
theorem k_X3_isBroken (l : Launch) (D : va_G) (cT : Nat → ClassId) (sA fst wid mid las pat bro mov cnt sI sO sB sM sG sW mb : Nat) (hm : mb < 31) (hb2 : bro < 16) : MR l D cT yX3_isBroken wsX3_isBroken rmX3_isBroken [.ref sA, .int (nI mb)] [(sA, cSt fst wid mid las pat bro mov cnt sI sO sB sM sG sW)] (fun r => (r = nI 1 ∧ bro.testBit mb = true) ∨ (r = nI 0 ∧ bro.testBit mb = false)) := by
  refine m_R [(0, .ref sA), (1, .int (nI mb))] (by decide +kernel) rfl (Nat.le_of_ble_eq_true rfl) rfl ?_
  intro p e s m args below meth c C hr hk
  generalize hQ : MQ below (vp_Si _) args s 0 0 (fun _ => False) = Q
  refine r_aln (pc := 0) C 0 rfl dX3_isBroken_0 ?_
  refine r_get (pc := 1) C iX3_isBroken_X3 0 rfl rfl 5 (by decide) (mw 1 rfl) rfl rfl dX3_isBroken_1 ?_
  refine r_iln (pc := 4) C 1 rfl dX3_isBroken_4 ?_
  refine r_ishrN (pc := 5) C (by omega) (by omega) dX3_isBroken_5 ?_
  refine r_ic (pc := 6) (v := nI 1) C rfl dX3_isBroken_6 ?_
  refine r_iandN (pc := 7) C dX3_isBroken_7 ?_
  refine r_v (y := nI (bro.testBit mb).toNat) (congrArg nI (rw_bit _ _)) ?_
  refine r_zeqN (pc := 8) (tgt := 15) C bool_lt dX3_isBroken_8 (by decide) (fun c8 => ?_) (fun c8 => ?_)
  · have c8 := bool_0.mp c8
    refine r_ic (pc := 15) (v := nI 0) C rfl dX3_isBroken_15 ?_
    subst hQ
    exact e_zR C hr hk rfl (Or.inr ⟨rfl, c8⟩) dX3_isBroken_16
  · have c8 := bool_1.mp c8
    refine r_ic (pc := 11) (v := nI 1) C rfl dX3_isBroken_11 ?_
    refine r_goto (pc := 12) (tgt := 16) C dX3_isBroken_12 (by decide) ?_
    subst hQ
    exact e_zR C hr hk rfl (Or.inl ⟨rfl, c8⟩) dX3_isBroken_16

theorem iX3_wholeBoards_X3 : ∀ w ∈ u_ws RX3 TX3 14, w ∈ wsX3_wholeBoards := by decide +kernel
abbrev rmX3_wholeBoards : Room := { frames := 0, cells := 0, slots := 0, locals := 0 }
theorem n_X3_wholeBoards : yX3_wholeBoards.cls = RX3 ∧ yX3_wholeBoards.cls ≠ "java/lang/invoke/MethodHandle" ∧ yX3_wholeBoards.cls ≠ "java/lang/invoke/VarHandle" ∧ (parseMethodDescriptor yX3_wholeBoards.desc).map (fun d => d.parameters.length) = some 0 := by decide +kernel
set_option maxHeartbeats 4000000 in
set_option maxRecDepth 100000 in
theorem k_X3_wholeBoards (l : Launch) (D : va_G) (cT : Nat → ClassId) (sA fst wid mid las pat bro mov cnt sI sO sB sM sG sW : Nat) (hm : mid ≤ 4) : MR l D cT yX3_wholeBoards wsX3_wholeBoards rmX3_wholeBoards [.ref sA] [(sA, cSt fst wid mid las pat bro mov cnt sI sO sB sM sG sW)] (fun r => r = nI (wo (2 ^ mid - 1) bro)) := by
  refine m_R [(0, .ref sA)] (by decide +kernel) rfl (Nat.le_of_ble_eq_true rfl) rfl ?_
  intro p e s m args below meth c C hr hk
  generalize hQ : MQ below (vp_Si _) args s 0 0 (fun _ => False) = Q
  refine r_ic (pc := 0) (v := nI 1) C rfl dX3_wholeBoards_0 ?_
  refine r_aln (pc := 1) C 0 rfl dX3_wholeBoards_1 ?_
  refine r_get (pc := 2) C iX3_wholeBoards_X3 0 rfl rfl 2 (by decide) (mw 1 rfl) rfl rfl dX3_wholeBoards_2 ?_
  refine r_ishlN (pc := 5) C (by first | omega | exact Nat.one_le_two_pow) (by rw [Nat.one_mul]; exact p2_lt31 (by first | omega | exact Nat.one_le_two_pow)) dX3_wholeBoards_5 ?_
  refine r_v (y := nI (2 ^ mid)) (congrArg nI (Nat.one_mul _)) ?_
  refine r_ic (pc := 6) (v := nI 1) C rfl dX3_wholeBoards_6 ?_
  refine r_isubN (pc := 7) C (by first | omega | exact Nat.one_le_two_pow) dX3_wholeBoards_7 ?_
  refine r_aln (pc := 8) C 0 rfl dX3_wholeBoards_8 ?_
  refine r_get (pc := 9) C iX3_wholeBoards_X3 0 rfl rfl 5 (by decide) (mw 2 rfl) rfl rfl dX3_wholeBoards_9 ?_
  refine r_ic (pc := 12) (v := (-1)) C rfl dX3_wholeBoards_12 ?_
  refine r_ixor (pc := 13) C dX3_wholeBoards_13 ?_
  refine r_iandWo (pc := 14) C dX3_wholeBoards_14 ?_
  subst hQ
  exact e_iR C hr hk rfl dX3_wholeBoards_15

theorem iX3_boardOf_X3 : ∀ w ∈ u_ws RX3 TX3 14, w ∈ wsX3_boardOf := by decide +kernel
abbrev rmX3_boardOf : Room := { frames := 0, cells := 0, slots := 0, locals := 0 }
theorem n_X3_boardOf : yX3_boardOf.cls = RX3 ∧ yX3_boardOf.cls ≠ "java/lang/invoke/MethodHandle" ∧ yX3_boardOf.cls ≠ "java/lang/invoke/VarHandle" ∧ (parseMethodDescriptor yX3_boardOf.desc).map (fun d => d.parameters.length) = some 1 := by decide +kernel
set_option maxHeartbeats 4000000 in
set_option maxRecDepth 100000 in
theorem k_X3_boardOf (l : Launch) (D : va_G) (cT : Nat → ClassId) (sA fst wid mid las pat bro mov cnt sI sO sB sM sG sW x : Nat) (hw0 : 0 < wid) (hw1 : wid ≤ 4) (hx : x < 16) : MR l D cT yX3_boardOf wsX3_boardOf rmX3_boardOf [.ref sA, .int (nI x)] [(sA, cSt fst wid mid las pat bro mov cnt sI sO sB sM sG sW)] (fun r => r = nI (x / wid)) := by
  refine m_R [(0, .ref sA), (1, .int (nI x))] (by decide +kernel) rfl (Nat.le_of_ble_eq_true rfl) rfl ?_
  intro p e s m args below meth c C hr hk
  generalize hQ : MQ below (vp_Si _) args s 0 0 (fun _ => False) = Q
  refine r_aln (pc := 0) C 0 rfl dX3_boardOf_0 ?_
  refine r_get (pc := 1) C iX3_boardOf_X3 0 rfl rfl 1 (by decide) (mw 1 rfl) rfl rfl dX3_boardOf_1 ?_
  refine r_zleN (pc := 4) (tgt := 16) C (by omega) dX3_boardOf_4 (by decide) (fun c4 => absurd c4 (by omega)) (fun c4 => ?_)
  refine r_iln (pc := 7) C 1 rfl dX3_boardOf_7 ?_
  refine r_aln (pc := 8) C 0 rfl dX3_boardOf_8 ?_
  refine r_get (pc := 9) C iX3_boardOf_X3 0 rfl rfl 1 (by decide) (mw 1 rfl) rfl rfl dX3_boardOf_9 ?_
  refine r_idivN (pc := 12) C (by omega) (by omega) (by omega) dX3_boardOf_12 ?_
  refine r_goto (pc := 13) (tgt := 17) C dX3_boardOf_13 (by decide) ?_
  subst hQ
  exact e_iR C hr hk rfl dX3_boardOf_17

theorem iX3_lastBoardsOf_X3 : ∀ w ∈ u_ws RX3 TX3 14, w ∈ wsX3_lastBoardsOf := by decide +kernel
abbrev rmX3_lastBoardsOf : Room := { frames := 1, cells := 0, slots := 0, locals := 21 }
theorem n_X3_lastBoardsOf : yX3_lastBoardsOf.cls = RX3 ∧ yX3_lastBoardsOf.cls ≠ "java/lang/invoke/MethodHandle" ∧ yX3_lastBoardsOf.cls ≠ "java/lang/invoke/VarHandle" ∧ (parseMethodDescriptor yX3_lastBoardsOf.desc).map (fun d => d.parameters.length) = some 1 := by decide +kernel
set_option maxHeartbeats 4000000 in
set_option maxRecDepth 100000 in
theorem k_X3_lastBoardsOf (l : Launch) (D : va_G) (cT : Nat → ClassId) (sA fst wid mid las pat bro mov cnt sI sO sB sM sG sW : Nat) (outs : Nat → Nat) (ca : Nat) (hw0 : 0 < wid) (hw1 : wid ≤ 4) (hc : ca < 16) (ho2 : outs ca < 65536) : MR l D cT yX3_lastBoardsOf wsX3_lastBoardsOf rmX3_lastBoardsOf [.ref sA, .int (nI ca)] [(sA, cSt fst wid mid las pat bro mov cnt sI sO sB sM sG sW), (sO, aN (cT 0) 16 outs)] (fun r => r = nI (lbs wid (outs ca))) := by
  refine m_R [(0, .ref sA), (1, .int (nI ca))] (by decide +kernel) rfl (Nat.le_of_ble_eq_true rfl) rfl ?_
  intro p e s m args below meth c C hr hk
  generalize hQ : MQ below (vp_Si _) args s 0 0 (fun _ => False) = Q
  refine r_ic (pc := 0) (v := nI 0) C rfl dX3_lastBoardsOf_0 ?_
  refine r_isn (pc := 1) C [1, 2, 0] [(0, .ref sA), (1, .int (nI ca)), (2, .int (nI 0))] rfl (by decide) rfl dX3_lastBoardsOf_1 ?_
  refine r_ic (pc := 2) (v := nI 0) C rfl dX3_lastBoardsOf_2 ?_
  refine r_isn (pc := 3) C [1, 2, 3, 0] [(0, .ref sA), (1, .int (nI ca)), (2, .int (nI 0)), (3, .int (nI 0))] rfl (by decide) rfl dX3_lastBoardsOf_3 ?_
  have L4 : ∀ (n4 : Nat) (i : Nat) (hi2 : i ≤ 16), 16 - i < n4 → RW p l e (headSpec wsX3_lastBoardsOf rmX3_lastBoardsOf).room s m args below meth c (IR s D) 4 0 0 Q [(sA, cSt fst wid mid las pat bro mov cnt sI sO sB sM sG sW), (sO, aN (cT 0) 16 outs)] 4 [(0, .ref sA), (1, .int (nI ca)), (2, .int (nI (lbTo wid (outs ca) i))), (3, .int (nI i))] [] := by
    intro n4
    induction n4 with
    | zero => intro i hi2 hn4; exact absurd hn4 (Nat.not_lt_zero _)
    | succ n4 ih4 =>
      intro i hi2 hn4
      refine r_iln (pc := 4) C 3 rfl dX3_lastBoardsOf_4 ?_
      refine r_bi (pc := 5) (v := nI 16) C rfl dX3_lastBoardsOf_5 ?_
      refine r_cgeN (pc := 7) (tgt := 39) C (by first | omega | (have := Nat.div_le_self i wid; omega) | exact lt_trans2 (lbTo_lt wid (outs ca) i (by omega))) (by first | omega | (have := Nat.div_le_self i wid; omega) | exact lt_trans2 (lbTo_lt wid (outs ca) i (by omega))) dX3_lastBoardsOf_7 (by decide) (fun c7 => ?_) (fun c7 => ?_)
      · refine r_iln (pc := 39) C 2 rfl dX3_lastBoardsOf_39 ?_
        subst hQ
        exact e_iR C hr hk (congrArg (fun k => nI (lbTo wid (outs ca) k)) (by omega)) dX3_lastBoardsOf_40
      · refine r_aln (pc := 10) C 0 rfl dX3_lastBoardsOf_10 ?_
        refine r_get (pc := 11) C iX3_lastBoardsOf_X3 0 rfl rfl 9 (by decide) (mw 1 rfl) rfl rfl dX3_lastBoardsOf_11 ?_
        refine r_iln (pc := 14) C 1 rfl dX3_lastBoardsOf_14 ?_
        refine r_ialN (pc := 15) C 1 rfl (by first | omega | (have := Nat.div_le_self i wid; omega) | exact lt_trans2 (lbTo_lt wid (outs ca) i (by omega))) (by decide) dX3_lastBoardsOf_15 ?_
        refine r_iln (pc := 16) C 3 rfl dX3_lastBoardsOf_16 ?_
        refine r_ishrN (pc := 17) C (by omega) (by first | omega | (have := Nat.div_le_self i wid; omega) | exact lt_trans2 (lbTo_lt wid (outs ca) i (by omega))) dX3_lastBoardsOf_17 ?_
        refine r_ic (pc := 18) (v := nI 1) C rfl dX3_lastBoardsOf_18 ?_
        refine r_iandN (pc := 19) C dX3_lastBoardsOf_19 ?_
        refine r_v (y := nI ((outs ca).testBit i).toNat) (congrArg nI (rw_bit _ _)) ?_
        refine r_zeqN (pc := 20) (tgt := 33) C bool_lt dX3_lastBoardsOf_20 (by decide) (fun c20 => ?_) (fun c20 => ?_)
        · have c20 := bool_0.mp c20
          refine r_incN (pc := 33) C 3 [1, 2, 3, 0] [(0, .ref sA), (1, .int (nI ca)), (2, .int (nI (lbTo wid (outs ca) i))), (3, .int (nI (i + 1)))] rfl (by decide) rfl dX3_lastBoardsOf_33 ?_
          refine r_goto (pc := 36) (tgt := 4) C dX3_lastBoardsOf_36 (by decide) ?_
          rw [show lbTo wid (outs ca) i = lbTo wid (outs ca) (i + 1) from (if_neg (by rw [c20]; decide)).symm]
          exact ih4 (i + 1) (by omega) (by omega)
        · have c20 := bool_1.mp c20
          refine r_iln (pc := 23) C 2 rfl dX3_lastBoardsOf_23 ?_
          refine r_ic (pc := 24) (v := nI 1) C rfl dX3_lastBoardsOf_24 ?_
          refine r_aln (pc := 25) C 0 rfl dX3_lastBoardsOf_25 ?_
          refine r_iln (pc := 26) C 3 rfl dX3_lastBoardsOf_26 ?_
          refine c_RV (pc := 27) (As := [.int (nI i)]) (wc := [(sA, cSt fst wid mid las pat bro mov cnt sI sO sB sM sG sW)]) (qr := 0) C (k_X3_boardOf l D cT sA fst wid mid las pat bro mov cnt sI sO sB sM sG sW i (by first | assumption | omega) (by first | assumption | omega) (by first | assumption | omega)) (cwV 1 C.1.2.2.2.2 gX3_lastBoardsOf_X3_boardOf rfl rfl rfl n_X3_boardOf ⟨Nat.le_of_ble_eq_true rfl, Nat.le_of_ble_eq_true rfl⟩) [0] rfl rfl rfl rfl rfl (Nat.le_of_ble_eq_true rfl) ⟨Nat.zero_le _, Nat.zero_le _⟩ dX3_lastBoardsOf_27 (fun r27 h1 => ?_)
          subst h1
          refine r_ishlN (pc := 30) C (by first | omega | (have := Nat.div_le_self i wid; omega) | exact lt_trans2 (lbTo_lt wid (outs ca) i (by omega))) (by rw [Nat.one_mul]; exact p2_lt31 (by first | omega | (have := Nat.div_le_self i wid; omega) | exact lt_trans2 (lbTo_lt wid (outs ca) i (by omega)))) dX3_lastBoardsOf_30 ?_
          refine r_v (y := nI (2 ^ (i / wid))) (congrArg nI (Nat.one_mul _)) ?_
          refine r_iorN (pc := 31) C dX3_lastBoardsOf_31 ?_
          refine r_isn (pc := 32) C [1, 2, 0, 3] [(0, .ref sA), (1, .int (nI ca)), (2, .int (nI ((lbTo wid (outs ca) i) ||| (2 ^ (i / wid))))), (3, .int (nI i))] rfl (by decide) rfl dX3_lastBoardsOf_32 ?_
          refine r_incN (pc := 33) C 3 [1, 2, 3, 0] [(0, .ref sA), (1, .int (nI ca)), (2, .int (nI ((lbTo wid (outs ca) i) ||| (2 ^ (i / wid))))), (3, .int (nI (i + 1)))] rfl (by decide) rfl dX3_lastBoardsOf_33 ?_
          refine r_goto (pc := 36) (tgt := 4) C dX3_lastBoardsOf_36 (by decide) ?_
          rw [show lbTo wid (outs ca) i ||| 2 ^ (i / wid) = lbTo wid (outs ca) (i + 1) from (if_pos c20).symm]
          exact ih4 (i + 1) (by omega) (by omega)
  exact L4 _ 0 (by omega) (Nat.lt_succ_self _)

abbrev rmX3_linksOf : Room := { frames := 2, cells := 0, slots := 0, locals := 44 }
theorem n_X3_linksOf : yX3_linksOf.cls = RX3 ∧ yX3_linksOf.cls ≠ "java/lang/invoke/MethodHandle" ∧ yX3_linksOf.cls ≠ "java/lang/invoke/VarHandle" ∧ (parseMethodDescriptor yX3_linksOf.desc).map (fun d => d.parameters.length) = some 1 := by decide +kernel
set_option maxHeartbeats 4000000 in
set_option maxRecDepth 100000 in
theorem k_X3_linksOf (l : Launch) (D : va_G) (cT : Nat → ClassId) (sA fst wid mid las pat bro mov cnt sI sO sB sM sG sW : Nat) (outs : Nat → Nat) (ca : Nat) (hW1 : 1 ≤ wid) (hW2 : wid ≤ 4) (hc : ca < 16) (ho2 : outs ca < 65536) : MR l D cT yX3_linksOf wsX3_linksOf rmX3_linksOf [.ref sA, .int (nI ca)] [(sA, cSt fst wid mid las pat bro mov cnt sI sO sB sM sG sW), (sO, aN (cT 0) 16 outs)] (fun r => r = nI (1 + pcn (lbs wid (outs ca)))) := by
  refine m_R [(0, .ref sA), (1, .int (nI ca))] (by decide +kernel) rfl (Nat.le_of_ble_eq_true rfl) rfl ?_
  intro p e s m args below meth c C hr hk
  generalize hQ : MQ below (vp_Si _) args s 0 0 (fun _ => False) = Q
  refine r_ic (pc := 0) (v := nI 1) C rfl dX3_linksOf_0 ?_
  refine r_aln (pc := 1) C 0 rfl dX3_linksOf_1 ?_
  refine r_iln (pc := 2) C 1 rfl dX3_linksOf_2 ?_
  refine c_RV (pc := 3) (As := [.int (nI ca)]) (wc := [(sA, cSt fst wid mid las pat bro mov cnt sI sO sB sM sG sW), (sO, aN (cT 0) 16 outs)]) (qr := 0) C (k_X3_lastBoardsOf l D cT sA fst wid mid las pat bro mov cnt sI sO sB sM sG sW outs ca (by first | assumption | omega) (by first | assumption | omega) (by first | assumption | omega) (by first | assumption | omega)) (cwV 1 C.1.2.2.2.2 gX3_linksOf_X3_lastBoardsOf rfl rfl rfl n_X3_lastBoardsOf ⟨Nat.le_of_ble_eq_true rfl, Nat.le_of_ble_eq_true rfl⟩) [0, 1] rfl rfl rfl rfl rfl (Nat.le_of_ble_eq_true rfl) ⟨Nat.zero_le _, Nat.zero_le _⟩ dX3_linksOf_3 (fun r3 h1 => ?_)
  subst h1
  refine c_RS (pc := 6) (As := [.int (nI (lbs wid (outs ca)))]) (wc := [])  C (k_J6_bitCount_0f7a4 l D cT (lbs wid (outs ca)) (lbTo_lt wid (outs ca) 16 (by omega))) (va_cwS 1 C.1.2.2.2.2 gX3_linksOf_J6_bitCount_0f7a4 rfl rfl rfl n_J6_bitCount_0f7a4 ⟨Nat.le_of_ble_eq_true rfl, Nat.le_of_ble_eq_true rfl⟩) [] rfl rfl rfl (Nat.le_of_ble_eq_true rfl) ⟨Nat.zero_le _, Nat.zero_le _⟩ dX3_linksOf_6 (fun r6 h2 => ?_)
  subst h2
  refine r_iaddN (pc := 9) C dX3_linksOf_9 ?_
  subst hQ
  exact e_iR C hr hk rfl dX3_linksOf_10

theorem iX3_linksTaken_X3 : ∀ w ∈ u_ws RX3 TX3 14, w ∈ wsX3_linksTaken := by decide +kernel
abbrev rmX3_linksTaken : Room := { frames := 3, cells := 0, slots := 0, locals := 65 }
theorem n_X3_linksTaken : yX3_linksTaken.cls = RX3 ∧ yX3_linksTaken.cls ≠ "java/lang/invoke/MethodHandle" ∧ yX3_linksTaken.cls ≠ "java/lang/invoke/VarHandle" ∧ (parseMethodDescriptor yX3_linksTaken.desc).map (fun d => d.parameters.length) = some 0 := by decide +kernel
set_option maxHeartbeats 4000000 in
set_option maxRecDepth 100000 in
theorem k_X3_linksTaken (l : Launch) (D : va_G) (cT : Nat → ClassId) (sA fst wid mid las pat bro mov cnt sI sO sB sM sG sW : Nat) (outs : Nat → Nat) (hW1 : 1 ≤ wid) (hW2 : wid ≤ 4) (hCn : cnt ≤ 16) (hOu : ∀ c, c < 16 → outs c < 65536) : MR l D cT yX3_linksTaken wsX3_linksTaken rmX3_linksTaken [.ref sA] [(sA, cSt fst wid mid las pat bro mov cnt sI sO sB sM sG sW), (sO, aN (cT 0) 16 outs)] (fun r => r = nI (sumTo (fun c => 1 + pcn (lbs wid (outs c))) cnt)) := by
  refine m_R [(0, .ref sA)] (by decide +kernel) rfl (Nat.le_of_ble_eq_true rfl) rfl ?_
  intro p e s m args below meth c C hr hk
  generalize hQ : MQ below (vp_Si _) args s 0 0 (fun _ => False) = Q
  refine r_ic (pc := 0) (v := nI 0) C rfl dX3_linksTaken_0 ?_
  refine r_isn (pc := 1) C [1, 0] [(0, .ref sA), (1, .int (nI 0))] rfl (by decide) rfl dX3_linksTaken_1 ?_
  refine r_ic (pc := 2) (v := nI 0) C rfl dX3_linksTaken_2 ?_
  refine r_isn (pc := 3) C [1, 2, 0] [(0, .ref sA), (1, .int (nI 0)), (2, .int (nI 0))] rfl (by decide) rfl dX3_linksTaken_3 ?_
  have L4 : ∀ (n4 : Nat) (i : Nat) (hi2 : i ≤ cnt), cnt - i < n4 → RW p l e (headSpec wsX3_linksTaken rmX3_linksTaken).room s m args below meth c (IR s D) 3 0 0 Q [(sA, cSt fst wid mid las pat bro mov cnt sI sO sB sM sG sW), (sO, aN (cT 0) 16 outs)] 4 [(0, .ref sA), (1, .int (nI (sumTo (fun c => 1 + pcn (lbs wid (outs c))) i))), (2, .int (nI i))] [] := by
    intro n4
    induction n4 with
    | zero => intro i hi2 hn4; exact absurd hn4 (Nat.not_lt_zero _)
    | succ n4 ih4 =>
      intro i hi2 hn4
      refine r_iln (pc := 4) C 2 rfl dX3_linksTaken_4 ?_
      refine r_aln (pc := 5) C 0 rfl dX3_linksTaken_5 ?_
      refine r_get (pc := 6) C iX3_linksTaken_X3 0 rfl rfl 7 (by decide) (mw 1 rfl) rfl rfl dX3_linksTaken_6 ?_
      refine r_cgeN (pc := 9) (tgt := 26) C (by first | omega | (have := hIn i (by omega); omega) | (have := hOu i (by omega); omega) | (have := hBo i (by omega); omega) | exact lt_trans2 (lbTo_lt wid (outs i) 16 (by omega))) (by first | omega | (have := hIn i (by omega); omega) | (have := hOu i (by omega); omega) | (have := hBo i (by omega); omega) | exact lt_trans2 (lbTo_lt wid (outs i) 16 (by omega))) dX3_linksTaken_9 (by decide) (fun c9 => ?_) (fun c9 => ?_)
      · refine r_iln (pc := 26) C 1 rfl dX3_linksTaken_26 ?_
        subst hQ
        exact e_iR C hr hk (congrArg (fun k => nI (sumTo _ k)) (by omega)) dX3_linksTaken_27
      · refine r_iln (pc := 12) C 1 rfl dX3_linksTaken_12 ?_
        refine r_aln (pc := 13) C 0 rfl dX3_linksTaken_13 ?_
        refine r_iln (pc := 14) C 2 rfl dX3_linksTaken_14 ?_
        refine c_RV (pc := 15) (As := [.int (nI i)]) (wc := [(sA, cSt fst wid mid las pat bro mov cnt sI sO sB sM sG sW), (sO, aN (cT 0) 16 outs)]) (qr := 0) C (k_X3_linksOf l D cT sA fst wid mid las pat bro mov cnt sI sO sB sM sG sW outs i hW1 hW2 (by omega) (hOu i (by omega))) (cwV 1 C.1.2.2.2.2 gX3_linksTaken_X3_linksOf rfl rfl rfl n_X3_linksOf ⟨Nat.le_of_ble_eq_true rfl, Nat.le_of_ble_eq_true rfl⟩) [0, 1] rfl rfl rfl rfl rfl (Nat.le_of_ble_eq_true rfl) ⟨Nat.zero_le _, Nat.zero_le _⟩ dX3_linksTaken_15 (fun r15 h1 => ?_)
        subst h1
        refine r_iaddN (pc := 18) C dX3_linksTaken_18 ?_
        refine r_isn (pc := 19) C [1, 0, 2] [(0, .ref sA), (1, .int (nI ((sumTo (fun c => 1 + pcn (lbs wid (outs c))) i) + (1 + pcn (lbs wid (outs i)))))), (2, .int (nI i))] rfl (by decide) rfl dX3_linksTaken_19 ?_
        refine r_incN (pc := 20) C 2 [1, 2, 0] [(0, .ref sA), (1, .int (nI ((sumTo (fun c => 1 + pcn (lbs wid (outs c))) i) + (1 + pcn (lbs wid (outs i)))))), (2, .int (nI (i + 1)))] rfl (by decide) rfl dX3_linksTaken_20 ?_
        refine r_goto (pc := 23) (tgt := 4) C dX3_linksTaken_23 (by decide) ?_
        exact ih4 (i + 1) (by omega) (by omega)
  exact L4 _ 0 (Nat.zero_le _) (Nat.lt_succ_self _)

theorem iX3_outputsTaken_X3 : ∀ w ∈ u_ws RX3 TX3 14, w ∈ wsX3_outputsTaken := by decide +kernel
abbrev rmX3_outputsTaken : Room := { frames := 1, cells := 0, slots := 0, locals := 20 }
theorem n_X3_outputsTaken : yX3_outputsTaken.cls = RX3 ∧ yX3_outputsTaken.cls ≠ "java/lang/invoke/MethodHandle" ∧ yX3_outputsTaken.cls ≠ "java/lang/invoke/VarHandle" ∧ (parseMethodDescriptor yX3_outputsTaken.desc).map (fun d => d.parameters.length) = some 0 := by decide +kernel
set_option maxHeartbeats 4000000 in
set_option maxRecDepth 100000 in
theorem k_X3_outputsTaken (l : Launch) (D : va_G) (cT : Nat → ClassId) (sA fst wid mid las pat bro mov cnt sI sO sB sM sG sW : Nat) (outs : Nat → Nat) (hCn : cnt ≤ 16) (hOu : ∀ c, c < 16 → outs c < 65536) : MR l D cT yX3_outputsTaken wsX3_outputsTaken rmX3_outputsTaken [.ref sA] [(sA, cSt fst wid mid las pat bro mov cnt sI sO sB sM sG sW), (sO, aN (cT 0) 16 outs)] (fun r => r = nI (sumTo (fun c => pcn (outs c)) cnt)) := by
  refine m_R [(0, .ref sA)] (by decide +kernel) rfl (Nat.le_of_ble_eq_true rfl) rfl ?_
  intro p e s m args below meth c C hr hk
  generalize hQ : MQ below (vp_Si _) args s 0 0 (fun _ => False) = Q
  refine r_ic (pc := 0) (v := nI 0) C rfl dX3_outputsTaken_0 ?_
  refine r_isn (pc := 1) C [1, 0] [(0, .ref sA), (1, .int (nI 0))] rfl (by decide) rfl dX3_outputsTaken_1 ?_
  refine r_ic (pc := 2) (v := nI 0) C rfl dX3_outputsTaken_2 ?_
  refine r_isn (pc := 3) C [1, 2, 0] [(0, .ref sA), (1, .int (nI 0)), (2, .int (nI 0))] rfl (by decide) rfl dX3_outputsTaken_3 ?_
  have L4 : ∀ (n4 : Nat) (i : Nat) (hi2 : i ≤ cnt), cnt - i < n4 → RW p l e (headSpec wsX3_outputsTaken rmX3_outputsTaken).room s m args below meth c (IR s D) 3 0 0 Q [(sA, cSt fst wid mid las pat bro mov cnt sI sO sB sM sG sW), (sO, aN (cT 0) 16 outs)] 4 [(0, .ref sA), (1, .int (nI (sumTo (fun c => pcn (outs c)) i))), (2, .int (nI i))] [] := by
    intro n4
    induction n4 with
    | zero => intro i hi2 hn4; exact absurd hn4 (Nat.not_lt_zero _)
    | succ n4 ih4 =>
      intro i hi2 hn4
      refine r_iln (pc := 4) C 2 rfl dX3_outputsTaken_4 ?_
      refine r_aln (pc := 5) C 0 rfl dX3_outputsTaken_5 ?_
      refine r_get (pc := 6) C iX3_outputsTaken_X3 0 rfl rfl 7 (by decide) (mw 1 rfl) rfl rfl dX3_outputsTaken_6 ?_
      refine r_cgeN (pc := 9) (tgt := 30) C (by first | omega | (have := hIn i (by omega); omega) | (have := hOu i (by omega); omega) | (have := hBo i (by omega); omega) | exact lt_trans2 (lbTo_lt wid (outs i) 16 (by omega))) (by first | omega | (have := hIn i (by omega); omega) | (have := hOu i (by omega); omega) | (have := hBo i (by omega); omega) | exact lt_trans2 (lbTo_lt wid (outs i) 16 (by omega))) dX3_outputsTaken_9 (by decide) (fun c9 => ?_) (fun c9 => ?_)
      · refine r_iln (pc := 30) C 1 rfl dX3_outputsTaken_30 ?_
        subst hQ
        exact e_iR C hr hk (congrArg (fun k => nI (sumTo _ k)) (by omega)) dX3_outputsTaken_31
      · refine r_iln (pc := 12) C 1 rfl dX3_outputsTaken_12 ?_
        refine r_aln (pc := 13) C 0 rfl dX3_outputsTaken_13 ?_
        refine r_get (pc := 14) C iX3_outputsTaken_X3 0 rfl rfl 9 (by decide) (mw 2 rfl) rfl rfl dX3_outputsTaken_14 ?_
        refine r_iln (pc := 17) C 2 rfl dX3_outputsTaken_17 ?_
        refine r_ialN (pc := 18) C 1 rfl (by first | omega | (have := hIn i (by omega); omega) | (have := hOu i (by omega); omega) | (have := hBo i (by omega); omega) | exact lt_trans2 (lbTo_lt wid (outs i) 16 (by omega))) (by decide) dX3_outputsTaken_18 ?_
        refine c_RS (pc := 19) (As := [.int (nI (outs i))]) (wc := [])  C (k_J6_bitCount_0f7a4 l D cT (outs i) (hOu i (by omega))) (va_cwS 1 C.1.2.2.2.2 gX3_outputsTaken_J6_bitCount_0f7a4 rfl rfl rfl n_J6_bitCount_0f7a4 ⟨Nat.le_of_ble_eq_true rfl, Nat.le_of_ble_eq_true rfl⟩) [] rfl rfl rfl (Nat.le_of_ble_eq_true rfl) ⟨Nat.zero_le _, Nat.zero_le _⟩ dX3_outputsTaken_19 (fun r19 h1 => ?_)
        subst h1
        refine r_iaddN (pc := 22) C dX3_outputsTaken_22 ?_
        refine r_isn (pc := 23) C [1, 0, 2] [(0, .ref sA), (1, .int (nI ((sumTo (fun c => pcn (outs c)) i) + (pcn (outs i))))), (2, .int (nI i))] rfl (by decide) rfl dX3_outputsTaken_23 ?_
        refine r_incN (pc := 24) C 2 [1, 2, 0] [(0, .ref sA), (1, .int (nI ((sumTo (fun c => pcn (outs c)) i) + (pcn (outs i))))), (2, .int (nI (i + 1)))] rfl (by decide) rfl dX3_outputsTaken_24 ?_
        refine r_goto (pc := 27) (tgt := 4) C dX3_outputsTaken_27 (by decide) ?_
        exact ih4 (i + 1) (by omega) (by omega)
  exact L4 _ 0 (Nat.zero_le _) (Nat.lt_succ_self _)

theorem iX3_callAtInput_X3 : ∀ w ∈ u_ws RX3 TX3 14, w ∈ wsX3_callAtInput := by decide +kernel
abbrev rmX3_callAtInput : Room := { frames := 0, cells := 0, slots := 0, locals := 0 }
theorem n_X3_callAtInput : yX3_callAtInput.cls = RX3 ∧ yX3_callAtInput.cls ≠ "java/lang/invoke/MethodHandle" ∧ yX3_callAtInput.cls ≠ "java/lang/invoke/VarHandle" ∧ (parseMethodDescriptor yX3_callAtInput.desc).map (fun d => d.parameters.length) = some 1 := by decide +kernel
set_option maxHeartbeats 4000000 in
set_option maxRecDepth 100000 in
theorem k_X3_callAtInput (l : Launch) (D : va_G) (cT : Nat → ClassId) (sA fst wid mid las pat bro mov cnt sI sO sB sM sG sW : Nat) (inp : Nat → Nat) (x : Nat) (hCn : cnt ≤ 16) (hIn : ∀ c, c < 16 → inp c < 16) (hx : x < 16) : MR l D cT yX3_callAtInput wsX3_callAtInput rmX3_callAtInput [.ref sA, .int (nI x)] [(sA, cSt fst wid mid las pat bro mov cnt sI sO sB sM sG sW), (sI, aN (cT 0) 16 inp)] (fun r => (r = -1 ∧ ∀ k, k < cnt → ¬ (inp k = x)) ∨ ∃ k, r = nI k ∧ k < cnt ∧ (inp k = x) ∧ ∀ d, d < k → ¬ (inp d = x)) := by
  refine m_R [(0, .ref sA), (1, .int (nI x))] (by decide +kernel) rfl (Nat.le_of_ble_eq_true rfl) rfl ?_
  intro p e s m args below meth c C hr hk
  generalize hQ : MQ below (vp_Si _) args s 0 0 (fun _ => False) = Q
  refine r_ic (pc := 0) (v := nI 0) C rfl dX3_callAtInput_0 ?_
  refine r_isn (pc := 1) C [1, 2, 0] [(0, .ref sA), (1, .int (nI x)), (2, .int (nI 0))] rfl (by decide) rfl dX3_callAtInput_1 ?_
  have L2 : ∀ (n2 : Nat) (i : Nat) (hi2 : i ≤ cnt) (hq : ∀ k, k < i → ¬ (inp k = x)), cnt - i < n2 → RW p l e (headSpec wsX3_callAtInput rmX3_callAtInput).room s m args below meth c (IR s D) 3 0 0 Q [(sA, cSt fst wid mid las pat bro mov cnt sI sO sB sM sG sW), (sI, aN (cT 0) 16 inp)] 2 [(0, .ref sA), (1, .int (nI x)), (2, .int (nI i))] [] := by
    intro n2
    induction n2 with
    | zero => intro i hi2 hq hn2; exact absurd hn2 (Nat.not_lt_zero _)
    | succ n2 ih2 =>
      intro i hi2 hq hn2
      refine r_iln (pc := 2) C 2 rfl dX3_callAtInput_2 ?_
      refine r_aln (pc := 3) C 0 rfl dX3_callAtInput_3 ?_
      refine r_get (pc := 4) C iX3_callAtInput_X3 0 rfl rfl 7 (by decide) (mw 1 rfl) rfl rfl dX3_callAtInput_4 ?_
      refine r_cgeN (pc := 7) (tgt := 28) C (by first | omega | (have := hIn i (by omega); omega) | (have := hOu i (by omega); omega) | (have := hBo i (by omega); omega) | exact lt_trans2 (lbTo_lt wid (outs i) 16 (by omega))) (by first | omega | (have := hIn i (by omega); omega) | (have := hOu i (by omega); omega) | (have := hBo i (by omega); omega) | exact lt_trans2 (lbTo_lt wid (outs i) 16 (by omega))) dX3_callAtInput_7 (by decide) (fun c7 => ?_) (fun c7 => ?_)
      · refine r_ic (pc := 28) (v := (-1)) C rfl dX3_callAtInput_28 ?_
        subst hQ
        exact e_iR C hr hk (Or.inl ⟨rfl, fun k hk => hq k (by omega)⟩) dX3_callAtInput_29
      · refine r_aln (pc := 10) C 0 rfl dX3_callAtInput_10 ?_
        refine r_get (pc := 11) C iX3_callAtInput_X3 0 rfl rfl 8 (by decide) (mw 2 rfl) rfl rfl dX3_callAtInput_11 ?_
        refine r_iln (pc := 14) C 2 rfl dX3_callAtInput_14 ?_
        refine r_ialN (pc := 15) C 1 rfl (by first | omega | (have := hIn i (by omega); omega) | (have := hOu i (by omega); omega) | (have := hBo i (by omega); omega) | exact lt_trans2 (lbTo_lt wid (outs i) 16 (by omega))) (by decide) dX3_callAtInput_15 ?_
        refine r_iln (pc := 16) C 1 rfl dX3_callAtInput_16 ?_
        refine r_cneN (pc := 17) (tgt := 22) C (by first | omega | (have := hIn i (by omega); omega) | (have := hOu i (by omega); omega) | (have := hBo i (by omega); omega) | exact lt_trans2 (lbTo_lt wid (outs i) 16 (by omega))) (by first | omega | (have := hIn i (by omega); omega) | (have := hOu i (by omega); omega) | (have := hBo i (by omega); omega) | exact lt_trans2 (lbTo_lt wid (outs i) 16 (by omega))) dX3_callAtInput_17 (by decide) (fun c17 => ?_) (fun c17 => ?_)
        · refine r_incN (pc := 22) C 2 [1, 2, 0] [(0, .ref sA), (1, .int (nI x)), (2, .int (nI (i + 1)))] rfl (by decide) rfl dX3_callAtInput_22 ?_
          refine r_goto (pc := 25) (tgt := 2) C dX3_callAtInput_25 (by decide) ?_
          exact ih2 (i + 1) (by omega) (fun k hk => by rcases Nat.lt_succ_iff_lt_or_eq.mp hk with g | g; exact hq k g; subst g; exact c17) (by omega)
        · refine r_iln (pc := 20) C 2 rfl dX3_callAtInput_20 ?_
          subst hQ
          exact e_iR C hr hk (Or.inr ⟨i, rfl, by omega, c17, hq⟩) dX3_callAtInput_21
  exact L2 _ 0 (Nat.zero_le _) (fun k hk => absurd hk (Nat.not_lt_zero _)) (Nat.lt_succ_self _)

theorem iX3_callAtOutput_X3 : ∀ w ∈ u_ws RX3 TX3 14, w ∈ wsX3_callAtOutput := by decide +kernel
abbrev rmX3_callAtOutput : Room := { frames := 0, cells := 0, slots := 0, locals := 0 }
theorem n_X3_callAtOutput : yX3_callAtOutput.cls = RX3 ∧ yX3_callAtOutput.cls ≠ "java/lang/invoke/MethodHandle" ∧ yX3_callAtOutput.cls ≠ "java/lang/invoke/VarHandle" ∧ (parseMethodDescriptor yX3_callAtOutput.desc).map (fun d => d.parameters.length) = some 1 := by decide +kernel
set_option maxHeartbeats 4000000 in
set_option maxRecDepth 100000 in
theorem k_X3_callAtOutput (l : Launch) (D : va_G) (cT : Nat → ClassId) (sA fst wid mid las pat bro mov cnt sI sO sB sM sG sW : Nat) (outs : Nat → Nat) (y : Nat) (hCn : cnt ≤ 16) (hOu : ∀ c, c < 16 → outs c < 65536) (hy : y < 16) : MR l D cT yX3_callAtOutput wsX3_callAtOutput rmX3_callAtOutput [.ref sA, .int (nI y)] [(sA, cSt fst wid mid las pat bro mov cnt sI sO sB sM sG sW), (sO, aN (cT 0) 16 outs)] (fun r => (r = -1 ∧ ∀ k, k < cnt → ¬ ((outs k).testBit y = true)) ∨ ∃ k, r = nI k ∧ k < cnt ∧ ((outs k).testBit y = true) ∧ ∀ d, d < k → ¬ ((outs d).testBit y = true)) := by
  refine m_R [(0, .ref sA), (1, .int (nI y))] (by decide +kernel) rfl (Nat.le_of_ble_eq_true rfl) rfl ?_
  intro p e s m args below meth c C hr hk
  generalize hQ : MQ below (vp_Si _) args s 0 0 (fun _ => False) = Q
  refine r_ic (pc := 0) (v := nI 0) C rfl dX3_callAtOutput_0 ?_
  refine r_isn (pc := 1) C [1, 2, 0] [(0, .ref sA), (1, .int (nI y)), (2, .int (nI 0))] rfl (by decide) rfl dX3_callAtOutput_1 ?_
  have L2 : ∀ (n2 : Nat) (i : Nat) (hi2 : i ≤ cnt) (hq : ∀ k, k < i → ¬ ((outs k).testBit y = true)), cnt - i < n2 → RW p l e (headSpec wsX3_callAtOutput rmX3_callAtOutput).room s m args below meth c (IR s D) 3 0 0 Q [(sA, cSt fst wid mid las pat bro mov cnt sI sO sB sM sG sW), (sO, aN (cT 0) 16 outs)] 2 [(0, .ref sA), (1, .int (nI y)), (2, .int (nI i))] [] := by
    intro n2
    induction n2 with
    | zero => intro i hi2 hq hn2; exact absurd hn2 (Nat.not_lt_zero _)
    | succ n2 ih2 =>
      intro i hi2 hq hn2
      refine r_iln (pc := 2) C 2 rfl dX3_callAtOutput_2 ?_
      refine r_aln (pc := 3) C 0 rfl dX3_callAtOutput_3 ?_
      refine r_get (pc := 4) C iX3_callAtOutput_X3 0 rfl rfl 7 (by decide) (mw 1 rfl) rfl rfl dX3_callAtOutput_4 ?_
      refine r_cgeN (pc := 7) (tgt := 31) C (by first | omega | (have := hIn i (by omega); omega) | (have := hOu i (by omega); omega) | (have := hBo i (by omega); omega) | exact lt_trans2 (lbTo_lt wid (outs i) 16 (by omega))) (by first | omega | (have := hIn i (by omega); omega) | (have := hOu i (by omega); omega) | (have := hBo i (by omega); omega) | exact lt_trans2 (lbTo_lt wid (outs i) 16 (by omega))) dX3_callAtOutput_7 (by decide) (fun c7 => ?_) (fun c7 => ?_)
      · refine r_ic (pc := 31) (v := (-1)) C rfl dX3_callAtOutput_31 ?_
        subst hQ
        exact e_iR C hr hk (Or.inl ⟨rfl, fun k hk => hq k (by omega)⟩) dX3_callAtOutput_32
      · refine r_aln (pc := 10) C 0 rfl dX3_callAtOutput_10 ?_
        refine r_get (pc := 11) C iX3_callAtOutput_X3 0 rfl rfl 9 (by decide) (mw 2 rfl) rfl rfl dX3_callAtOutput_11 ?_
        refine r_iln (pc := 14) C 2 rfl dX3_callAtOutput_14 ?_
        refine r_ialN (pc := 15) C 1 rfl (by first | omega | (have := hIn i (by omega); omega) | (have := hOu i (by omega); omega) | (have := hBo i (by omega); omega) | exact lt_trans2 (lbTo_lt wid (outs i) 16 (by omega))) (by decide) dX3_callAtOutput_15 ?_
        refine r_iln (pc := 16) C 1 rfl dX3_callAtOutput_16 ?_
        refine r_ishrN (pc := 17) C (by omega) (by first | omega | (have := hIn i (by omega); omega) | (have := hOu i (by omega); omega) | (have := hBo i (by omega); omega) | exact lt_trans2 (lbTo_lt wid (outs i) 16 (by omega))) dX3_callAtOutput_17 ?_
        refine r_ic (pc := 18) (v := nI 1) C rfl dX3_callAtOutput_18 ?_
        refine r_iandN (pc := 19) C dX3_callAtOutput_19 ?_
        refine r_v (y := nI ((outs i).testBit y).toNat) (congrArg nI (rw_bit _ _)) ?_
        refine r_zeqN (pc := 20) (tgt := 25) C bool_lt dX3_callAtOutput_20 (by decide) (fun c20 => ?_) (fun c20 => ?_)
        · have c20 := bool_0.mp c20
          refine r_incN (pc := 25) C 2 [1, 2, 0] [(0, .ref sA), (1, .int (nI y)), (2, .int (nI (i + 1)))] rfl (by decide) rfl dX3_callAtOutput_25 ?_
          refine r_goto (pc := 28) (tgt := 2) C dX3_callAtOutput_28 (by decide) ?_
          exact ih2 (i + 1) (by omega) (fun k hk => by rcases Nat.lt_succ_iff_lt_or_eq.mp hk with g | g; exact hq k g; subst g; rw [c20]; decide) (by omega)
        · have c20 := bool_1.mp c20
          refine r_iln (pc := 23) C 2 rfl dX3_callAtOutput_23 ?_
          subst hQ
          exact e_iR C hr hk (Or.inr ⟨i, rfl, by omega, c20, hq⟩) dX3_callAtOutput_24
  exact L2 _ 0 (Nat.zero_le _) (fun k hk => absurd hk (Nat.not_lt_zero _)) (Nat.lt_succ_self _)

theorem iX3_callFromFirst_X3 : ∀ w ∈ u_ws RX3 TX3 14, w ∈ wsX3_callFromFirst := by decide +kernel
abbrev rmX3_callFromFirst : Room := { frames := 1, cells := 0, slots := 0, locals := 21 }
theorem n_X3_callFromFirst : yX3_callFromFirst.cls = RX3 ∧ yX3_callFromFirst.cls ≠ "java/lang/invoke/MethodHandle" ∧ yX3_callFromFirst.cls ≠ "java/lang/invoke/VarHandle" ∧ (parseMethodDescriptor yX3_callFromFirst.desc).map (fun d => d.parameters.length) = some 2 := by decide +kernel
set_option maxHeartbeats 4000000 in
set_option maxRecDepth 100000 in
theorem k_X3_callFromFirst (l : Launch) (D : va_G) (cT : Nat → ClassId) (sA fst wid mid las pat bro mov cnt sI sO sB sM sG sW : Nat) (inp brd : Nat → Nat) (mb fb : Nat) (hCn : cnt ≤ 16) (hIn : ∀ c, c < 16 → inp c < 16) (hBo : ∀ c, c < 16 → brd c < 4) (hW1 : 1 ≤ wid) (hW2 : wid ≤ 4) (hm : mb < 4) (hf : fb < 4) : MR l D cT yX3_callFromFirst wsX3_callFromFirst rmX3_callFromFirst [.ref sA, .int (nI mb), .int (nI fb)] [(sA, cSt fst wid mid las pat bro mov cnt sI sO sB sM sG sW), (sI, aN (cT 0) 16 inp), (sB, aN (cT 0) 16 brd)] (fun r => (r = -1 ∧ ∀ k, k < cnt → ¬ (brd k = mb ∧ inp k / wid = fb)) ∨ ∃ k, r = nI k ∧ k < cnt ∧ (brd k = mb ∧ inp k / wid = fb) ∧ ∀ d, d < k → ¬ (brd d = mb ∧ inp d / wid = fb)) := by
  refine m_R [(0, .ref sA), (1, .int (nI mb)), (2, .int (nI fb))] (by decide +kernel) rfl (Nat.le_of_ble_eq_true rfl) rfl ?_
  intro p e s m args below meth c C hr hk
  generalize hQ : MQ below (vp_Si _) args s 0 0 (fun _ => False) = Q
  refine r_ic (pc := 0) (v := nI 0) C rfl dX3_callFromFirst_0 ?_
  refine r_isn (pc := 1) C [1, 2, 3, 0] [(0, .ref sA), (1, .int (nI mb)), (2, .int (nI fb)), (3, .int (nI 0))] rfl (by decide) rfl dX3_callFromFirst_1 ?_
  have L2 : ∀ (n2 : Nat) (i : Nat) (hi2 : i ≤ cnt) (hq : ∀ k, k < i → ¬ (brd k = mb ∧ inp k / wid = fb)), cnt - i < n2 → RW p l e (headSpec wsX3_callFromFirst rmX3_callFromFirst).room s m args below meth c (IR s D) 4 0 0 Q [(sA, cSt fst wid mid las pat bro mov cnt sI sO sB sM sG sW), (sI, aN (cT 0) 16 inp), (sB, aN (cT 0) 16 brd)] 2 [(0, .ref sA), (1, .int (nI mb)), (2, .int (nI fb)), (3, .int (nI i))] [] := by
    intro n2
    induction n2 with
    | zero => intro i hi2 hq hn2; exact absurd hn2 (Nat.not_lt_zero _)
    | succ n2 ih2 =>
      intro i hi2 hq hn2
      refine r_iln (pc := 2) C 3 rfl dX3_callFromFirst_2 ?_
      refine r_aln (pc := 3) C 0 rfl dX3_callFromFirst_3 ?_
      refine r_get (pc := 4) C iX3_callFromFirst_X3 0 rfl rfl 7 (by decide) (mw 1 rfl) rfl rfl dX3_callFromFirst_4 ?_
      refine r_cgeN (pc := 7) (tgt := 42) C (by first | omega | (have := hIn i (by omega); omega) | (have := hOu i (by omega); omega) | (have := hBo i (by omega); omega) | exact lt_trans2 (lbTo_lt wid (outs i) 16 (by omega))) (by first | omega | (have := hIn i (by omega); omega) | (have := hOu i (by omega); omega) | (have := hBo i (by omega); omega) | exact lt_trans2 (lbTo_lt wid (outs i) 16 (by omega))) dX3_callFromFirst_7 (by decide) (fun c7 => ?_) (fun c7 => ?_)
      · refine r_ic (pc := 42) (v := (-1)) C rfl dX3_callFromFirst_42 ?_
        subst hQ
        exact e_iR C hr hk (Or.inl ⟨rfl, fun k hk => hq k (by omega)⟩) dX3_callFromFirst_43
      · refine r_aln (pc := 10) C 0 rfl dX3_callFromFirst_10 ?_
        refine r_get (pc := 11) C iX3_callFromFirst_X3 0 rfl rfl 10 (by decide) (mw 2 rfl) rfl rfl dX3_callFromFirst_11 ?_
        refine r_iln (pc := 14) C 3 rfl dX3_callFromFirst_14 ?_
        refine r_ialN (pc := 15) C 2 rfl (by first | omega | (have := hIn i (by omega); omega) | (have := hOu i (by omega); omega) | (have := hBo i (by omega); omega) | exact lt_trans2 (lbTo_lt wid (outs i) 16 (by omega))) (by decide) dX3_callFromFirst_15 ?_
        refine r_iln (pc := 16) C 1 rfl dX3_callFromFirst_16 ?_
        refine r_cneN (pc := 17) (tgt := 36) C (by first | omega | (have := hIn i (by omega); omega) | (have := hOu i (by omega); omega) | (have := hBo i (by omega); omega) | exact lt_trans2 (lbTo_lt wid (outs i) 16 (by omega))) (by first | omega | (have := hIn i (by omega); omega) | (have := hOu i (by omega); omega) | (have := hBo i (by omega); omega) | exact lt_trans2 (lbTo_lt wid (outs i) 16 (by omega))) dX3_callFromFirst_17 (by decide) (fun c17 => ?_) (fun c17 => ?_)
        · refine r_incN (pc := 36) C 3 [1, 2, 3, 0] [(0, .ref sA), (1, .int (nI mb)), (2, .int (nI fb)), (3, .int (nI (i + 1)))] rfl (by decide) rfl dX3_callFromFirst_36 ?_
          refine r_goto (pc := 39) (tgt := 2) C dX3_callFromFirst_39 (by decide) ?_
          exact ih2 (i + 1) (by omega) (fun k hk => by rcases Nat.lt_succ_iff_lt_or_eq.mp hk with g | g; exact hq k g; subst g; exact fun g => c17 g.1) (by omega)
        · refine r_aln (pc := 20) C 0 rfl dX3_callFromFirst_20 ?_
          refine r_aln (pc := 21) C 0 rfl dX3_callFromFirst_21 ?_
          refine r_get (pc := 22) C iX3_callFromFirst_X3 0 rfl rfl 8 (by decide) (mw 3 rfl) rfl rfl dX3_callFromFirst_22 ?_
          refine r_iln (pc := 25) C 3 rfl dX3_callFromFirst_25 ?_
          refine r_ialN (pc := 26) C 1 rfl (by first | omega | (have := hIn i (by omega); omega) | (have := hOu i (by omega); omega) | (have := hBo i (by omega); omega) | exact lt_trans2 (lbTo_lt wid (outs i) 16 (by omega))) (by decide) dX3_callFromFirst_26 ?_
          refine c_RV (pc := 27) (As := [.int (nI (inp i))]) (wc := [(sA, cSt fst wid mid las pat bro mov cnt sI sO sB sM sG sW)]) (qr := 0) C (k_X3_boardOf l D cT sA fst wid mid las pat bro mov cnt sI sO sB sM sG sW (inp i) (by omega) hW2 (hIn i (by omega))) (cwV 1 C.1.2.2.2.2 gX3_callFromFirst_X3_boardOf rfl rfl rfl n_X3_boardOf ⟨Nat.le_of_ble_eq_true rfl, Nat.le_of_ble_eq_true rfl⟩) [0] rfl rfl rfl rfl rfl (Nat.le_of_ble_eq_true rfl) ⟨Nat.zero_le _, Nat.zero_le _⟩ dX3_callFromFirst_27 (fun r27 h1 => ?_)
          subst h1
          refine r_iln (pc := 30) C 2 rfl dX3_callFromFirst_30 ?_
          refine r_cneN (pc := 31) (tgt := 36) C (by have := Nat.div_le_self (inp i) wid; have := hIn i (by omega); omega) (by omega) dX3_callFromFirst_31 (by decide) (fun c31 => ?_) (fun c31 => ?_)
          · refine r_incN (pc := 36) C 3 [1, 2, 3, 0] [(0, .ref sA), (1, .int (nI mb)), (2, .int (nI fb)), (3, .int (nI (i + 1)))] rfl (by decide) rfl dX3_callFromFirst_36 ?_
            refine r_goto (pc := 39) (tgt := 2) C dX3_callFromFirst_39 (by decide) ?_
            exact ih2 (i + 1) (by omega) (fun k hk => by rcases Nat.lt_succ_iff_lt_or_eq.mp hk with g | g; exact hq k g; subst g; exact fun g => c31 g.2) (by omega)
          · refine r_iln (pc := 34) C 3 rfl dX3_callFromFirst_34 ?_
            subst hQ
            exact e_iR C hr hk (Or.inr ⟨i, rfl, by omega, ⟨c17, c31⟩, hq⟩) dX3_callFromFirst_35
  exact L2 _ 0 (Nat.zero_le _) (fun k hk => absurd hk (Nat.not_lt_zero _)) (Nat.lt_succ_self _)

theorem iX3_callToLast_X3 : ∀ w ∈ u_ws RX3 TX3 14, w ∈ wsX3_callToLast := by decide +kernel
abbrev rmX3_callToLast : Room := { frames := 2, cells := 0, slots := 0, locals := 44 }
theorem n_X3_callToLast : yX3_callToLast.cls = RX3 ∧ yX3_callToLast.cls ≠ "java/lang/invoke/MethodHandle" ∧ yX3_callToLast.cls ≠ "java/lang/invoke/VarHandle" ∧ (parseMethodDescriptor yX3_callToLast.desc).map (fun d => d.parameters.length) = some 2 := by decide +kernel
set_option maxHeartbeats 4000000 in
set_option maxRecDepth 100000 in
theorem k_X3_callToLast (l : Launch) (D : va_G) (cT : Nat → ClassId) (sA fst wid mid las pat bro mov cnt sI sO sB sM sG sW : Nat) (outs brd : Nat → Nat) (mb lb : Nat) (hCn : cnt ≤ 16) (hOu : ∀ c, c < 16 → outs c < 65536) (hBo : ∀ c, c < 16 → brd c < 4) (hW1 : 1 ≤ wid) (hW2 : wid ≤ 4) (hm : mb < 4) (hf : lb < 4) : MR l D cT yX3_callToLast wsX3_callToLast rmX3_callToLast [.ref sA, .int (nI mb), .int (nI lb)] [(sA, cSt fst wid mid las pat bro mov cnt sI sO sB sM sG sW), (sO, aN (cT 0) 16 outs), (sB, aN (cT 0) 16 brd)] (fun r => (r = -1 ∧ ∀ k, k < cnt → ¬ (brd k = mb ∧ (lbs wid (outs k)).testBit lb = true)) ∨ ∃ k, r = nI k ∧ k < cnt ∧ (brd k = mb ∧ (lbs wid (outs k)).testBit lb = true) ∧ ∀ d, d < k → ¬ (brd d = mb ∧ (lbs wid (outs d)).testBit lb = true)) := by
  refine m_R [(0, .ref sA), (1, .int (nI mb)), (2, .int (nI lb))] (by decide +kernel) rfl (Nat.le_of_ble_eq_true rfl) rfl ?_
  intro p e s m args below meth c C hr hk
  generalize hQ : MQ below (vp_Si _) args s 0 0 (fun _ => False) = Q
  refine r_ic (pc := 0) (v := nI 0) C rfl dX3_callToLast_0 ?_
  refine r_isn (pc := 1) C [1, 2, 3, 0] [(0, .ref sA), (1, .int (nI mb)), (2, .int (nI lb)), (3, .int (nI 0))] rfl (by decide) rfl dX3_callToLast_1 ?_
  have L2 : ∀ (n2 : Nat) (i : Nat) (hi2 : i ≤ cnt) (hq : ∀ k, k < i → ¬ (brd k = mb ∧ (lbs wid (outs k)).testBit lb = true)), cnt - i < n2 → RW p l e (headSpec wsX3_callToLast rmX3_callToLast).room s m args below meth c (IR s D) 4 0 0 Q [(sA, cSt fst wid mid las pat bro mov cnt sI sO sB sM sG sW), (sO, aN (cT 0) 16 outs), (sB, aN (cT 0) 16 brd)] 2 [(0, .ref sA), (1, .int (nI mb)), (2, .int (nI lb)), (3, .int (nI i))] [] := by
    intro n2
    induction n2 with
    | zero => intro i hi2 hq hn2; exact absurd hn2 (Nat.not_lt_zero _)
    | succ n2 ih2 =>
      intro i hi2 hq hn2
      refine r_iln (pc := 2) C 3 rfl dX3_callToLast_2 ?_
      refine r_aln (pc := 3) C 0 rfl dX3_callToLast_3 ?_
      refine r_get (pc := 4) C iX3_callToLast_X3 0 rfl rfl 7 (by decide) (mw 1 rfl) rfl rfl dX3_callToLast_4 ?_
      refine r_cgeN (pc := 7) (tgt := 40) C (by first | omega | (have := hIn i (by omega); omega) | (have := hOu i (by omega); omega) | (have := hBo i (by omega); omega) | exact lt_trans2 (lbTo_lt wid (outs i) 16 (by omega))) (by first | omega | (have := hIn i (by omega); omega) | (have := hOu i (by omega); omega) | (have := hBo i (by omega); omega) | exact lt_trans2 (lbTo_lt wid (outs i) 16 (by omega))) dX3_callToLast_7 (by decide) (fun c7 => ?_) (fun c7 => ?_)
      · refine r_ic (pc := 40) (v := (-1)) C rfl dX3_callToLast_40 ?_
        subst hQ
        exact e_iR C hr hk (Or.inl ⟨rfl, fun k hk => hq k (by omega)⟩) dX3_callToLast_41
      · refine r_aln (pc := 10) C 0 rfl dX3_callToLast_10 ?_
        refine r_get (pc := 11) C iX3_callToLast_X3 0 rfl rfl 10 (by decide) (mw 2 rfl) rfl rfl dX3_callToLast_11 ?_
        refine r_iln (pc := 14) C 3 rfl dX3_callToLast_14 ?_
        refine r_ialN (pc := 15) C 2 rfl (by first | omega | (have := hIn i (by omega); omega) | (have := hOu i (by omega); omega) | (have := hBo i (by omega); omega) | exact lt_trans2 (lbTo_lt wid (outs i) 16 (by omega))) (by decide) dX3_callToLast_15 ?_
        refine r_iln (pc := 16) C 1 rfl dX3_callToLast_16 ?_
        refine r_cneN (pc := 17) (tgt := 34) C (by first | omega | (have := hIn i (by omega); omega) | (have := hOu i (by omega); omega) | (have := hBo i (by omega); omega) | exact lt_trans2 (lbTo_lt wid (outs i) 16 (by omega))) (by first | omega | (have := hIn i (by omega); omega) | (have := hOu i (by omega); omega) | (have := hBo i (by omega); omega) | exact lt_trans2 (lbTo_lt wid (outs i) 16 (by omega))) dX3_callToLast_17 (by decide) (fun c17 => ?_) (fun c17 => ?_)
        · refine r_incN (pc := 34) C 3 [1, 2, 3, 0] [(0, .ref sA), (1, .int (nI mb)), (2, .int (nI lb)), (3, .int (nI (i + 1)))] rfl (by decide) rfl dX3_callToLast_34 ?_
          refine r_goto (pc := 37) (tgt := 2) C dX3_callToLast_37 (by decide) ?_
          exact ih2 (i + 1) (by omega) (fun k hk => by rcases Nat.lt_succ_iff_lt_or_eq.mp hk with g | g; exact hq k g; subst g; exact fun g => c17 g.1) (by omega)
        · refine r_aln (pc := 20) C 0 rfl dX3_callToLast_20 ?_
          refine r_iln (pc := 21) C 3 rfl dX3_callToLast_21 ?_
          refine c_RV (pc := 22) (As := [.int (nI i)]) (wc := [(sA, cSt fst wid mid las pat bro mov cnt sI sO sB sM sG sW), (sO, aN (cT 0) 16 outs)]) (qr := 0) C (k_X3_lastBoardsOf l D cT sA fst wid mid las pat bro mov cnt sI sO sB sM sG sW outs i hW1 hW2 (by omega) (hOu i (by omega))) (cwV 1 C.1.2.2.2.2 gX3_callToLast_X3_lastBoardsOf rfl rfl rfl n_X3_lastBoardsOf ⟨Nat.le_of_ble_eq_true rfl, Nat.le_of_ble_eq_true rfl⟩) [0, 1] rfl rfl rfl rfl rfl (Nat.le_of_ble_eq_true rfl) ⟨Nat.zero_le _, Nat.zero_le _⟩ dX3_callToLast_22 (fun r22 h1 => ?_)
          subst h1
          refine r_iln (pc := 25) C 2 rfl dX3_callToLast_25 ?_
          refine r_ishrN (pc := 26) C (by omega) (by first | omega | (have := hIn i (by omega); omega) | (have := hOu i (by omega); omega) | (have := hBo i (by omega); omega) | exact lt_trans2 (lbTo_lt wid (outs i) 16 (by omega))) dX3_callToLast_26 ?_
          refine r_ic (pc := 27) (v := nI 1) C rfl dX3_callToLast_27 ?_
          refine r_iandN (pc := 28) C dX3_callToLast_28 ?_
          refine r_v (y := nI ((lbs wid (outs i)).testBit lb).toNat) (congrArg nI (rw_bit _ _)) ?_
          refine r_zeqN (pc := 29) (tgt := 34) C bool_lt dX3_callToLast_29 (by decide) (fun c29 => ?_) (fun c29 => ?_)
          · have c29 := bool_0.mp c29
            refine r_incN (pc := 34) C 3 [1, 2, 3, 0] [(0, .ref sA), (1, .int (nI mb)), (2, .int (nI lb)), (3, .int (nI (i + 1)))] rfl (by decide) rfl dX3_callToLast_34 ?_
            refine r_goto (pc := 37) (tgt := 2) C dX3_callToLast_37 (by decide) ?_
            exact ih2 (i + 1) (by omega) (fun k hk => by rcases Nat.lt_succ_iff_lt_or_eq.mp hk with g | g; exact hq k g; subst g; rw [c29]; exact fun g => absurd g.2 (by decide)) (by omega)
          · have c29 := bool_1.mp c29
            refine r_iln (pc := 32) C 3 rfl dX3_callToLast_32 ?_
            subst hQ
            exact e_iR C hr hk (Or.inr ⟨i, rfl, by omega, ⟨c17, c29⟩, hq⟩) dX3_callToLast_33
  exact L2 _ 0 (Nat.zero_le _) (fun k hk => absurd hk (Nat.not_lt_zero _)) (Nat.lt_succ_self _)

theorem iX3_freeInputs_X3 : ∀ w ∈ u_ws RX3 TX3 14, w ∈ wsX3_freeInputs := by decide +kernel
abbrev rmX3_freeInputs : Room := { frames := 1, cells := 0, slots := 0, locals := 22 }
theorem n_X3_freeInputs : yX3_freeInputs.cls = RX3 ∧ yX3_freeInputs.cls ≠ "java/lang/invoke/MethodHandle" ∧ yX3_freeInputs.cls ≠ "java/lang/invoke/VarHandle" ∧ (parseMethodDescriptor yX3_freeInputs.desc).map (fun d => d.parameters.length) = some 1 := by decide +kernel
set_option maxHeartbeats 4000000 in
set_option maxRecDepth 100000 in
theorem k_X3_freeInputs (l : Launch) (D : va_G) (cT : Nat → ClassId) (sA fst wid mid las pat bro mov cnt sI sO sB sM sG sW : Nat) (inp : Nat → Nat) (fb : Nat) (hCn : cnt ≤ 16) (hIn : ∀ c, c < 16 → inp c < 16) (hW1 : 1 ≤ wid) (hW2 : wid ≤ 4) (hLW : fst * wid ≤ 16) (hB4 : fb < fst) : MR l D cT yX3_freeInputs wsX3_freeInputs rmX3_freeInputs [.ref sA, .int (nI fb)] [(sA, cSt fst wid mid las pat bro mov cnt sI sO sB sM sG sW), (sI, aN (cT 0) 16 inp)] (fun r => r = nI (sumTo (fun i => if anyTo (fun c => decide (inp c = fb * wid + i)) cnt = true then 0 else 1) wid)) := by
  refine m_R [(0, .ref sA), (1, .int (nI fb))] (by decide +kernel) rfl (Nat.le_of_ble_eq_true rfl) rfl ?_
  intro p e s m args below meth c C hr hk
  generalize hQ : MQ below (vp_Si _) args s 0 0 (fun _ => False) = Q
  refine r_ic (pc := 0) (v := nI 0) C rfl dX3_freeInputs_0 ?_
  refine r_isn (pc := 1) C [1, 2, 0] [(0, .ref sA), (1, .int (nI fb)), (2, .int (nI 0))] rfl (by decide) rfl dX3_freeInputs_1 ?_
  refine r_ic (pc := 2) (v := nI 0) C rfl dX3_freeInputs_2 ?_
  refine r_isn (pc := 3) C [1, 2, 3, 0] [(0, .ref sA), (1, .int (nI fb)), (2, .int (nI 0)), (3, .int (nI 0))] rfl (by decide) rfl dX3_freeInputs_3 ?_
  have L4 : ∀ (n4 : Nat) (i : Nat) (hi2 : i ≤ wid), wid - i < n4 → RW p l e (headSpec wsX3_freeInputs rmX3_freeInputs).room s m args below meth c (IR s D) 4 0 0 Q [(sA, cSt fst wid mid las pat bro mov cnt sI sO sB sM sG sW), (sI, aN (cT 0) 16 inp)] 4 [(0, .ref sA), (1, .int (nI fb)), (2, .int (nI (sumTo (fun i => if anyTo (fun c => decide (inp c = fb * wid + i)) cnt = true then 0 else 1) i))), (3, .int (nI i))] [] := by
    intro n4
    induction n4 with
    | zero => intro i hi2 hn4; exact absurd hn4 (Nat.not_lt_zero _)
    | succ n4 ih4 =>
      intro i hi2 hn4
      refine r_iln (pc := 4) C 3 rfl dX3_freeInputs_4 ?_
      refine r_aln (pc := 5) C 0 rfl dX3_freeInputs_5 ?_
      refine r_get (pc := 6) C iX3_freeInputs_X3 0 rfl rfl 1 (by decide) (mw 1 rfl) rfl rfl dX3_freeInputs_6 ?_
      refine r_cgeN (pc := 9) (tgt := 37) C (by first | omega | (have := mul_lt16 hLW (by omega : i < wid) hB4; omega)) (by first | omega | (have := mul_lt16 hLW (by omega : i < wid) hB4; omega)) dX3_freeInputs_9 (by decide) (fun c9 => ?_) (fun c9 => ?_)
      · refine r_iln (pc := 37) C 2 rfl dX3_freeInputs_37 ?_
        subst hQ
        exact e_iR C hr hk (congrArg (fun k => nI (sumTo _ k)) (by omega)) dX3_freeInputs_38
      · refine r_aln (pc := 12) C 0 rfl dX3_freeInputs_12 ?_
        refine r_iln (pc := 13) C 1 rfl dX3_freeInputs_13 ?_
        refine r_aln (pc := 14) C 0 rfl dX3_freeInputs_14 ?_
        refine r_get (pc := 15) C iX3_freeInputs_X3 0 rfl rfl 1 (by decide) (mw 1 rfl) rfl rfl dX3_freeInputs_15 ?_
        refine r_imulN (pc := 18) C dX3_freeInputs_18 ?_
        refine r_iln (pc := 19) C 3 rfl dX3_freeInputs_19 ?_
        refine r_iaddN (pc := 20) C dX3_freeInputs_20 ?_
        refine c_RV (pc := 21) (As := [.int (nI ((fb * wid) + i))]) (wc := [(sA, cSt fst wid mid las pat bro mov cnt sI sO sB sM sG sW), (sI, aN (cT 0) 16 inp)]) (qr := 0) C (k_X3_callAtInput l D cT sA fst wid mid las pat bro mov cnt sI sO sB sM sG sW inp ((fb * wid) + i) hCn hIn (mul_lt16 hLW (by omega : i < wid) hB4)) (cwV 1 C.1.2.2.2.2 gX3_freeInputs_X3_callAtInput rfl rfl rfl n_X3_callAtInput ⟨Nat.le_of_ble_eq_true rfl, Nat.le_of_ble_eq_true rfl⟩) [0, 1] rfl rfl rfl rfl rfl (Nat.le_of_ble_eq_true rfl) ⟨Nat.zero_le _, Nat.zero_le _⟩ dX3_freeInputs_21 (fun r21 h1 => ?_)
        rcases h1 with ⟨rfl, h1⟩ | ⟨h1k, rfl, h1l, h1a, h1b⟩
        · refine r_ic (pc := 24) (v := (-1)) C rfl dX3_freeInputs_24 ?_
          refine r_cne (pc := 25) (tgt := 31) C dX3_freeInputs_25 (by decide) (fun c25 => absurd c25 (by exact fun h => h rfl)) (fun c25 => ?_)
          refine r_incN (pc := 28) C 2 [1, 2, 0, 3] [(0, .ref sA), (1, .int (nI fb)), (2, .int (nI (sumTo (fun i => if anyTo (fun c => decide (inp c = fb * wid + i)) cnt = true then 0 else 1) i + 1))), (3, .int (nI i))] rfl (by decide) rfl dX3_freeInputs_28 ?_
          refine r_incN (pc := 31) C 3 [1, 2, 3, 0] [(0, .ref sA), (1, .int (nI fb)), (2, .int (nI (sumTo (fun i => if anyTo (fun c => decide (inp c = fb * wid + i)) cnt = true then 0 else 1) i + 1))), (3, .int (nI (i + 1)))] rfl (by decide) rfl dX3_freeInputs_31 ?_
          refine r_goto (pc := 34) (tgt := 4) C dX3_freeInputs_34 (by decide) ?_
          rw [show sumTo (fun i => if anyTo (fun c => decide (inp c = fb * wid + i)) cnt = true then 0 else 1) i + 1 = sumTo (fun i => if anyTo (fun c => decide (inp c = fb * wid + i)) cnt = true then 0 else 1) (i + 1) from congrArg (sumTo (fun i => if anyTo (fun c => decide (inp c = fb * wid + i)) cnt = true then 0 else 1) i + ·) (if_neg (any_no h1)).symm]
          exact ih4 (i + 1) (by omega) (by omega)
        · refine r_ic (pc := 24) (v := (-1)) C rfl dX3_freeInputs_24 ?_
          refine r_cne (pc := 25) (tgt := 31) C dX3_freeInputs_25 (by decide) (fun c25 => ?_) (fun c25 => absurd c25 (by exact nI_m1 (by omega)))
          refine r_incN (pc := 31) C 3 [1, 2, 3, 0] [(0, .ref sA), (1, .int (nI fb)), (2, .int (nI (sumTo (fun i => if anyTo (fun c => decide (inp c = fb * wid + i)) cnt = true then 0 else 1) i))), (3, .int (nI (i + 1)))] rfl (by decide) rfl dX3_freeInputs_31 ?_
          refine r_goto (pc := 34) (tgt := 4) C dX3_freeInputs_34 (by decide) ?_
          rw [show sumTo (fun i => if anyTo (fun c => decide (inp c = fb * wid + i)) cnt = true then 0 else 1) i = sumTo (fun i => if anyTo (fun c => decide (inp c = fb * wid + i)) cnt = true then 0 else 1) (i + 1) from (by show sumTo (fun i => if anyTo (fun c => decide (inp c = fb * wid + i)) cnt = true then 0 else 1) i = sumTo (fun i => if anyTo (fun c => decide (inp c = fb * wid + i)) cnt = true then 0 else 1) i + (if anyTo (fun c => decide (inp c = fb * wid + i)) cnt = true then 0 else 1); rw [if_pos (any_yes (P := fun c => inp c = fb * wid + i) h1l h1a)]; rfl)]
          exact ih4 (i + 1) (by omega) (by omega)
  exact L4 _ 0 (Nat.zero_le _) (Nat.lt_succ_self _)

theorem iX3_freeOutputs_X3 : ∀ w ∈ u_ws RX3 TX3 14, w ∈ wsX3_freeOutputs := by decide +kernel
abbrev rmX3_freeOutputs : Room := { frames := 1, cells := 0, slots := 0, locals := 22 }
theorem n_X3_freeOutputs : yX3_freeOutputs.cls = RX3 ∧ yX3_freeOutputs.cls ≠ "java/lang/invoke/MethodHandle" ∧ yX3_freeOutputs.cls ≠ "java/lang/invoke/VarHandle" ∧ (parseMethodDescriptor yX3_freeOutputs.desc).map (fun d => d.parameters.length) = some 1 := by decide +kernel
set_option maxHeartbeats 4000000 in
set_option maxRecDepth 100000 in
theorem k_X3_freeOutputs (l : Launch) (D : va_G) (cT : Nat → ClassId) (sA fst wid mid las pat bro mov cnt sI sO sB sM sG sW : Nat) (outs : Nat → Nat) (lb : Nat) (hCn : cnt ≤ 16) (hOu : ∀ c, c < 16 → outs c < 65536) (hW1 : 1 ≤ wid) (hW2 : wid ≤ 4) (hLW : las * wid ≤ 16) (hB4 : lb < las) : MR l D cT yX3_freeOutputs wsX3_freeOutputs rmX3_freeOutputs [.ref sA, .int (nI lb)] [(sA, cSt fst wid mid las pat bro mov cnt sI sO sB sM sG sW), (sO, aN (cT 0) 16 outs)] (fun r => r = nI (sumTo (fun i => if anyTo (fun c => (outs c).testBit (lb * wid + i)) cnt = true then 0 else 1) wid)) := by
  refine m_R [(0, .ref sA), (1, .int (nI lb))] (by decide +kernel) rfl (Nat.le_of_ble_eq_true rfl) rfl ?_
  intro p e s m args below meth c C hr hk
  generalize hQ : MQ below (vp_Si _) args s 0 0 (fun _ => False) = Q
  refine r_ic (pc := 0) (v := nI 0) C rfl dX3_freeOutputs_0 ?_
  refine r_isn (pc := 1) C [1, 2, 0] [(0, .ref sA), (1, .int (nI lb)), (2, .int (nI 0))] rfl (by decide) rfl dX3_freeOutputs_1 ?_
  refine r_ic (pc := 2) (v := nI 0) C rfl dX3_freeOutputs_2 ?_
  refine r_isn (pc := 3) C [1, 2, 3, 0] [(0, .ref sA), (1, .int (nI lb)), (2, .int (nI 0)), (3, .int (nI 0))] rfl (by decide) rfl dX3_freeOutputs_3 ?_
  have L4 : ∀ (n4 : Nat) (i : Nat) (hi2 : i ≤ wid), wid - i < n4 → RW p l e (headSpec wsX3_freeOutputs rmX3_freeOutputs).room s m args below meth c (IR s D) 4 0 0 Q [(sA, cSt fst wid mid las pat bro mov cnt sI sO sB sM sG sW), (sO, aN (cT 0) 16 outs)] 4 [(0, .ref sA), (1, .int (nI lb)), (2, .int (nI (sumTo (fun i => if anyTo (fun c => (outs c).testBit (lb * wid + i)) cnt = true then 0 else 1) i))), (3, .int (nI i))] [] := by
    intro n4
    induction n4 with
    | zero => intro i hi2 hn4; exact absurd hn4 (Nat.not_lt_zero _)
    | succ n4 ih4 =>
      intro i hi2 hn4
      refine r_iln (pc := 4) C 3 rfl dX3_freeOutputs_4 ?_
      refine r_aln (pc := 5) C 0 rfl dX3_freeOutputs_5 ?_
      refine r_get (pc := 6) C iX3_freeOutputs_X3 0 rfl rfl 1 (by decide) (mw 1 rfl) rfl rfl dX3_freeOutputs_6 ?_
      refine r_cgeN (pc := 9) (tgt := 37) C (by first | omega | (have := mul_lt16 hLW (by omega : i < wid) hB4; omega)) (by first | omega | (have := mul_lt16 hLW (by omega : i < wid) hB4; omega)) dX3_freeOutputs_9 (by decide) (fun c9 => ?_) (fun c9 => ?_)
      · refine r_iln (pc := 37) C 2 rfl dX3_freeOutputs_37 ?_
        subst hQ
        exact e_iR C hr hk (congrArg (fun k => nI (sumTo _ k)) (by omega)) dX3_freeOutputs_38
      · refine r_aln (pc := 12) C 0 rfl dX3_freeOutputs_12 ?_
        refine r_iln (pc := 13) C 1 rfl dX3_freeOutputs_13 ?_
        refine r_aln (pc := 14) C 0 rfl dX3_freeOutputs_14 ?_
        refine r_get (pc := 15) C iX3_freeOutputs_X3 0 rfl rfl 1 (by decide) (mw 1 rfl) rfl rfl dX3_freeOutputs_15 ?_
        refine r_imulN (pc := 18) C dX3_freeOutputs_18 ?_
        refine r_iln (pc := 19) C 3 rfl dX3_freeOutputs_19 ?_
        refine r_iaddN (pc := 20) C dX3_freeOutputs_20 ?_
        refine c_RV (pc := 21) (As := [.int (nI ((lb * wid) + i))]) (wc := [(sA, cSt fst wid mid las pat bro mov cnt sI sO sB sM sG sW), (sO, aN (cT 0) 16 outs)]) (qr := 0) C (k_X3_callAtOutput l D cT sA fst wid mid las pat bro mov cnt sI sO sB sM sG sW outs ((lb * wid) + i) hCn hOu (mul_lt16 hLW (by omega : i < wid) hB4)) (cwV 1 C.1.2.2.2.2 gX3_freeOutputs_X3_callAtOutput rfl rfl rfl n_X3_callAtOutput ⟨Nat.le_of_ble_eq_true rfl, Nat.le_of_ble_eq_true rfl⟩) [0, 1] rfl rfl rfl rfl rfl (Nat.le_of_ble_eq_true rfl) ⟨Nat.zero_le _, Nat.zero_le _⟩ dX3_freeOutputs_21 (fun r21 h1 => ?_)
        rcases h1 with ⟨rfl, h1⟩ | ⟨h1k, rfl, h1l, h1a, h1b⟩
        · refine r_ic (pc := 24) (v := (-1)) C rfl dX3_freeOutputs_24 ?_
          refine r_cne (pc := 25) (tgt := 31) C dX3_freeOutputs_25 (by decide) (fun c25 => absurd c25 (by exact fun h => h rfl)) (fun c25 => ?_)
          refine r_incN (pc := 28) C 2 [1, 2, 0, 3] [(0, .ref sA), (1, .int (nI lb)), (2, .int (nI (sumTo (fun i => if anyTo (fun c => (outs c).testBit (lb * wid + i)) cnt = true then 0 else 1) i + 1))), (3, .int (nI i))] rfl (by decide) rfl dX3_freeOutputs_28 ?_
          refine r_incN (pc := 31) C 3 [1, 2, 3, 0] [(0, .ref sA), (1, .int (nI lb)), (2, .int (nI (sumTo (fun i => if anyTo (fun c => (outs c).testBit (lb * wid + i)) cnt = true then 0 else 1) i + 1))), (3, .int (nI (i + 1)))] rfl (by decide) rfl dX3_freeOutputs_31 ?_
          refine r_goto (pc := 34) (tgt := 4) C dX3_freeOutputs_34 (by decide) ?_
          rw [show sumTo (fun i => if anyTo (fun c => (outs c).testBit (lb * wid + i)) cnt = true then 0 else 1) i + 1 = sumTo (fun i => if anyTo (fun c => (outs c).testBit (lb * wid + i)) cnt = true then 0 else 1) (i + 1) from congrArg (sumTo (fun i => if anyTo (fun c => (outs c).testBit (lb * wid + i)) cnt = true then 0 else 1) i + ·) (if_neg (any_noB h1)).symm]
          exact ih4 (i + 1) (by omega) (by omega)
        · refine r_ic (pc := 24) (v := (-1)) C rfl dX3_freeOutputs_24 ?_
          refine r_cne (pc := 25) (tgt := 31) C dX3_freeOutputs_25 (by decide) (fun c25 => ?_) (fun c25 => absurd c25 (by exact nI_m1 (by omega)))
          refine r_incN (pc := 31) C 3 [1, 2, 3, 0] [(0, .ref sA), (1, .int (nI lb)), (2, .int (nI (sumTo (fun i => if anyTo (fun c => (outs c).testBit (lb * wid + i)) cnt = true then 0 else 1) i))), (3, .int (nI (i + 1)))] rfl (by decide) rfl dX3_freeOutputs_31 ?_
          refine r_goto (pc := 34) (tgt := 4) C dX3_freeOutputs_34 (by decide) ?_
          rw [show sumTo (fun i => if anyTo (fun c => (outs c).testBit (lb * wid + i)) cnt = true then 0 else 1) i = sumTo (fun i => if anyTo (fun c => (outs c).testBit (lb * wid + i)) cnt = true then 0 else 1) (i + 1) from (by show sumTo (fun i => if anyTo (fun c => (outs c).testBit (lb * wid + i)) cnt = true then 0 else 1) i = sumTo (fun i => if anyTo (fun c => (outs c).testBit (lb * wid + i)) cnt = true then 0 else 1) i + (if anyTo (fun c => (outs c).testBit (lb * wid + i)) cnt = true then 0 else 1); rw [if_pos (any_yesB (p := fun c => (outs c).testBit (lb * wid + i)) h1l h1a)]; rfl)]
          exact ih4 (i + 1) (by omega) (by omega)
  exact L4 _ 0 (Nat.zero_le _) (Nat.lt_succ_self _)

theorem iX3_hasCallBy_X3 : ∀ w ∈ u_ws RX3 TX3 14, w ∈ wsX3_hasCallBy := by decide +kernel
abbrev rmX3_hasCallBy : Room := { frames := 0, cells := 0, slots := 0, locals := 0 }
theorem n_X3_hasCallBy : yX3_hasCallBy.cls = RX3 ∧ yX3_hasCallBy.cls ≠ "java/lang/invoke/MethodHandle" ∧ yX3_hasCallBy.cls ≠ "java/lang/invoke/VarHandle" ∧ (parseMethodDescriptor yX3_hasCallBy.desc).map (fun d => d.parameters.length) = some 1 := by decide +kernel
set_option maxHeartbeats 4000000 in
set_option maxRecDepth 100000 in
theorem k_X3_hasCallBy (l : Launch) (D : va_G) (cT : Nat → ClassId) (sA fst wid mid las pat bro mov cnt sI sO sB sM sG sW : Nat) (brd : Nat → Nat) (mb : Nat) (hCn : cnt ≤ 16) (hBo : ∀ c, c < 16 → brd c < 4) (hm : mb < 4) : MR l D cT yX3_hasCallBy wsX3_hasCallBy rmX3_hasCallBy [.ref sA, .int (nI mb)] [(sA, cSt fst wid mid las pat bro mov cnt sI sO sB sM sG sW), (sB, aN (cT 0) 16 brd)] (fun r => (r = nI 1 ∧ ∃ k, k < cnt ∧ brd k = mb) ∨ (r = nI 0 ∧ ∀ k, k < cnt → ¬ brd k = mb)) := by
  refine m_R [(0, .ref sA), (1, .int (nI mb))] (by decide +kernel) rfl (Nat.le_of_ble_eq_true rfl) rfl ?_
  intro p e s m args below meth c C hr hk
  generalize hQ : MQ below (vp_Si _) args s 0 0 (fun _ => False) = Q
  refine r_ic (pc := 0) (v := nI 0) C rfl dX3_hasCallBy_0 ?_
  refine r_isn (pc := 1) C [1, 2, 0] [(0, .ref sA), (1, .int (nI mb)), (2, .int (nI 0))] rfl (by decide) rfl dX3_hasCallBy_1 ?_
  have L2 : ∀ (n2 : Nat) (i : Nat) (hi2 : i ≤ cnt) (hq : ∀ k, k < i → ¬ brd k = mb), cnt - i < n2 → RW p l e (headSpec wsX3_hasCallBy rmX3_hasCallBy).room s m args below meth c (IR s D) 3 0 0 Q [(sA, cSt fst wid mid las pat bro mov cnt sI sO sB sM sG sW), (sB, aN (cT 0) 16 brd)] 2 [(0, .ref sA), (1, .int (nI mb)), (2, .int (nI i))] [] := by
    intro n2
    induction n2 with
    | zero => intro i hi2 hq hn2; exact absurd hn2 (Nat.not_lt_zero _)
    | succ n2 ih2 =>
      intro i hi2 hq hn2
      refine r_iln (pc := 2) C 2 rfl dX3_hasCallBy_2 ?_
      refine r_aln (pc := 3) C 0 rfl dX3_hasCallBy_3 ?_
      refine r_get (pc := 4) C iX3_hasCallBy_X3 0 rfl rfl 7 (by decide) (mw 1 rfl) rfl rfl dX3_hasCallBy_4 ?_
      refine r_cgeN (pc := 7) (tgt := 28) C (by first | omega | (have := hIn i (by omega); omega) | (have := hOu i (by omega); omega) | (have := hBo i (by omega); omega) | exact lt_trans2 (lbTo_lt wid (outs i) 16 (by omega))) (by first | omega | (have := hIn i (by omega); omega) | (have := hOu i (by omega); omega) | (have := hBo i (by omega); omega) | exact lt_trans2 (lbTo_lt wid (outs i) 16 (by omega))) dX3_hasCallBy_7 (by decide) (fun c7 => ?_) (fun c7 => ?_)
      · refine r_ic (pc := 28) (v := nI 0) C rfl dX3_hasCallBy_28 ?_
        subst hQ
        exact e_zR C hr hk rfl (Or.inr ⟨rfl, fun k hk => hq k (by omega)⟩) dX3_hasCallBy_29
      · refine r_aln (pc := 10) C 0 rfl dX3_hasCallBy_10 ?_
        refine r_get (pc := 11) C iX3_hasCallBy_X3 0 rfl rfl 10 (by decide) (mw 2 rfl) rfl rfl dX3_hasCallBy_11 ?_
        refine r_iln (pc := 14) C 2 rfl dX3_hasCallBy_14 ?_
        refine r_ialN (pc := 15) C 1 rfl (by first | omega | (have := hIn i (by omega); omega) | (have := hOu i (by omega); omega) | (have := hBo i (by omega); omega) | exact lt_trans2 (lbTo_lt wid (outs i) 16 (by omega))) (by decide) dX3_hasCallBy_15 ?_
        refine r_iln (pc := 16) C 1 rfl dX3_hasCallBy_16 ?_
        refine r_cneN (pc := 17) (tgt := 22) C (by first | omega | (have := hIn i (by omega); omega) | (have := hOu i (by omega); omega) | (have := hBo i (by omega); omega) | exact lt_trans2 (lbTo_lt wid (outs i) 16 (by omega))) (by first | omega | (have := hIn i (by omega); omega) | (have := hOu i (by omega); omega) | (have := hBo i (by omega); omega) | exact lt_trans2 (lbTo_lt wid (outs i) 16 (by omega))) dX3_hasCallBy_17 (by decide) (fun c17 => ?_) (fun c17 => ?_)
        · refine r_incN (pc := 22) C 2 [1, 2, 0] [(0, .ref sA), (1, .int (nI mb)), (2, .int (nI (i + 1)))] rfl (by decide) rfl dX3_hasCallBy_22 ?_
          refine r_goto (pc := 25) (tgt := 2) C dX3_hasCallBy_25 (by decide) ?_
          exact ih2 (i + 1) (by omega) (fun k hk => by rcases Nat.lt_succ_iff_lt_or_eq.mp hk with g | g; exact hq k g; subst g; exact c17) (by omega)
        · refine r_ic (pc := 20) (v := nI 1) C rfl dX3_hasCallBy_20 ?_
          subst hQ
          exact e_zR C hr hk rfl (Or.inl ⟨rfl, i, by omega, c17⟩) dX3_hasCallBy_21
  exact L2 _ 0 (Nat.zero_le _) (fun k hk => absurd hk (Nat.not_lt_zero _)) (Nat.lt_succ_self _)

theorem iX3_changePatience_X3 : ∀ w ∈ u_ws RX3 TX3 14, w ∈ wsX3_changePatience := by decide +kernel
abbrev rmX3_changePatience : Room := { frames := 0, cells := 0, slots := 0, locals := 0 }
theorem n_X3_changePatience : yX3_changePatience.cls = RX3 ∧ yX3_changePatience.cls ≠ "java/lang/invoke/MethodHandle" ∧ yX3_changePatience.cls ≠ "java/lang/invoke/VarHandle" ∧ (parseMethodDescriptor yX3_changePatience.desc).map (fun d => d.parameters.length) = some 1 := by decide +kernel
set_option maxHeartbeats 4000000 in
set_option maxRecDepth 100000 in
theorem k_X3_changePatience (l : Launch) (D : va_G) (cT : Nat → ClassId) (sA fst wid mid las pat bro mov cnt sI sO sB sM sG sW x : Nat)  : MWi (S := Nat) l D cT yX3_changePatience wsX3_changePatience rmX3_changePatience [.ref sA, .int (nI x)] [(sA, cSt fst wid mid las pat bro mov cnt sI sO sB sM sG sW)] (fun r u => r = nI pat ∧ u = x) (fun u => [(sA, cSt fst wid mid las u bro mov cnt sI sO sB sM sG sW)]) 0 0 := by
  refine m_Wi [(0, .ref sA), (1, .int (nI x))] (by decide +kernel) rfl (Nat.le_of_ble_eq_true rfl) rfl ?_
  intro p e s m args below meth c A hAe C hA hr hk hnm_
  generalize hQ : MQ below (va_Qi _ _ A) args s 0 0 A = Q
  refine r_aln (pc := 0) C 0 rfl dX3_changePatience_0 ?_
  refine r_get (pc := 1) C iX3_changePatience_X3 0 rfl rfl 4 (by decide) (mw 1 rfl) rfl rfl dX3_changePatience_1 ?_
  refine r_isn (pc := 4) C [1, 2, 0] [(0, .ref sA), (1, .int (nI x)), (2, .int (nI pat))] rfl (by decide) rfl dX3_changePatience_4 ?_
  refine r_aln (pc := 5) C 0 rfl dX3_changePatience_5 ?_
  refine r_iln (pc := 6) C 1 rfl dX3_changePatience_6 ?_
  refine r_put (pc := 7) (ws2 := [(sA, cSt fst wid mid las x bro mov cnt sI sO sB sM sG sW)]) C iX3_changePatience_X3 tyX3_ok nmX3 0 rfl rfl 4 (by decide) (mw 1 rfl) rfl rfl rfl rfl (Nat.le_of_ble_eq_true rfl) rfl dX3_changePatience_7 ?_
  refine r_iln (pc := 10) C 2 rfl dX3_changePatience_10 ?_
  subst hQ
  exact e_iW C hr hk (Nat.le_refl _) (Nat.le_refl _) x rfl (⟨rfl, rfl⟩) dX3_changePatience_11

theorem iX3_clear_X3 : ∀ w ∈ u_ws RX3 TX3 14, w ∈ wsX3_clear := by decide +kernel
abbrev rmX3_clear : Room := { frames := 0, cells := 0, slots := 0, locals := 0 }
theorem n_X3_clear : yX3_clear.cls = RX3 ∧ yX3_clear.cls ≠ "java/lang/invoke/MethodHandle" ∧ yX3_clear.cls ≠ "java/lang/invoke/VarHandle" ∧ (parseMethodDescriptor yX3_clear.desc).map (fun d => d.parameters.length) = some 4 := by decide +kernel
set_option maxHeartbeats 4000000 in
set_option maxRecDepth 100000 in
theorem k_X3_clear (l : Launch) (D : va_G) (cT : Nat → ClassId) (sA fst wid mid las pat bro mov cnt sI sO sB sM sG sW : Nat) (got owe : Nat → Nat) (f1 w1 m1 l1 : Nat)  : MWv (S := (Nat → Nat) × (Nat → Nat)) l D cT yX3_clear wsX3_clear rmX3_clear [.ref sA, .int (nI f1), .int (nI w1), .int (nI m1), .int (nI l1)] [(sA, cSt fst wid mid las pat bro mov cnt sI sO sB sM sG sW), (sG, aN (cT 0) 16 got), (sW, aN (cT 0) 16 owe)] (fun u => ∀ k, k < 16 → u.1 k = 0 ∧ u.2 k = 0) (fun u => [(sA, cSt f1 w1 m1 l1 2 0 0 0 sI sO sB sM sG sW), (sG, aN (cT 0) 16 u.1), (sW, aN (cT 0) 16 u.2)]) 0 0 := by
  refine m_Wv [(0, .ref sA), (1, .int (nI f1)), (2, .int (nI w1)), (3, .int (nI m1)), (4, .int (nI l1))] (by decide +kernel) rfl (Nat.le_of_ble_eq_true rfl) rfl ?_
  intro p e s m args below meth c A hAe C hA hr hk hnm_
  generalize hQ : MQ below (va_Qv _ _ A) args s 0 0 A = Q
  refine r_aln (pc := 0) C 0 rfl dX3_clear_0 ?_
  refine r_iln (pc := 1) C 1 rfl dX3_clear_1 ?_
  refine r_put (pc := 2) (ws2 := [(sA, cSt f1 wid mid las pat bro mov cnt sI sO sB sM sG sW), (sG, aN (cT 0) 16 got), (sW, aN (cT 0) 16 owe)]) C iX3_clear_X3 tyX3_ok nmX3 0 rfl rfl 0 (by decide) (mw 1 rfl) rfl rfl rfl rfl (Nat.le_of_ble_eq_true rfl) rfl dX3_clear_2 ?_
  refine r_aln (pc := 5) C 0 rfl dX3_clear_5 ?_
  refine r_iln (pc := 6) C 2 rfl dX3_clear_6 ?_
  refine r_put (pc := 7) (ws2 := [(sA, cSt f1 w1 mid las pat bro mov cnt sI sO sB sM sG sW), (sG, aN (cT 0) 16 got), (sW, aN (cT 0) 16 owe)]) C iX3_clear_X3 tyX3_ok nmX3 0 rfl rfl 1 (by decide) (mw 2 rfl) rfl rfl rfl rfl (Nat.le_of_ble_eq_true rfl) rfl dX3_clear_7 ?_
  refine r_aln (pc := 10) C 0 rfl dX3_clear_10 ?_
  refine r_iln (pc := 11) C 3 rfl dX3_clear_11 ?_
  refine r_put (pc := 12) (ws2 := [(sA, cSt f1 w1 m1 las pat bro mov cnt sI sO sB sM sG sW), (sG, aN (cT 0) 16 got), (sW, aN (cT 0) 16 owe)]) C iX3_clear_X3 tyX3_ok nmX3 0 rfl rfl 2 (by decide) (mw 3 rfl) rfl rfl rfl rfl (Nat.le_of_ble_eq_true rfl) rfl dX3_clear_12 ?_
  refine r_aln (pc := 15) C 0 rfl dX3_clear_15 ?_
  refine r_il (pc := 16) C 4 rfl dX3_clear_16 ?_
  refine r_put (pc := 18) (ws2 := [(sA, cSt f1 w1 m1 l1 pat bro mov cnt sI sO sB sM sG sW), (sG, aN (cT 0) 16 got), (sW, aN (cT 0) 16 owe)]) C iX3_clear_X3 tyX3_ok nmX3 0 rfl rfl 3 (by decide) (mw 4 rfl) rfl rfl rfl rfl (Nat.le_of_ble_eq_true rfl) rfl dX3_clear_18 ?_
  refine r_aln (pc := 21) C 0 rfl dX3_clear_21 ?_
  refine r_ic (pc := 22) (v := nI 2) C rfl dX3_clear_22 ?_
  refine r_put (pc := 23) (ws2 := [(sA, cSt f1 w1 m1 l1 2 bro mov cnt sI sO sB sM sG sW), (sG, aN (cT 0) 16 got), (sW, aN (cT 0) 16 owe)]) C iX3_clear_X3 tyX3_ok nmX3 0 rfl rfl 4 (by decide) (mw 5 rfl) rfl rfl rfl rfl (Nat.le_of_ble_eq_true rfl) rfl dX3_clear_23 ?_
  refine r_aln (pc := 26) C 0 rfl dX3_clear_26 ?_
  refine r_ic (pc := 27) (v := nI 0) C rfl dX3_clear_27 ?_
  refine r_put (pc := 28) (ws2 := [(sA, cSt f1 w1 m1 l1 2 0 mov cnt sI sO sB sM sG sW), (sG, aN (cT 0) 16 got), (sW, aN (cT 0) 16 owe)]) C iX3_clear_X3 tyX3_ok nmX3 0 rfl rfl 5 (by decide) (mw 6 rfl) rfl rfl rfl rfl (Nat.le_of_ble_eq_true rfl) rfl dX3_clear_28 ?_
  refine r_aln (pc := 31) C 0 rfl dX3_clear_31 ?_
  refine r_ic (pc := 32) (v := nI 0) C rfl dX3_clear_32 ?_
  refine r_put (pc := 33) (ws2 := [(sA, cSt f1 w1 m1 l1 2 0 0 cnt sI sO sB sM sG sW), (sG, aN (cT 0) 16 got), (sW, aN (cT 0) 16 owe)]) C iX3_clear_X3 tyX3_ok nmX3 0 rfl rfl 6 (by decide) (mw 7 rfl) rfl rfl rfl rfl (Nat.le_of_ble_eq_true rfl) rfl dX3_clear_33 ?_
  refine r_aln (pc := 36) C 0 rfl dX3_clear_36 ?_
  refine r_ic (pc := 37) (v := nI 0) C rfl dX3_clear_37 ?_
  refine r_put (pc := 38) (ws2 := [(sA, cSt f1 w1 m1 l1 2 0 0 0 sI sO sB sM sG sW), (sG, aN (cT 0) 16 got), (sW, aN (cT 0) 16 owe)]) C iX3_clear_X3 tyX3_ok nmX3 0 rfl rfl 7 (by decide) (mw 8 rfl) rfl rfl rfl rfl (Nat.le_of_ble_eq_true rfl) rfl dX3_clear_38 ?_
  refine r_ic (pc := 41) (v := nI 0) C rfl dX3_clear_41 ?_
  refine r_is (pc := 42) C [1, 2, 3, 4, 5, 0] [(0, .ref sA), (1, .int (nI f1)), (2, .int (nI w1)), (3, .int (nI m1)), (4, .int (nI l1)), (5, .int (nI 0))] (by decide) rfl dX3_clear_42 ?_
  have L44 : ∀ (n44 : Nat) (i : Nat) (g1 : Nat → Nat) (o1 : Nat → Nat) (hi2 : i ≤ 16) (hq : ∀ k, k < i → g1 k = 0 ∧ o1 k = 0), 16 - i < n44 → RW p l e (headSpec wsX3_clear rmX3_clear).room s m args below meth c (IW s D A) 6 0 0 Q [(sA, cSt f1 w1 m1 l1 2 0 0 0 sI sO sB sM sG sW), (sG, aN (cT 0) 16 g1), (sW, aN (cT 0) 16 o1)] 44 [(0, .ref sA), (1, .int (nI f1)), (2, .int (nI w1)), (3, .int (nI m1)), (4, .int (nI l1)), (5, .int (nI i))] [] := by
    intro n44
    induction n44 with
    | zero => intro i g1 o1 hi2 hq hn44; exact absurd hn44 (Nat.not_lt_zero _)
    | succ n44 ih44 =>
      intro i g1 o1 hi2 hq hn44
      refine r_il (pc := 44) C 5 rfl dX3_clear_44 ?_
      refine r_bi (pc := 46) (v := nI 16) C rfl dX3_clear_46 ?_
      refine r_cgeN (pc := 48) (tgt := 73) C (by omega) (by omega) dX3_clear_48 (by decide) (fun c48 => ?_) (fun c48 => ?_)
      · subst hQ
        exact e_vW C hr hk (Nat.le_refl _) (Nat.le_refl _) ⟨g1, o1⟩ rfl (fun k hk => hq k (by omega)) dX3_clear_73
      · refine r_aln (pc := 51) C 0 rfl dX3_clear_51 ?_
        refine r_get (pc := 52) C iX3_clear_X3 0 rfl rfl 12 (by decide) (mw 9 rfl) rfl rfl dX3_clear_52 ?_
        refine r_il (pc := 55) C 5 rfl dX3_clear_55 ?_
        refine r_ic (pc := 57) (v := nI 0) C rfl dX3_clear_57 ?_
        refine r_iasN (pc := 58) (ws2 := [(sA, cSt f1 w1 m1 l1 2 0 0 0 sI sO sB sM sG sW), (sG, aN (cT 0) 16 (va_up g1 i 0)), (sW, aN (cT 0) 16 o1)]) C 1 rfl (by omega) (by decide) rfl dX3_clear_58 ?_
        refine r_aln (pc := 59) C 0 rfl dX3_clear_59 ?_
        refine r_get (pc := 60) C iX3_clear_X3 0 rfl rfl 13 (by decide) (mw 10 rfl) rfl rfl dX3_clear_60 ?_
        refine r_il (pc := 63) C 5 rfl dX3_clear_63 ?_
        refine r_ic (pc := 65) (v := nI 0) C rfl dX3_clear_65 ?_
        refine r_iasN (pc := 66) (ws2 := [(sA, cSt f1 w1 m1 l1 2 0 0 0 sI sO sB sM sG sW), (sG, aN (cT 0) 16 (va_up g1 i 0)), (sW, aN (cT 0) 16 (va_up o1 i 0))]) C 2 rfl (by omega) (by decide) rfl dX3_clear_66 ?_
        refine r_incN (pc := 67) C 5 [1, 2, 3, 4, 5, 0] [(0, .ref sA), (1, .int (nI f1)), (2, .int (nI w1)), (3, .int (nI m1)), (4, .int (nI l1)), (5, .int (nI (i + 1)))] rfl (by decide) rfl dX3_clear_67 ?_
        refine r_goto (pc := 70) (tgt := 44) C dX3_clear_70 (by decide) ?_
        exact ih44 (i + 1) (va_up g1 i 0) (va_up o1 i 0) (by omega) (fun k hk => by unfold va_up; rcases Nat.lt_succ_iff_lt_or_eq.mp hk with g | g; have := hq k g; constructor <;> split <;> simp_all; subst g; simp) (by omega)
  exact L44 _ 0 got owe (Nat.zero_le _) (fun k hk => absurd hk (Nat.not_lt_zero _)) (Nat.lt_succ_self _)

theorem iX3_become_X3 : ∀ w ∈ u_ws RX3 TX3 14, w ∈ wsX3_become := by decide +kernel
abbrev rmX3_become : Room := { frames := 1, cells := 0, slots := 0, locals := 64 }
theorem n_X3_become : yX3_become.cls = RX3 ∧ yX3_become.cls ≠ "java/lang/invoke/MethodHandle" ∧ yX3_become.cls ≠ "java/lang/invoke/VarHandle" ∧ (parseMethodDescriptor yX3_become.desc).map (fun d => d.parameters.length) = some 1 := by decide +kernel
set_option maxHeartbeats 4000000 in
set_option maxRecDepth 100000 in
theorem k_X3_become (l : Launch) (D : va_G) (cT : Nat → ClassId) (aA afst awid amid alas apat abro amov acnt aI aO aB aM aG aW : Nat) (ainp aouts abrd amvd agot aowe : Nat → Nat) (bA bfst bwid bmid blas bpat bbro bmov bcnt bI bO bB bM bG bW : Nat) (binp bouts bbrd bmvd bgot bowe : Nat → Nat)  : MWv (S := Unit) l D cT yX3_become wsX3_become rmX3_become [.ref aA, .ref bA] [(aA, cSt afst awid amid alas apat abro amov acnt aI aO aB aM aG aW), (aI, aN (cT 0) 16 ainp), (aO, aN (cT 0) 16 aouts), (aB, aN (cT 0) 16 abrd), (aM, aN (cT 0) 16 amvd), (aG, aN (cT 0) 16 agot), (aW, aN (cT 0) 16 aowe), (bA, cSt bfst bwid bmid blas bpat bbro bmov bcnt bI bO bB bM bG bW), (bI, aN (cT 0) 16 binp), (bO, aN (cT 0) 16 bouts), (bB, aN (cT 0) 16 bbrd), (bM, aN (cT 0) 16 bmvd), (bG, aN (cT 0) 16 bgot), (bW, aN (cT 0) 16 bowe)] (fun u => True) (fun u => [(aA, cSt bfst bwid bmid blas bpat bbro bmov bcnt aI aO aB aM aG aW), (aI, aN (cT 0) 16 binp), (aO, aN (cT 0) 16 bouts), (aB, aN (cT 0) 16 bbrd), (aM, aN (cT 0) 16 bmvd), (aG, aN (cT 0) 16 bgot), (aW, aN (cT 0) 16 bowe), (bA, cSt bfst bwid bmid blas bpat bbro bmov bcnt bI bO bB bM bG bW), (bI, aN (cT 0) 16 binp), (bO, aN (cT 0) 16 bouts), (bB, aN (cT 0) 16 bbrd), (bM, aN (cT 0) 16 bmvd), (bG, aN (cT 0) 16 bgot), (bW, aN (cT 0) 16 bowe)]) 0 0 := by
  refine m_Wv [(0, .ref aA), (1, .ref bA)] (by decide +kernel) rfl (Nat.le_of_ble_eq_true rfl) rfl ?_
  intro p e s m args below meth c A hAe C hA hr hk hnm_
  generalize hQ : MQ below (va_Qv _ _ A) args s 0 0 A = Q
  refine r_aln (pc := 0) C 0 rfl dX3_become_0 ?_
  refine r_aln (pc := 1) C 1 rfl dX3_become_1 ?_
  refine r_get (pc := 2) C iX3_become_X3 7 rfl rfl 0 (by decide) (mw 1 rfl) rfl rfl dX3_become_2 ?_
  refine r_put (pc := 5) (ws2 := [(aA, cSt bfst awid amid alas apat abro amov acnt aI aO aB aM aG aW), (aI, aN (cT 0) 16 ainp), (aO, aN (cT 0) 16 aouts), (aB, aN (cT 0) 16 abrd), (aM, aN (cT 0) 16 amvd), (aG, aN (cT 0) 16 agot), (aW, aN (cT 0) 16 aowe), (bA, cSt bfst bwid bmid blas bpat bbro bmov bcnt bI bO bB bM bG bW), (bI, aN (cT 0) 16 binp), (bO, aN (cT 0) 16 bouts), (bB, aN (cT 0) 16 bbrd), (bM, aN (cT 0) 16 bmvd), (bG, aN (cT 0) 16 bgot), (bW, aN (cT 0) 16 bowe)]) C iX3_become_X3 tyX3_ok nmX3 0 rfl rfl 0 (by decide) (mw 1 rfl) rfl rfl rfl rfl (Nat.le_of_ble_eq_true rfl) rfl dX3_become_5 ?_
  refine r_aln (pc := 8) C 0 rfl dX3_become_8 ?_
  refine r_aln (pc := 9) C 1 rfl dX3_become_9 ?_
  refine r_get (pc := 10) C iX3_become_X3 7 rfl rfl 1 (by decide) (mw 2 rfl) rfl rfl dX3_become_10 ?_
  refine r_put (pc := 13) (ws2 := [(aA, cSt bfst bwid amid alas apat abro amov acnt aI aO aB aM aG aW), (aI, aN (cT 0) 16 ainp), (aO, aN (cT 0) 16 aouts), (aB, aN (cT 0) 16 abrd), (aM, aN (cT 0) 16 amvd), (aG, aN (cT 0) 16 agot), (aW, aN (cT 0) 16 aowe), (bA, cSt bfst bwid bmid blas bpat bbro bmov bcnt bI bO bB bM bG bW), (bI, aN (cT 0) 16 binp), (bO, aN (cT 0) 16 bouts), (bB, aN (cT 0) 16 bbrd), (bM, aN (cT 0) 16 bmvd), (bG, aN (cT 0) 16 bgot), (bW, aN (cT 0) 16 bowe)]) C iX3_become_X3 tyX3_ok nmX3 0 rfl rfl 1 (by decide) (mw 2 rfl) rfl rfl rfl rfl (Nat.le_of_ble_eq_true rfl) rfl dX3_become_13 ?_
  refine r_aln (pc := 16) C 0 rfl dX3_become_16 ?_
  refine r_aln (pc := 17) C 1 rfl dX3_become_17 ?_
  refine r_get (pc := 18) C iX3_become_X3 7 rfl rfl 2 (by decide) (mw 3 rfl) rfl rfl dX3_become_18 ?_
  refine r_put (pc := 21) (ws2 := [(aA, cSt bfst bwid bmid alas apat abro amov acnt aI aO aB aM aG aW), (aI, aN (cT 0) 16 ainp), (aO, aN (cT 0) 16 aouts), (aB, aN (cT 0) 16 abrd), (aM, aN (cT 0) 16 amvd), (aG, aN (cT 0) 16 agot), (aW, aN (cT 0) 16 aowe), (bA, cSt bfst bwid bmid blas bpat bbro bmov bcnt bI bO bB bM bG bW), (bI, aN (cT 0) 16 binp), (bO, aN (cT 0) 16 bouts), (bB, aN (cT 0) 16 bbrd), (bM, aN (cT 0) 16 bmvd), (bG, aN (cT 0) 16 bgot), (bW, aN (cT 0) 16 bowe)]) C iX3_become_X3 tyX3_ok nmX3 0 rfl rfl 2 (by decide) (mw 3 rfl) rfl rfl rfl rfl (Nat.le_of_ble_eq_true rfl) rfl dX3_become_21 ?_
  refine r_aln (pc := 24) C 0 rfl dX3_become_24 ?_
  refine r_aln (pc := 25) C 1 rfl dX3_become_25 ?_
  refine r_get (pc := 26) C iX3_become_X3 7 rfl rfl 3 (by decide) (mw 4 rfl) rfl rfl dX3_become_26 ?_
  refine r_put (pc := 29) (ws2 := [(aA, cSt bfst bwid bmid blas apat abro amov acnt aI aO aB aM aG aW), (aI, aN (cT 0) 16 ainp), (aO, aN (cT 0) 16 aouts), (aB, aN (cT 0) 16 abrd), (aM, aN (cT 0) 16 amvd), (aG, aN (cT 0) 16 agot), (aW, aN (cT 0) 16 aowe), (bA, cSt bfst bwid bmid blas bpat bbro bmov bcnt bI bO bB bM bG bW), (bI, aN (cT 0) 16 binp), (bO, aN (cT 0) 16 bouts), (bB, aN (cT 0) 16 bbrd), (bM, aN (cT 0) 16 bmvd), (bG, aN (cT 0) 16 bgot), (bW, aN (cT 0) 16 bowe)]) C iX3_become_X3 tyX3_ok nmX3 0 rfl rfl 3 (by decide) (mw 4 rfl) rfl rfl rfl rfl (Nat.le_of_ble_eq_true rfl) rfl dX3_become_29 ?_
  refine r_aln (pc := 32) C 0 rfl dX3_become_32 ?_
  refine r_aln (pc := 33) C 1 rfl dX3_become_33 ?_
  refine r_get (pc := 34) C iX3_become_X3 7 rfl rfl 4 (by decide) (mw 5 rfl) rfl rfl dX3_become_34 ?_
  refine r_put (pc := 37) (ws2 := [(aA, cSt bfst bwid bmid blas bpat abro amov acnt aI aO aB aM aG aW), (aI, aN (cT 0) 16 ainp), (aO, aN (cT 0) 16 aouts), (aB, aN (cT 0) 16 abrd), (aM, aN (cT 0) 16 amvd), (aG, aN (cT 0) 16 agot), (aW, aN (cT 0) 16 aowe), (bA, cSt bfst bwid bmid blas bpat bbro bmov bcnt bI bO bB bM bG bW), (bI, aN (cT 0) 16 binp), (bO, aN (cT 0) 16 bouts), (bB, aN (cT 0) 16 bbrd), (bM, aN (cT 0) 16 bmvd), (bG, aN (cT 0) 16 bgot), (bW, aN (cT 0) 16 bowe)]) C iX3_become_X3 tyX3_ok nmX3 0 rfl rfl 4 (by decide) (mw 5 rfl) rfl rfl rfl rfl (Nat.le_of_ble_eq_true rfl) rfl dX3_become_37 ?_
  refine r_aln (pc := 40) C 0 rfl dX3_become_40 ?_
  refine r_aln (pc := 41) C 1 rfl dX3_become_41 ?_
  refine r_get (pc := 42) C iX3_become_X3 7 rfl rfl 5 (by decide) (mw 6 rfl) rfl rfl dX3_become_42 ?_
  refine r_put (pc := 45) (ws2 := [(aA, cSt bfst bwid bmid blas bpat bbro amov acnt aI aO aB aM aG aW), (aI, aN (cT 0) 16 ainp), (aO, aN (cT 0) 16 aouts), (aB, aN (cT 0) 16 abrd), (aM, aN (cT 0) 16 amvd), (aG, aN (cT 0) 16 agot), (aW, aN (cT 0) 16 aowe), (bA, cSt bfst bwid bmid blas bpat bbro bmov bcnt bI bO bB bM bG bW), (bI, aN (cT 0) 16 binp), (bO, aN (cT 0) 16 bouts), (bB, aN (cT 0) 16 bbrd), (bM, aN (cT 0) 16 bmvd), (bG, aN (cT 0) 16 bgot), (bW, aN (cT 0) 16 bowe)]) C iX3_become_X3 tyX3_ok nmX3 0 rfl rfl 5 (by decide) (mw 6 rfl) rfl rfl rfl rfl (Nat.le_of_ble_eq_true rfl) rfl dX3_become_45 ?_
  refine r_aln (pc := 48) C 0 rfl dX3_become_48 ?_
  refine r_aln (pc := 49) C 1 rfl dX3_become_49 ?_
  refine r_get (pc := 50) C iX3_become_X3 7 rfl rfl 6 (by decide) (mw 7 rfl) rfl rfl dX3_become_50 ?_
  refine r_put (pc := 53) (ws2 := [(aA, cSt bfst bwid bmid blas bpat bbro bmov acnt aI aO aB aM aG aW), (aI, aN (cT 0) 16 ainp), (aO, aN (cT 0) 16 aouts), (aB, aN (cT 0) 16 abrd), (aM, aN (cT 0) 16 amvd), (aG, aN (cT 0) 16 agot), (aW, aN (cT 0) 16 aowe), (bA, cSt bfst bwid bmid blas bpat bbro bmov bcnt bI bO bB bM bG bW), (bI, aN (cT 0) 16 binp), (bO, aN (cT 0) 16 bouts), (bB, aN (cT 0) 16 bbrd), (bM, aN (cT 0) 16 bmvd), (bG, aN (cT 0) 16 bgot), (bW, aN (cT 0) 16 bowe)]) C iX3_become_X3 tyX3_ok nmX3 0 rfl rfl 6 (by decide) (mw 7 rfl) rfl rfl rfl rfl (Nat.le_of_ble_eq_true rfl) rfl dX3_become_53 ?_
  refine r_aln (pc := 56) C 0 rfl dX3_become_56 ?_
  refine r_aln (pc := 57) C 1 rfl dX3_become_57 ?_
  refine r_get (pc := 58) C iX3_become_X3 7 rfl rfl 7 (by decide) (mw 8 rfl) rfl rfl dX3_become_58 ?_
  refine r_put (pc := 61) (ws2 := [(aA, cSt bfst bwid bmid blas bpat bbro bmov bcnt aI aO aB aM aG aW), (aI, aN (cT 0) 16 ainp), (aO, aN (cT 0) 16 aouts), (aB, aN (cT 0) 16 abrd), (aM, aN (cT 0) 16 amvd), (aG, aN (cT 0) 16 agot), (aW, aN (cT 0) 16 aowe), (bA, cSt bfst bwid bmid blas bpat bbro bmov bcnt bI bO bB bM bG bW), (bI, aN (cT 0) 16 binp), (bO, aN (cT 0) 16 bouts), (bB, aN (cT 0) 16 bbrd), (bM, aN (cT 0) 16 bmvd), (bG, aN (cT 0) 16 bgot), (bW, aN (cT 0) 16 bowe)]) C iX3_become_X3 tyX3_ok nmX3 0 rfl rfl 7 (by decide) (mw 8 rfl) rfl rfl rfl rfl (Nat.le_of_ble_eq_true rfl) rfl dX3_become_61 ?_
  refine r_aln (pc := 64) C 1 rfl dX3_become_64 ?_
  refine r_get (pc := 65) C iX3_become_X3 7 rfl rfl 8 (by decide) (mw 9 rfl) rfl rfl dX3_become_65 ?_
  refine r_ic (pc := 68) (v := nI 0) C rfl dX3_become_68 ?_
  refine r_aln (pc := 69) C 0 rfl dX3_become_69 ?_
  refine r_get (pc := 70) C iX3_become_X3 0 rfl rfl 8 (by decide) (mw 9 rfl) rfl rfl dX3_become_70 ?_
  refine r_ic (pc := 73) (v := nI 0) C rfl dX3_become_73 ?_
  refine r_bi (pc := 74) (v := nI 16) C rfl dX3_become_74 ?_
  refine r_acp (pc := 76) (ws2 := [(aA, cSt bfst bwid bmid blas bpat bbro bmov bcnt aI aO aB aM aG aW), (aI, aN (cT 0) 16 binp), (aO, aN (cT 0) 16 aouts), (aB, aN (cT 0) 16 abrd), (aM, aN (cT 0) 16 amvd), (aG, aN (cT 0) 16 agot), (aW, aN (cT 0) 16 aowe), (bA, cSt bfst bwid bmid blas bpat bbro bmov bcnt bI bO bB bM bG bW), (bI, aN (cT 0) 16 binp), (bO, aN (cT 0) 16 bouts), (bB, aN (cT 0) 16 bbrd), (bM, aN (cT 0) 16 bmvd), (bG, aN (cT 0) 16 bgot), (bW, aN (cT 0) 16 bowe)]) C 8 1 rfl rfl (by decide) (by decide) (mw 10 rfl) (mw 11 rfl) (mw 12 rfl) (mw 13 rfl) (Nat.le_of_ble_eq_true rfl) (Nat.le_of_ble_eq_true rfl) rfl dX3_become_76 ?_
  refine r_aln (pc := 79) C 1 rfl dX3_become_79 ?_
  refine r_get (pc := 80) C iX3_become_X3 7 rfl rfl 9 (by decide) (mw 14 rfl) rfl rfl dX3_become_80 ?_
  refine r_ic (pc := 83) (v := nI 0) C rfl dX3_become_83 ?_
  refine r_aln (pc := 84) C 0 rfl dX3_become_84 ?_
  refine r_get (pc := 85) C iX3_become_X3 0 rfl rfl 9 (by decide) (mw 14 rfl) rfl rfl dX3_become_85 ?_
  refine r_ic (pc := 88) (v := nI 0) C rfl dX3_become_88 ?_
  refine r_bi (pc := 89) (v := nI 16) C rfl dX3_become_89 ?_
  refine r_acp (pc := 91) (ws2 := [(aA, cSt bfst bwid bmid blas bpat bbro bmov bcnt aI aO aB aM aG aW), (aI, aN (cT 0) 16 binp), (aO, aN (cT 0) 16 bouts), (aB, aN (cT 0) 16 abrd), (aM, aN (cT 0) 16 amvd), (aG, aN (cT 0) 16 agot), (aW, aN (cT 0) 16 aowe), (bA, cSt bfst bwid bmid blas bpat bbro bmov bcnt bI bO bB bM bG bW), (bI, aN (cT 0) 16 binp), (bO, aN (cT 0) 16 bouts), (bB, aN (cT 0) 16 bbrd), (bM, aN (cT 0) 16 bmvd), (bG, aN (cT 0) 16 bgot), (bW, aN (cT 0) 16 bowe)]) C 9 2 rfl rfl (by decide) (by decide) (mw 10 rfl) (mw 11 rfl) (mw 12 rfl) (mw 13 rfl) (Nat.le_of_ble_eq_true rfl) (Nat.le_of_ble_eq_true rfl) rfl dX3_become_91 ?_
  refine r_aln (pc := 94) C 1 rfl dX3_become_94 ?_
  refine r_get (pc := 95) C iX3_become_X3 7 rfl rfl 10 (by decide) (mw 15 rfl) rfl rfl dX3_become_95 ?_
  refine r_ic (pc := 98) (v := nI 0) C rfl dX3_become_98 ?_
  refine r_aln (pc := 99) C 0 rfl dX3_become_99 ?_
  refine r_get (pc := 100) C iX3_become_X3 0 rfl rfl 10 (by decide) (mw 15 rfl) rfl rfl dX3_become_100 ?_
  refine r_ic (pc := 103) (v := nI 0) C rfl dX3_become_103 ?_
  refine r_bi (pc := 104) (v := nI 16) C rfl dX3_become_104 ?_
  refine r_acp (pc := 106) (ws2 := [(aA, cSt bfst bwid bmid blas bpat bbro bmov bcnt aI aO aB aM aG aW), (aI, aN (cT 0) 16 binp), (aO, aN (cT 0) 16 bouts), (aB, aN (cT 0) 16 bbrd), (aM, aN (cT 0) 16 amvd), (aG, aN (cT 0) 16 agot), (aW, aN (cT 0) 16 aowe), (bA, cSt bfst bwid bmid blas bpat bbro bmov bcnt bI bO bB bM bG bW), (bI, aN (cT 0) 16 binp), (bO, aN (cT 0) 16 bouts), (bB, aN (cT 0) 16 bbrd), (bM, aN (cT 0) 16 bmvd), (bG, aN (cT 0) 16 bgot), (bW, aN (cT 0) 16 bowe)]) C 10 3 rfl rfl (by decide) (by decide) (mw 10 rfl) (mw 11 rfl) (mw 12 rfl) (mw 13 rfl) (Nat.le_of_ble_eq_true rfl) (Nat.le_of_ble_eq_true rfl) rfl dX3_become_106 ?_
  refine r_aln (pc := 109) C 1 rfl dX3_become_109 ?_
  refine r_get (pc := 110) C iX3_become_X3 7 rfl rfl 11 (by decide) (mw 16 rfl) rfl rfl dX3_become_110 ?_
  refine r_ic (pc := 113) (v := nI 0) C rfl dX3_become_113 ?_
  refine r_aln (pc := 114) C 0 rfl dX3_become_114 ?_
  refine r_get (pc := 115) C iX3_become_X3 0 rfl rfl 11 (by decide) (mw 16 rfl) rfl rfl dX3_become_115 ?_
  refine r_ic (pc := 118) (v := nI 0) C rfl dX3_become_118 ?_
  refine r_bi (pc := 119) (v := nI 16) C rfl dX3_become_119 ?_
  refine r_acp (pc := 121) (ws2 := [(aA, cSt bfst bwid bmid blas bpat bbro bmov bcnt aI aO aB aM aG aW), (aI, aN (cT 0) 16 binp), (aO, aN (cT 0) 16 bouts), (aB, aN (cT 0) 16 bbrd), (aM, aN (cT 0) 16 bmvd), (aG, aN (cT 0) 16 agot), (aW, aN (cT 0) 16 aowe), (bA, cSt bfst bwid bmid blas bpat bbro bmov bcnt bI bO bB bM bG bW), (bI, aN (cT 0) 16 binp), (bO, aN (cT 0) 16 bouts), (bB, aN (cT 0) 16 bbrd), (bM, aN (cT 0) 16 bmvd), (bG, aN (cT 0) 16 bgot), (bW, aN (cT 0) 16 bowe)]) C 11 4 rfl rfl (by decide) (by decide) (mw 10 rfl) (mw 11 rfl) (mw 12 rfl) (mw 13 rfl) (Nat.le_of_ble_eq_true rfl) (Nat.le_of_ble_eq_true rfl) rfl dX3_become_121 ?_
  refine r_aln (pc := 124) C 1 rfl dX3_become_124 ?_
  refine r_get (pc := 125) C iX3_become_X3 7 rfl rfl 12 (by decide) (mw 17 rfl) rfl rfl dX3_become_125 ?_
  refine r_ic (pc := 128) (v := nI 0) C rfl dX3_become_128 ?_
  refine r_aln (pc := 129) C 0 rfl dX3_become_129 ?_
  refine r_get (pc := 130) C iX3_become_X3 0 rfl rfl 12 (by decide) (mw 17 rfl) rfl rfl dX3_become_130 ?_
  refine r_ic (pc := 133) (v := nI 0) C rfl dX3_become_133 ?_
  refine r_bi (pc := 134) (v := nI 16) C rfl dX3_become_134 ?_
  refine r_acp (pc := 136) (ws2 := [(aA, cSt bfst bwid bmid blas bpat bbro bmov bcnt aI aO aB aM aG aW), (aI, aN (cT 0) 16 binp), (aO, aN (cT 0) 16 bouts), (aB, aN (cT 0) 16 bbrd), (aM, aN (cT 0) 16 bmvd), (aG, aN (cT 0) 16 bgot), (aW, aN (cT 0) 16 aowe), (bA, cSt bfst bwid bmid blas bpat bbro bmov bcnt bI bO bB bM bG bW), (bI, aN (cT 0) 16 binp), (bO, aN (cT 0) 16 bouts), (bB, aN (cT 0) 16 bbrd), (bM, aN (cT 0) 16 bmvd), (bG, aN (cT 0) 16 bgot), (bW, aN (cT 0) 16 bowe)]) C 12 5 rfl rfl (by decide) (by decide) (mw 10 rfl) (mw 11 rfl) (mw 12 rfl) (mw 13 rfl) (Nat.le_of_ble_eq_true rfl) (Nat.le_of_ble_eq_true rfl) rfl dX3_become_136 ?_
  refine r_aln (pc := 139) C 1 rfl dX3_become_139 ?_
  refine r_get (pc := 140) C iX3_become_X3 7 rfl rfl 13 (by decide) (mw 18 rfl) rfl rfl dX3_become_140 ?_
  refine r_ic (pc := 143) (v := nI 0) C rfl dX3_become_143 ?_
  refine r_aln (pc := 144) C 0 rfl dX3_become_144 ?_
  refine r_get (pc := 145) C iX3_become_X3 0 rfl rfl 13 (by decide) (mw 18 rfl) rfl rfl dX3_become_145 ?_
  refine r_ic (pc := 148) (v := nI 0) C rfl dX3_become_148 ?_
  refine r_bi (pc := 149) (v := nI 16) C rfl dX3_become_149 ?_
  refine r_acp (pc := 151) (ws2 := [(aA, cSt bfst bwid bmid blas bpat bbro bmov bcnt aI aO aB aM aG aW), (aI, aN (cT 0) 16 binp), (aO, aN (cT 0) 16 bouts), (aB, aN (cT 0) 16 bbrd), (aM, aN (cT 0) 16 bmvd), (aG, aN (cT 0) 16 bgot), (aW, aN (cT 0) 16 bowe), (bA, cSt bfst bwid bmid blas bpat bbro bmov bcnt bI bO bB bM bG bW), (bI, aN (cT 0) 16 binp), (bO, aN (cT 0) 16 bouts), (bB, aN (cT 0) 16 bbrd), (bM, aN (cT 0) 16 bmvd), (bG, aN (cT 0) 16 bgot), (bW, aN (cT 0) 16 bowe)]) C 13 6 rfl rfl (by decide) (by decide) (mw 10 rfl) (mw 11 rfl) (mw 12 rfl) (mw 13 rfl) (Nat.le_of_ble_eq_true rfl) (Nat.le_of_ble_eq_true rfl) rfl dX3_become_151 ?_
  subst hQ
  exact e_vW C hr hk (Nat.le_refl _) (Nat.le_refl _) () rfl trivial dX3_become_154

