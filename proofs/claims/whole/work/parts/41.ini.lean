
theorem iX3_init_X3 : ∀ w ∈ u_ws RX3 TX3 14, w ∈ wsX3_init := by decide +kernel
abbrev rmX3_init : Room := { frames := 1, cells := 6, slots := 96, locals := 40 }
theorem n_X3_init : yX3_init.cls = RX3 ∧ yX3_init.cls ≠ "java/lang/invoke/MethodHandle" ∧ yX3_init.cls ≠ "java/lang/invoke/VarHandle" ∧ (parseMethodDescriptor yX3_init.desc).map (fun d => d.parameters.length) = some 0 := by decide +kernel
set_option maxHeartbeats 4000000 in
set_option maxRecDepth 100000 in
theorem k_X3_init (l : Launch) (D : va_G) (cT : Nat → ClassId) (sA : Nat)  : MWv (S := Nat × Nat × Nat × Nat × Nat × Nat) l D cT yX3_init wsX3_init rmX3_init [.ref sA] [(sA, .inr (3, [.int (nI 0), .int (nI 0), .int (nI 0), .int (nI 0), .int (nI 0), .int (nI 0), .int (nI 0), .int (nI 0), .null, .null, .null, .null, .null, .null]))] (fun w9 => True) (fun w9 => [(sA, cSt 0 0 0 0 0 0 0 0 w9.1 w9.2.1 w9.2.2.1 w9.2.2.2.1 w9.2.2.2.2.1 w9.2.2.2.2.2), (w9.1, aN (cT 0) 16 (fun _ => 0)), (w9.2.1, aN (cT 0) 16 (fun _ => 0)), (w9.2.2.1, aN (cT 0) 16 (fun _ => 0)), (w9.2.2.2.1, aN (cT 0) 16 (fun _ => 0)), (w9.2.2.2.2.1, aN (cT 0) 16 (fun _ => 0)), (w9.2.2.2.2.2, aN (cT 0) 16 (fun _ => 0))]) 6 96 := by
  refine m_Wv [(0, .ref sA)] (by decide +kernel) rfl (Nat.le_of_ble_eq_true rfl) rfl ?_
  intro p e s m args below meth c A hAe C hA hr hk hnm_
  generalize hQ : MQ below (va_Qv _ _ A) args s 6 96 A = Q
  refine r_aln (pc := 0) C 0 rfl dX3_init_0 ?_
  refine r_oin (pc := 1) C (mw 1 rfl) (mw 2 rfl) (mw 3 rfl) (Nat.le_of_ble_eq_true rfl) (Nat.le_of_ble_eq_true rfl) dX3_init_1 ?_
  refine r_aln (pc := 4) C 0 rfl dX3_init_4 ?_
  refine r_bi (pc := 5) (v := nI 16) C rfl dX3_init_5 ?_
  refine r_newN (pc := 7) (t0 := 0) (n := 16) (ty := .int) C hA rfl rfl rfl (mw 4 rfl) (by decide) (by decide) (Nat.le_of_ble_eq_true rfl) (Nat.le_of_ble_eq_true rfl) dX3_init_7 (fun a1 => ?_)
  refine r_putF (pc := 9) (ws2 := [(sA, .inr (3, [.int (nI 0), .int (nI 0), .int (nI 0), .int (nI 0), .int (nI 0), .int (nI 0), .int (nI 0), .int (nI 0), .ref a1, .null, .null, .null, .null, .null])), (a1, aN (cT 0) 16 (fun _ => 0))]) C iX3_init_X3 tyX3_ok nmX3 0 rfl rfl 8 (by decide) (mw 5 rfl) rfl rfl hnm_ rfl rfl rfl (Nat.le_of_ble_eq_true rfl) rfl dX3_init_9 ?_
  refine r_aln (pc := 12) C 0 rfl dX3_init_12 ?_
  refine r_bi (pc := 13) (v := nI 16) C rfl dX3_init_13 ?_
  refine r_newN (pc := 15) (t0 := 0) (n := 16) (ty := .int) C hA rfl rfl rfl (mw 4 rfl) (by decide) (by decide) (Nat.le_of_ble_eq_true rfl) (Nat.le_of_ble_eq_true rfl) dX3_init_15 (fun a2 => ?_)
  refine r_putF (pc := 17) (ws2 := [(sA, .inr (3, [.int (nI 0), .int (nI 0), .int (nI 0), .int (nI 0), .int (nI 0), .int (nI 0), .int (nI 0), .int (nI 0), .ref a1, .ref a2, .null, .null, .null, .null])), (a1, aN (cT 0) 16 (fun _ => 0)), (a2, aN (cT 0) 16 (fun _ => 0))]) C iX3_init_X3 tyX3_ok nmX3 0 rfl rfl 9 (by decide) (mw 6 rfl) rfl rfl hnm_ rfl rfl rfl (Nat.le_of_ble_eq_true rfl) rfl dX3_init_17 ?_
  refine r_aln (pc := 20) C 0 rfl dX3_init_20 ?_
  refine r_bi (pc := 21) (v := nI 16) C rfl dX3_init_21 ?_
  refine r_newN (pc := 23) (t0 := 0) (n := 16) (ty := .int) C hA rfl rfl rfl (mw 4 rfl) (by decide) (by decide) (Nat.le_of_ble_eq_true rfl) (Nat.le_of_ble_eq_true rfl) dX3_init_23 (fun a3 => ?_)
  refine r_putF (pc := 25) (ws2 := [(sA, .inr (3, [.int (nI 0), .int (nI 0), .int (nI 0), .int (nI 0), .int (nI 0), .int (nI 0), .int (nI 0), .int (nI 0), .ref a1, .ref a2, .ref a3, .null, .null, .null])), (a1, aN (cT 0) 16 (fun _ => 0)), (a2, aN (cT 0) 16 (fun _ => 0)), (a3, aN (cT 0) 16 (fun _ => 0))]) C iX3_init_X3 tyX3_ok nmX3 0 rfl rfl 10 (by decide) (mw 7 rfl) rfl rfl hnm_ rfl rfl rfl (Nat.le_of_ble_eq_true rfl) rfl dX3_init_25 ?_
  refine r_aln (pc := 28) C 0 rfl dX3_init_28 ?_
  refine r_bi (pc := 29) (v := nI 16) C rfl dX3_init_29 ?_
  refine r_newN (pc := 31) (t0 := 0) (n := 16) (ty := .int) C hA rfl rfl rfl (mw 4 rfl) (by decide) (by decide) (Nat.le_of_ble_eq_true rfl) (Nat.le_of_ble_eq_true rfl) dX3_init_31 (fun a4 => ?_)
  refine r_putF (pc := 33) (ws2 := [(sA, .inr (3, [.int (nI 0), .int (nI 0), .int (nI 0), .int (nI 0), .int (nI 0), .int (nI 0), .int (nI 0), .int (nI 0), .ref a1, .ref a2, .ref a3, .ref a4, .null, .null])), (a1, aN (cT 0) 16 (fun _ => 0)), (a2, aN (cT 0) 16 (fun _ => 0)), (a3, aN (cT 0) 16 (fun _ => 0)), (a4, aN (cT 0) 16 (fun _ => 0))]) C iX3_init_X3 tyX3_ok nmX3 0 rfl rfl 11 (by decide) (mw 8 rfl) rfl rfl hnm_ rfl rfl rfl (Nat.le_of_ble_eq_true rfl) rfl dX3_init_33 ?_
  refine r_aln (pc := 36) C 0 rfl dX3_init_36 ?_
  refine r_bi (pc := 37) (v := nI 16) C rfl dX3_init_37 ?_
  refine r_newN (pc := 39) (t0 := 0) (n := 16) (ty := .int) C hA rfl rfl rfl (mw 4 rfl) (by decide) (by decide) (Nat.le_of_ble_eq_true rfl) (Nat.le_of_ble_eq_true rfl) dX3_init_39 (fun a5 => ?_)
  refine r_putF (pc := 41) (ws2 := [(sA, .inr (3, [.int (nI 0), .int (nI 0), .int (nI 0), .int (nI 0), .int (nI 0), .int (nI 0), .int (nI 0), .int (nI 0), .ref a1, .ref a2, .ref a3, .ref a4, .ref a5, .null])), (a1, aN (cT 0) 16 (fun _ => 0)), (a2, aN (cT 0) 16 (fun _ => 0)), (a3, aN (cT 0) 16 (fun _ => 0)), (a4, aN (cT 0) 16 (fun _ => 0)), (a5, aN (cT 0) 16 (fun _ => 0))]) C iX3_init_X3 tyX3_ok nmX3 0 rfl rfl 12 (by decide) (mw 9 rfl) rfl rfl hnm_ rfl rfl rfl (Nat.le_of_ble_eq_true rfl) rfl dX3_init_41 ?_
  refine r_aln (pc := 44) C 0 rfl dX3_init_44 ?_
  refine r_bi (pc := 45) (v := nI 16) C rfl dX3_init_45 ?_
  refine r_newN (pc := 47) (t0 := 0) (n := 16) (ty := .int) C hA rfl rfl rfl (mw 4 rfl) (by decide) (by decide) (Nat.le_of_ble_eq_true rfl) (Nat.le_of_ble_eq_true rfl) dX3_init_47 (fun a6 => ?_)
  refine r_putF (pc := 49) (ws2 := [(sA, cSt 0 0 0 0 0 0 0 0 a1 a2 a3 a4 a5 a6), (a1, aN (cT 0) 16 (fun _ => 0)), (a2, aN (cT 0) 16 (fun _ => 0)), (a3, aN (cT 0) 16 (fun _ => 0)), (a4, aN (cT 0) 16 (fun _ => 0)), (a5, aN (cT 0) 16 (fun _ => 0)), (a6, aN (cT 0) 16 (fun _ => 0))]) C iX3_init_X3 tyX3_ok nmX3 0 rfl rfl 13 (by decide) (mw 10 rfl) rfl rfl hnm_ rfl rfl rfl (Nat.le_of_ble_eq_true rfl) rfl dX3_init_49 ?_
  subst hQ
  exact e_vW C hr hk (by omega) (by omega) ⟨a1, a2, a3, a4, a5, a6⟩ rfl trivial dX3_init_52

theorem iX1_init_X1 : ∀ w ∈ u_ws RX1 TX1 13, w ∈ wsX1_init := by decide +kernel
abbrev rmX1_init : Room := { frames := 1, cells := 7, slots := 88, locals := 40 }
theorem n_X1_init : yX1_init.cls = RX1 ∧ yX1_init.cls ≠ "java/lang/invoke/MethodHandle" ∧ yX1_init.cls ≠ "java/lang/invoke/VarHandle" ∧ (parseMethodDescriptor yX1_init.desc).map (fun d => d.parameters.length) = some 0 := by decide +kernel
set_option maxHeartbeats 4000000 in
set_option maxRecDepth 100000 in
theorem k_X1_init (l : Launch) (D : va_G) (cT : Nat → ClassId) (q : Nat)  : MWv (S := Nat × Nat × Nat × Nat × Nat × Nat × Nat) l D cT yX1_init wsX1_init rmX1_init [.ref q] [(q, .inr (1, [.int (nI 0), .int 0, .null, .null, .null, .null, .int (nI 0), .null, .null, .int (nI 0), .int (nI 0), .int 0, .null]))] (fun w9 => True) (fun w9 => [(q, cPl 0 0 w9.1 w9.2.1 w9.2.2.1 w9.2.2.2.1 0 w9.2.2.2.2.1 w9.2.2.2.2.2.1 0 0 0 w9.2.2.2.2.2.2), (w9.1, aN (cT 0) 16 (fun _ => 0)), (w9.2.1, aN (cT 0) 16 (fun _ => 0)), (w9.2.2.1, aI (cT 0) 16 (fun _ => nI 0)), (w9.2.2.2.1, aI (cT 0) 16 (fun _ => nI 0)), (w9.2.2.2.2.1, aN (cT 0) 4 (fun _ => 0)), (w9.2.2.2.2.2.1, aN (cT 0) 4 (fun _ => 0)), (w9.2.2.2.2.2.2, aI (cT 0) 16 (fun _ => nI 0))]) 7 88 := by
  refine m_Wv [(0, .ref q)] (by decide +kernel) rfl (Nat.le_of_ble_eq_true rfl) rfl ?_
  intro p e s m args below meth c A hAe C hA hr hk hnm_
  generalize hQ : MQ below (va_Qv _ _ A) args s 7 88 A = Q
  refine r_aln (pc := 0) C 0 rfl dX1_init_0 ?_
  refine r_oin (pc := 1) C (mw 1 rfl) (mw 2 rfl) (mw 3 rfl) (Nat.le_of_ble_eq_true rfl) (Nat.le_of_ble_eq_true rfl) dX1_init_1 ?_
  refine r_aln (pc := 4) C 0 rfl dX1_init_4 ?_
  refine r_bi (pc := 5) (v := nI 16) C rfl dX1_init_5 ?_
  refine r_newN (pc := 7) (t0 := 0) (n := 16) (ty := .int) C hA rfl rfl rfl (mw 4 rfl) (by decide) (by decide) (Nat.le_of_ble_eq_true rfl) (Nat.le_of_ble_eq_true rfl) dX1_init_7 (fun a1 => ?_)
  refine r_putF (pc := 9) (ws2 := [(q, .inr (1, [.int (nI 0), .int 0, .ref a1, .null, .null, .null, .int (nI 0), .null, .null, .int (nI 0), .int (nI 0), .int 0, .null])), (a1, aN (cT 0) 16 (fun _ => 0))]) C iX1_init_X1 tyX1_ok nmX1 0 rfl rfl 2 (by decide) (mw 5 rfl) rfl rfl hnm_ rfl rfl rfl (Nat.le_of_ble_eq_true rfl) rfl dX1_init_9 ?_
  refine r_aln (pc := 12) C 0 rfl dX1_init_12 ?_
  refine r_bi (pc := 13) (v := nI 16) C rfl dX1_init_13 ?_
  refine r_newN (pc := 15) (t0 := 0) (n := 16) (ty := .int) C hA rfl rfl rfl (mw 4 rfl) (by decide) (by decide) (Nat.le_of_ble_eq_true rfl) (Nat.le_of_ble_eq_true rfl) dX1_init_15 (fun a2 => ?_)
  refine r_putF (pc := 17) (ws2 := [(q, .inr (1, [.int (nI 0), .int 0, .ref a1, .ref a2, .null, .null, .int (nI 0), .null, .null, .int (nI 0), .int (nI 0), .int 0, .null])), (a1, aN (cT 0) 16 (fun _ => 0)), (a2, aN (cT 0) 16 (fun _ => 0))]) C iX1_init_X1 tyX1_ok nmX1 0 rfl rfl 3 (by decide) (mw 6 rfl) rfl rfl hnm_ rfl rfl rfl (Nat.le_of_ble_eq_true rfl) rfl dX1_init_17 ?_
  refine r_aln (pc := 20) C 0 rfl dX1_init_20 ?_
  refine r_bi (pc := 21) (v := nI 16) C rfl dX1_init_21 ?_
  refine r_newN (pc := 23) (t0 := 0) (n := 16) (ty := .int) C hA rfl rfl rfl (mw 4 rfl) (by decide) (by decide) (Nat.le_of_ble_eq_true rfl) (Nat.le_of_ble_eq_true rfl) dX1_init_23 (fun a3 => ?_)
  refine r_putF (pc := 25) (ws2 := [(q, .inr (1, [.int (nI 0), .int 0, .ref a1, .ref a2, .ref a3, .null, .int (nI 0), .null, .null, .int (nI 0), .int (nI 0), .int 0, .null])), (a1, aN (cT 0) 16 (fun _ => 0)), (a2, aN (cT 0) 16 (fun _ => 0)), (a3, aI (cT 0) 16 (fun _ => nI 0))]) C iX1_init_X1 tyX1_ok nmX1 0 rfl rfl 4 (by decide) (mw 7 rfl) rfl rfl hnm_ rfl rfl rfl (Nat.le_of_ble_eq_true rfl) rfl dX1_init_25 ?_
  refine r_aln (pc := 28) C 0 rfl dX1_init_28 ?_
  refine r_bi (pc := 29) (v := nI 16) C rfl dX1_init_29 ?_
  refine r_newN (pc := 31) (t0 := 0) (n := 16) (ty := .int) C hA rfl rfl rfl (mw 4 rfl) (by decide) (by decide) (Nat.le_of_ble_eq_true rfl) (Nat.le_of_ble_eq_true rfl) dX1_init_31 (fun a4 => ?_)
  refine r_putF (pc := 33) (ws2 := [(q, .inr (1, [.int (nI 0), .int 0, .ref a1, .ref a2, .ref a3, .ref a4, .int (nI 0), .null, .null, .int (nI 0), .int (nI 0), .int 0, .null])), (a1, aN (cT 0) 16 (fun _ => 0)), (a2, aN (cT 0) 16 (fun _ => 0)), (a3, aI (cT 0) 16 (fun _ => nI 0)), (a4, aI (cT 0) 16 (fun _ => nI 0))]) C iX1_init_X1 tyX1_ok nmX1 0 rfl rfl 5 (by decide) (mw 8 rfl) rfl rfl hnm_ rfl rfl rfl (Nat.le_of_ble_eq_true rfl) rfl dX1_init_33 ?_
  refine r_aln (pc := 36) C 0 rfl dX1_init_36 ?_
  refine r_ic (pc := 37) (v := nI 4) C rfl dX1_init_37 ?_
  refine r_newN (pc := 38) (t0 := 0) (n := 4) (ty := .int) C hA rfl rfl rfl (mw 4 rfl) (by decide) (by decide) (Nat.le_of_ble_eq_true rfl) (Nat.le_of_ble_eq_true rfl) dX1_init_38 (fun a5 => ?_)
  refine r_putF (pc := 40) (ws2 := [(q, .inr (1, [.int (nI 0), .int 0, .ref a1, .ref a2, .ref a3, .ref a4, .int (nI 0), .ref a5, .null, .int (nI 0), .int (nI 0), .int 0, .null])), (a1, aN (cT 0) 16 (fun _ => 0)), (a2, aN (cT 0) 16 (fun _ => 0)), (a3, aI (cT 0) 16 (fun _ => nI 0)), (a4, aI (cT 0) 16 (fun _ => nI 0)), (a5, aN (cT 0) 4 (fun _ => 0))]) C iX1_init_X1 tyX1_ok nmX1 0 rfl rfl 7 (by decide) (mw 9 rfl) rfl rfl hnm_ rfl rfl rfl (Nat.le_of_ble_eq_true rfl) rfl dX1_init_40 ?_
  refine r_aln (pc := 43) C 0 rfl dX1_init_43 ?_
  refine r_ic (pc := 44) (v := nI 4) C rfl dX1_init_44 ?_
  refine r_newN (pc := 45) (t0 := 0) (n := 4) (ty := .int) C hA rfl rfl rfl (mw 4 rfl) (by decide) (by decide) (Nat.le_of_ble_eq_true rfl) (Nat.le_of_ble_eq_true rfl) dX1_init_45 (fun a6 => ?_)
  refine r_putF (pc := 47) (ws2 := [(q, .inr (1, [.int (nI 0), .int 0, .ref a1, .ref a2, .ref a3, .ref a4, .int (nI 0), .ref a5, .ref a6, .int (nI 0), .int (nI 0), .int 0, .null])), (a1, aN (cT 0) 16 (fun _ => 0)), (a2, aN (cT 0) 16 (fun _ => 0)), (a3, aI (cT 0) 16 (fun _ => nI 0)), (a4, aI (cT 0) 16 (fun _ => nI 0)), (a5, aN (cT 0) 4 (fun _ => 0)), (a6, aN (cT 0) 4 (fun _ => 0))]) C iX1_init_X1 tyX1_ok nmX1 0 rfl rfl 8 (by decide) (mw 10 rfl) rfl rfl hnm_ rfl rfl rfl (Nat.le_of_ble_eq_true rfl) rfl dX1_init_47 ?_
  refine r_aln (pc := 50) C 0 rfl dX1_init_50 ?_
  refine r_bi (pc := 51) (v := nI 16) C rfl dX1_init_51 ?_
  refine r_newN (pc := 53) (t0 := 0) (n := 16) (ty := .int) C hA rfl rfl rfl (mw 4 rfl) (by decide) (by decide) (Nat.le_of_ble_eq_true rfl) (Nat.le_of_ble_eq_true rfl) dX1_init_53 (fun a7 => ?_)
  refine r_putF (pc := 55) (ws2 := [(q, cPl 0 0 a1 a2 a3 a4 0 a5 a6 0 0 0 a7), (a1, aN (cT 0) 16 (fun _ => 0)), (a2, aN (cT 0) 16 (fun _ => 0)), (a3, aI (cT 0) 16 (fun _ => nI 0)), (a4, aI (cT 0) 16 (fun _ => nI 0)), (a5, aN (cT 0) 4 (fun _ => 0)), (a6, aN (cT 0) 4 (fun _ => 0)), (a7, aI (cT 0) 16 (fun _ => nI 0))]) C iX1_init_X1 tyX1_ok nmX1 0 rfl rfl 12 (by decide) (mw 11 rfl) rfl rfl hnm_ rfl rfl rfl (Nat.le_of_ble_eq_true rfl) rfl dX1_init_55 ?_
  subst hQ
  exact e_vW C hr hk (by omega) (by omega) ⟨a1, a2, a3, a4, a5, a6, a7⟩ rfl trivial dX1_init_58

theorem iX2_init_X2 : ∀ w ∈ u_ws RX2 TX2 10, w ∈ wsX2_init := by decide +kernel
abbrev rmX2_init : Room := { frames := 1, cells := 1, slots := 120, locals := 40 }
theorem n_X2_init : yX2_init.cls = RX2 ∧ yX2_init.cls ≠ "java/lang/invoke/MethodHandle" ∧ yX2_init.cls ≠ "java/lang/invoke/VarHandle" ∧ (parseMethodDescriptor yX2_init.desc).map (fun d => d.parameters.length) = some 0 := by decide +kernel
set_option maxHeartbeats 4000000 in
set_option maxRecDepth 100000 in
theorem k_X2_init (l : Launch) (D : va_G) (cT : Nat → ClassId) (ra : Nat)  : MWv (S := Nat) l D cT yX2_init wsX2_init rmX2_init [.ref ra] [(ra, .inr (2, [.null, .int (nI 0), .int (nI 0), .int 0, .int 0, .int 0, .int 0, .int 0, .int 0, .int 0]))] (fun w9 => True) (fun w9 => [(ra, cRd w9 0 0 0 0 0 0 0 0 0), (w9, aN (cT 2) 120 (fun _ => 0))]) 1 120 := by
  refine m_Wv [(0, .ref ra)] (by decide +kernel) rfl (Nat.le_of_ble_eq_true rfl) rfl ?_
  intro p e s m args below meth c A hAe C hA hr hk hnm_
  generalize hQ : MQ below (va_Qv _ _ A) args s 1 120 A = Q
  refine r_aln (pc := 0) C 0 rfl dX2_init_0 ?_
  refine r_oin (pc := 1) C (mw 1 rfl) (mw 2 rfl) (mw 3 rfl) (Nat.le_of_ble_eq_true rfl) (Nat.le_of_ble_eq_true rfl) dX2_init_1 ?_
  refine r_aln (pc := 4) C 0 rfl dX2_init_4 ?_
  refine r_bi (pc := 5) (v := nI 120) C rfl dX2_init_5 ?_
  refine r_newN (pc := 7) (t0 := 2) (n := 120) (ty := .char) C hA rfl rfl rfl (mw 4 rfl) (by decide) (by decide) (Nat.le_of_ble_eq_true rfl) (Nat.le_of_ble_eq_true rfl) dX2_init_7 (fun a1 => ?_)
  refine r_putF (pc := 9) (ws2 := [(ra, cRd a1 0 0 0 0 0 0 0 0 0), (a1, aN (cT 2) 120 (fun _ => 0))]) C iX2_init_X2 tyX2_ok nmX2 0 rfl rfl 0 (by decide) (mw 5 rfl) rfl rfl hnm_ rfl rfl rfl (Nat.le_of_ble_eq_true rfl) rfl dX2_init_9 ?_
  subst hQ
  exact e_vW C hr hk (by omega) (by omega) a1 rfl trivial dX2_init_12

theorem iX5_init_X5 : ∀ w ∈ u_ws RX5 TX5 14, w ∈ wsX5_init := by decide +kernel
abbrev rmX5_init : Room := { frames := 1, cells := 8, slots := 2114, locals := 40 }
theorem n_X5_init : yX5_init.cls = RX5 ∧ yX5_init.cls ≠ "java/lang/invoke/MethodHandle" ∧ yX5_init.cls ≠ "java/lang/invoke/VarHandle" ∧ (parseMethodDescriptor yX5_init.desc).map (fun d => d.parameters.length) = some 0 := by decide +kernel
set_option maxHeartbeats 4000000 in
set_option maxRecDepth 100000 in
theorem k_X5_init (l : Launch) (D : va_G) (cT : Nat → ClassId) (mA : Nat)  : MWv (S := Nat × Nat × Nat × Nat × Nat × Nat × Nat × Nat × (Nat → Int32)) l D cT yX5_init wsX5_init rmX5_init [.ref mA] [(mA, .inr (5, [.int (nI 0), .null, .int (nI 0), .int (nI 0), .int (nI 0), .int (nI 0), .null, .null, .null, .null, .int (nI 0), .null, .null, .null]))] (fun w9 => RowQ w9.2.2.2.2.2.2.2.2 (newS 3 2 3 3)) (fun w9 => [(mA, cMo 0 w9.1 0 0 0 0 w9.2.1 w9.2.2.1 w9.2.2.2.1 w9.2.2.2.2.1 0 w9.2.2.2.2.2.1 w9.2.2.2.2.2.2.1 w9.2.2.2.2.2.2.2.1), (w9.1, aN (cT 0) 120 (fun _ => 0)), (w9.2.1, aI (cT 0) 104 (fun _ => nI 0)), (w9.2.2.1, aI (cT 0) 104 w9.2.2.2.2.2.2.2.2), (w9.2.2.2.1, aI (cT 0) 104 (fun _ => nI 0)), (w9.2.2.2.2.1, aI (cT 0) 1456 (fun _ => nI 0)), (w9.2.2.2.2.2.1, aI (cT 0) 208 (fun _ => nI 0)), (w9.2.2.2.2.2.2.1, aN (cT 1) 2 (fun _ => 0)), (w9.2.2.2.2.2.2.2.1, aI (cT 0) 16 (fun _ => nI 0))]) 8 2114 := by
  refine m_Wv [(0, .ref mA)] (by decide +kernel) rfl (Nat.le_of_ble_eq_true rfl) rfl ?_
  intro p e s m args below meth c A hAe C hA hr hk hnm_
  generalize hQ : MQ below (va_Qv _ _ A) args s 8 2114 A = Q
  refine r_aln (pc := 0) C 0 rfl dX5_init_0 ?_
  refine r_oin (pc := 1) C (mw 1 rfl) (mw 2 rfl) (mw 3 rfl) (Nat.le_of_ble_eq_true rfl) (Nat.le_of_ble_eq_true rfl) dX5_init_1 ?_
  refine r_aln (pc := 4) C 0 rfl dX5_init_4 ?_
  refine r_bi (pc := 5) (v := nI 120) C rfl dX5_init_5 ?_
  refine r_newN (pc := 7) (t0 := 0) (n := 120) (ty := .int) C hA rfl rfl rfl (mw 4 rfl) (by decide) (by decide) (Nat.le_of_ble_eq_true rfl) (Nat.le_of_ble_eq_true rfl) dX5_init_7 (fun a1 => ?_)
  refine r_putF (pc := 9) (ws2 := [(mA, .inr (5, [.int (nI 0), .ref a1, .int (nI 0), .int (nI 0), .int (nI 0), .int (nI 0), .null, .null, .null, .null, .int (nI 0), .null, .null, .null])), (a1, aN (cT 0) 120 (fun _ => 0))]) C iX5_init_X5 tyX5_ok nmX5 0 rfl rfl 1 (by decide) (mw 5 rfl) rfl rfl hnm_ rfl rfl rfl (Nat.le_of_ble_eq_true rfl) rfl dX5_init_9 ?_
  refine r_aln (pc := 12) C 0 rfl dX5_init_12 ?_
  refine r_bi (pc := 13) (v := nI 104) C rfl dX5_init_13 ?_
  refine r_newN (pc := 15) (t0 := 0) (n := 104) (ty := .int) C hA rfl rfl rfl (mw 4 rfl) (by decide) (by decide) (Nat.le_of_ble_eq_true rfl) (Nat.le_of_ble_eq_true rfl) dX5_init_15 (fun a2 => ?_)
  refine r_putF (pc := 17) (ws2 := [(mA, .inr (5, [.int (nI 0), .ref a1, .int (nI 0), .int (nI 0), .int (nI 0), .int (nI 0), .ref a2, .null, .null, .null, .int (nI 0), .null, .null, .null])), (a1, aN (cT 0) 120 (fun _ => 0)), (a2, aI (cT 0) 104 (fun _ => nI 0))]) C iX5_init_X5 tyX5_ok nmX5 0 rfl rfl 6 (by decide) (mw 6 rfl) rfl rfl hnm_ rfl rfl rfl (Nat.le_of_ble_eq_true rfl) rfl dX5_init_17 ?_
  refine r_aln (pc := 20) C 0 rfl dX5_init_20 ?_
  refine r_bi (pc := 21) (v := nI 104) C rfl dX5_init_21 ?_
  refine r_newN (pc := 23) (t0 := 0) (n := 104) (ty := .int) C hA rfl rfl rfl (mw 4 rfl) (by decide) (by decide) (Nat.le_of_ble_eq_true rfl) (Nat.le_of_ble_eq_true rfl) dX5_init_23 (fun a3 => ?_)
  refine r_putF (pc := 25) (ws2 := [(mA, .inr (5, [.int (nI 0), .ref a1, .int (nI 0), .int (nI 0), .int (nI 0), .int (nI 0), .ref a2, .ref a3, .null, .null, .int (nI 0), .null, .null, .null])), (a1, aN (cT 0) 120 (fun _ => 0)), (a2, aI (cT 0) 104 (fun _ => nI 0)), (a3, aI (cT 0) 104 (fun _ => nI 0))]) C iX5_init_X5 tyX5_ok nmX5 0 rfl rfl 7 (by decide) (mw 7 rfl) rfl rfl hnm_ rfl rfl rfl (Nat.le_of_ble_eq_true rfl) rfl dX5_init_25 ?_
  refine r_aln (pc := 28) C 0 rfl dX5_init_28 ?_
  refine r_bi (pc := 29) (v := nI 104) C rfl dX5_init_29 ?_
  refine r_newN (pc := 31) (t0 := 0) (n := 104) (ty := .int) C hA rfl rfl rfl (mw 4 rfl) (by decide) (by decide) (Nat.le_of_ble_eq_true rfl) (Nat.le_of_ble_eq_true rfl) dX5_init_31 (fun a4 => ?_)
  refine r_putF (pc := 33) (ws2 := [(mA, .inr (5, [.int (nI 0), .ref a1, .int (nI 0), .int (nI 0), .int (nI 0), .int (nI 0), .ref a2, .ref a3, .ref a4, .null, .int (nI 0), .null, .null, .null])), (a1, aN (cT 0) 120 (fun _ => 0)), (a2, aI (cT 0) 104 (fun _ => nI 0)), (a3, aI (cT 0) 104 (fun _ => nI 0)), (a4, aI (cT 0) 104 (fun _ => nI 0))]) C iX5_init_X5 tyX5_ok nmX5 0 rfl rfl 8 (by decide) (mw 8 rfl) rfl rfl hnm_ rfl rfl rfl (Nat.le_of_ble_eq_true rfl) rfl dX5_init_33 ?_
  refine r_aln (pc := 36) C 0 rfl dX5_init_36 ?_
  refine r_si (pc := 37) (v := nI 1456) C rfl dX5_init_37 ?_
  refine r_newN (pc := 40) (t0 := 0) (n := 1456) (ty := .int) C hA rfl rfl rfl (mw 4 rfl) (by decide) (by decide) (Nat.le_of_ble_eq_true rfl) (Nat.le_of_ble_eq_true rfl) dX5_init_40 (fun a5 => ?_)
  refine r_putF (pc := 42) (ws2 := [(mA, .inr (5, [.int (nI 0), .ref a1, .int (nI 0), .int (nI 0), .int (nI 0), .int (nI 0), .ref a2, .ref a3, .ref a4, .ref a5, .int (nI 0), .null, .null, .null])), (a1, aN (cT 0) 120 (fun _ => 0)), (a2, aI (cT 0) 104 (fun _ => nI 0)), (a3, aI (cT 0) 104 (fun _ => nI 0)), (a4, aI (cT 0) 104 (fun _ => nI 0)), (a5, aI (cT 0) 1456 (fun _ => nI 0))]) C iX5_init_X5 tyX5_ok nmX5 0 rfl rfl 9 (by decide) (mw 9 rfl) rfl rfl hnm_ rfl rfl rfl (Nat.le_of_ble_eq_true rfl) rfl dX5_init_42 ?_
  refine r_aln (pc := 45) C 0 rfl dX5_init_45 ?_
  refine r_si (pc := 46) (v := nI 208) C rfl dX5_init_46 ?_
  refine r_newN (pc := 49) (t0 := 0) (n := 208) (ty := .int) C hA rfl rfl rfl (mw 4 rfl) (by decide) (by decide) (Nat.le_of_ble_eq_true rfl) (Nat.le_of_ble_eq_true rfl) dX5_init_49 (fun a6 => ?_)
  refine r_putF (pc := 51) (ws2 := [(mA, .inr (5, [.int (nI 0), .ref a1, .int (nI 0), .int (nI 0), .int (nI 0), .int (nI 0), .ref a2, .ref a3, .ref a4, .ref a5, .int (nI 0), .ref a6, .null, .null])), (a1, aN (cT 0) 120 (fun _ => 0)), (a2, aI (cT 0) 104 (fun _ => nI 0)), (a3, aI (cT 0) 104 (fun _ => nI 0)), (a4, aI (cT 0) 104 (fun _ => nI 0)), (a5, aI (cT 0) 1456 (fun _ => nI 0)), (a6, aI (cT 0) 208 (fun _ => nI 0))]) C iX5_init_X5 tyX5_ok nmX5 0 rfl rfl 11 (by decide) (mw 10 rfl) rfl rfl hnm_ rfl rfl rfl (Nat.le_of_ble_eq_true rfl) rfl dX5_init_51 ?_
  refine r_aln (pc := 54) C 0 rfl dX5_init_54 ?_
  refine r_ic (pc := 55) (v := nI 2) C rfl dX5_init_55 ?_
  refine r_newN (pc := 56) (t0 := 1) (n := 2) (ty := .boolean) C hA rfl rfl rfl (mw 11 rfl) (by decide) (by decide) (Nat.le_of_ble_eq_true rfl) (Nat.le_of_ble_eq_true rfl) dX5_init_56 (fun a7 => ?_)
  refine r_putF (pc := 58) (ws2 := [(mA, .inr (5, [.int (nI 0), .ref a1, .int (nI 0), .int (nI 0), .int (nI 0), .int (nI 0), .ref a2, .ref a3, .ref a4, .ref a5, .int (nI 0), .ref a6, .ref a7, .null])), (a1, aN (cT 0) 120 (fun _ => 0)), (a2, aI (cT 0) 104 (fun _ => nI 0)), (a3, aI (cT 0) 104 (fun _ => nI 0)), (a4, aI (cT 0) 104 (fun _ => nI 0)), (a5, aI (cT 0) 1456 (fun _ => nI 0)), (a6, aI (cT 0) 208 (fun _ => nI 0)), (a7, aN (cT 1) 2 (fun _ => 0))]) C iX5_init_X5 tyX5_ok nmX5 0 rfl rfl 12 (by decide) (mw 12 rfl) rfl rfl hnm_ rfl rfl rfl (Nat.le_of_ble_eq_true rfl) rfl dX5_init_58 ?_
  refine r_aln (pc := 61) C 0 rfl dX5_init_61 ?_
  refine r_bi (pc := 62) (v := nI 16) C rfl dX5_init_62 ?_
  refine r_newN (pc := 64) (t0 := 0) (n := 16) (ty := .int) C hA rfl rfl rfl (mw 4 rfl) (by decide) (by decide) (Nat.le_of_ble_eq_true rfl) (Nat.le_of_ble_eq_true rfl) dX5_init_64 (fun a8 => ?_)
  refine r_putF (pc := 66) (ws2 := [(mA, cMo 0 a1 0 0 0 0 a2 a3 a4 a5 0 a6 a7 a8), (a1, aN (cT 0) 120 (fun _ => 0)), (a2, aI (cT 0) 104 (fun _ => nI 0)), (a3, aI (cT 0) 104 (fun _ => nI 0)), (a4, aI (cT 0) 104 (fun _ => nI 0)), (a5, aI (cT 0) 1456 (fun _ => nI 0)), (a6, aI (cT 0) 208 (fun _ => nI 0)), (a7, aN (cT 1) 2 (fun _ => 0)), (a8, aI (cT 0) 16 (fun _ => nI 0))]) C iX5_init_X5 tyX5_ok nmX5 0 rfl rfl 13 (by decide) (mw 13 rfl) rfl rfl hnm_ rfl rfl rfl (Nat.le_of_ble_eq_true rfl) rfl dX5_init_66 ?_
  refine r_aln (pc := 69) C 0 rfl dX5_init_69 ?_
  refine r_get (pc := 70) C iX5_init_X5 0 rfl rfl 7 (by decide) (mw 7 rfl) rfl rfl dX5_init_70 ?_
  refine r_ic (pc := 73) (v := nI 3) C rfl dX5_init_73 ?_
  refine r_ic (pc := 74) (v := nI 2) C rfl dX5_init_74 ?_
  refine r_ic (pc := 75) (v := nI 3) C rfl dX5_init_75 ?_
  refine r_ic (pc := 76) (v := nI 3) C rfl dX5_init_76 ?_
  refine c_WSv (pc := 77) (As := [.ref a3, .int (nI 3), .int (nI 2), .int (nI 3), .int (nI 3)]) (wc := [(a3, aI (cT 0) 104 (fun _ => nI 0))]) (wr := [(mA, cMo 0 a1 0 0 0 0 a2 a3 a4 a5 0 a6 a7 a8), (a1, aN (cT 0) 120 (fun _ => 0)), (a2, aI (cT 0) 104 (fun _ => nI 0)), (a4, aI (cT 0) 104 (fun _ => nI 0)), (a5, aI (cT 0) 1456 (fun _ => nI 0)), (a6, aI (cT 0) 208 (fun _ => nI 0)), (a7, aN (cT 1) 2 (fun _ => 0)), (a8, aI (cT 0) 16 (fun _ => nI 0))])  C hA (k_X5_clean l D cT a3 (fun _ => nI 0) 3 2 3 3) (va_cwS 5 C.1.2.2.2.2 gX5_init_X5_clean rfl rfl rfl n_X5_clean ⟨Nat.le_of_ble_eq_true rfl, Nat.le_of_ble_eq_true rfl⟩) [3] [0, 1, 2, 4, 5, 6, 7, 8] rfl rfl ⟨by decide, by decide⟩ (by decide) [0, 1, 2, 8, 3, 4, 5, 6, 7] (fun u10 => [(mA, cMo 0 a1 0 0 0 0 a2 a3 a4 a5 0 a6 a7 a8), (a1, aN (cT 0) 120 (fun _ => 0)), (a2, aI (cT 0) 104 (fun _ => nI 0)), (a3, aI (cT 0) 104 u10), (a4, aI (cT 0) 104 (fun _ => nI 0)), (a5, aI (cT 0) 1456 (fun _ => nI 0)), (a6, aI (cT 0) 208 (fun _ => nI 0)), (a7, aN (cT 1) 2 (fun _ => 0)), (a8, aI (cT 0) 16 (fun _ => nI 0))]) (fun _ => rfl) (by decide) rfl rfl (Nat.le_of_ble_eq_true rfl) ⟨Nat.le_of_ble_eq_true rfl, Nat.le_of_ble_eq_true rfl⟩ dX5_init_77 (fun u10 h9 => ?_)
  subst hQ
  exact e_vW C hr hk (by omega) (by omega) ⟨a1, a2, a3, a4, a5, a6, a7, a8, u10⟩ rfl h9 dX5_init_80

