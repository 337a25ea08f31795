/-! a switch by a number; reading numbers and commands -/
def tsT (lo hi : Int) (offs : Array Int) (dflt : Int) (pc v : Nat) : Int := if (v : Int) < lo ∨ hi < (v : Int) then (pc : Int) + dflt else match offs[((v : Int) - lo).toNat]? with
  | some off => (pc : Int) + off
  | none => -1
section
variable {p : Program} {l : Launch} {e : Env} {R : Room} {s : State} {m : MethodId} {args : Array Value} {below : List Frame} {meth : Method} {c : Code} {I : va_W → Heap → List Loc → Prop} {Q : State → Prop} {cells slots nL pc : Nat} {cc : ByteArray} {own : String} {Ts : List Cond} {D : va_G} {cT : Nat → ClassId} {ws : va_W} {lv : List (Nat × Value)} {st : List Value}
theorem r_tsN (C : CX p s m args c cc nL own Ts D cT I) {dflt lo hi : Int} {offs : Array Int} {len v tgt : Nat} (hv : v < 2147483648) (hd : decode cc pc = .ok (.tableswitch dflt lo hi offs, len)) (ht : tsT lo hi offs dflt pc v = (tgt : Int)) (k : RW p l e R s m args below meth c I nL cells slots Q ws tgt lv st) : RW p l e R s m args below meth c I nL cells slots Q ws pc lv (.int (nI v) :: st) := by
  have e1 := nI_toInt (n := v) hv
  unfold tsT at ht
  by_cases h : (v : Int) < lo ∨ hi < (v : Int)
  · rw [if_pos h] at ht
    exact r_tsOut C hd (by rw [e1]; exact h) ht k
  · rw [if_neg h] at ht
    cases ho : offs[((v : Int) - lo).toNat]? with
    | none =>
      rw [ho] at ht
      have ht : (-1 : Int) = (tgt : Int) := ht
      omega
    | some off =>
      rw [ho] at ht
      exact r_tsIn C hd (by rw [e1]; omega) (by rw [e1]; omega) (by rw [e1]; exact ho) ht k
end
theorem pn_f1 {len p hi : Nat} {sg : Nat → Nat} (h : PD len sg p 0 (hi / 10) = none) : PN len sg p hi = (false, 0, p) := by unfold PN; rw [h]
theorem pn_f2 {len p hi t : Nat} {sg : Nat → Nat} (h : PD len sg p 0 (hi / 10) = some t) (h2 : PD len sg (p + 1) 0 (m9 (hi - 10 * t)) = none) : PN len sg p hi = (false, 0, p + 1) := by unfold PN; rw [h]; simp only []; rw [h2]
theorem pn_ok {len p hi t d : Nat} {sg : Nat → Nat} (h : PD len sg p 0 (hi / 10) = some t) (h2 : PD len sg (p + 1) 0 (m9 (hi - 10 * t)) = some d) : PN len sg p hi = (true, 10 * t + d, p + 2) := by unfold PN; rw [h]; simp only []; rw [h2]
theorem m9_le (a : Nat) : m9 a ≤ 9 ∧ m9 a ≤ a := by unfold m9; split <;> omega
theorem pn_cases {len p hi e v : Nat} {b : Bool} {sg : Nat → Nat} (hl : len ≤ 120) (hp : p ≤ 120) (h : PN len sg p hi = (b, v, e)) : e ≤ 120 ∧ v ≤ hi := by
  cases h1 : PD len sg p 0 (hi / 10) with
  | none => rw [pn_f1 h1] at h; cases h; omega
  | some t =>
    obtain ⟨a1, -, a3, -⟩ := pd_some h1
    cases h2 : PD len sg (p + 1) 0 (m9 (hi - 10 * t)) with
    | none => rw [pn_f2 h1 h2] at h; cases h; omega
    | some d =>
      obtain ⟨b1, -, b3, -⟩ := pd_some h2
      have := (m9_le (hi - 10 * t)).2
      rw [pn_ok h1 h2] at h; cases h; omega
theorem sw5 (v : Nat) : v = 99 ∨ v = 106 ∨ v = 104 ∨ v = 98 ∨ v = 112 ∨ (v ≠ 99 ∧ v ≠ 106 ∧ v ≠ 104 ∧ v ≠ 98 ∧ v ≠ 112) := by omega
section
variable {len a b c d : Nat} {sg : Nat → Nat} (h0 : 0 < len ∧ sg 0 = 67)
theorem pb4_1 (h0 : 0 < len ∧ sg 0 = 67) (h1 : PD len sg 1 1 4 = none) : PB4 len sg = (false, 1, 0, 0, 0, 0) := by unfold PB4; rw [if_pos h0, h1]
theorem pb4_2 (h0 : 0 < len ∧ sg 0 = 67) (h1 : PD len sg 1 1 4 = some a) (h2 : PD len sg 2 1 4 = none) : PB4 len sg = (false, 2, 0, 0, 0, 0) := by unfold PB4; rw [if_pos h0, h1]; simp only []; rw [h2]
theorem pb4_3 (h0 : 0 < len ∧ sg 0 = 67) (h1 : PD len sg 1 1 4 = some a) (h2 : PD len sg 2 1 4 = some b) (h3 : PD len sg 3 1 4 = none) : PB4 len sg = (false, 3, 0, 0, 0, 0) := by unfold PB4; rw [if_pos h0, h1]; simp only []; rw [h2]; simp only []; rw [h3]
theorem pb4_4 (h0 : 0 < len ∧ sg 0 = 67) (h1 : PD len sg 1 1 4 = some a) (h2 : PD len sg 2 1 4 = some b) (h3 : PD len sg 3 1 4 = some c) (h4 : PD len sg 4 1 4 = none) : PB4 len sg = (false, 4, 0, 0, 0, 0) := by unfold PB4; rw [if_pos h0, h1]; simp only []; rw [h2]; simp only []; rw [h3]; simp only []; rw [h4]
theorem pb4_5 (h0 : 0 < len ∧ sg 0 = 67) (h1 : PD len sg 1 1 4 = some a) (h2 : PD len sg 2 1 4 = some b) (h3 : PD len sg 3 1 4 = some c) (h4 : PD len sg 4 1 4 = some d) : PB4 len sg = (true, 5, a, b, c, d) := by unfold PB4; rw [if_pos h0, h1]; simp only []; rw [h2]; simp only []; rw [h3]; simp only []; rw [h4]
end

abbrev rmX2_readNumber : Room := { frames := 2, cells := 0, slots := 0, locals := 43 }
theorem n_X2_readNumber : yX2_readNumber.cls = RX2 ∧ yX2_readNumber.cls ≠ "java/lang/invoke/MethodHandle" ∧ yX2_readNumber.cls ≠ "java/lang/invoke/VarHandle" ∧ (parseMethodDescriptor yX2_readNumber.desc).map (fun d => d.parameters.length) = some 1 := by decide +kernel
set_option maxHeartbeats 4000000 in
set_option maxRecDepth 100000 in
theorem k_X2_readNumber (l : Launch) (D : va_G) (cT : Nat → ClassId) (ra rs rl rp : Nat) (rf rw0 rm0 rla rle rn ro : Int32) (sg : Nat → Nat) (hi : Nat) (hl : rl ≤ 120) (hp : rp ≤ 120) (hsg : ∀ k, k < 120 → sg k < 256) (hhi : hi < 100) : MWi (S := Nat) l D cT yX2_readNumber wsX2_readNumber rmX2_readNumber [.ref ra, .int (nI hi)] [(ra, cRd rs rl rp rf rw0 rm0 rla rle rn ro), (rs, aN (cT 2) 120 sg)] (fun r u => (∃ e, PN rl sg rp hi = (false, 0, e) ∧ r = -1 ∧ u = e) ∨ ∃ v e, PN rl sg rp hi = (true, v, e) ∧ r = nI v ∧ u = e) (fun u => [(ra, cRd rs rl u rf rw0 rm0 rla rle rn ro), (rs, aN (cT 2) 120 sg)]) 0 0 := by
  refine m_Wi [(0, .ref ra), (1, .int (nI hi))] (by decide +kernel) rfl (Nat.le_of_ble_eq_true rfl) rfl ?_
  intro p e s m args below meth c A hAe C hA hr hk hnm_
  generalize hQ : MQ below (va_Qi _ _ A) args s 0 0 A = Q
  refine r_aln (pc := 0) C 0 rfl dX2_readNumber_0 ?_
  refine r_ic (pc := 1) (v := nI 0) C rfl dX2_readNumber_1 ?_
  refine r_iln (pc := 2) C 1 rfl dX2_readNumber_2 ?_
  refine r_bi (pc := 3) (v := nI 10) C rfl dX2_readNumber_3 ?_
  refine r_idivN (pc := 5) C (by first | omega | (have := (pd_some h1).2.2.1; omega)) (by omega) (by omega) dX2_readNumber_5 ?_
  refine c_WVi (pc := 6) (As := [.int (nI 0), .int (nI (hi / 10))]) (wc := [(ra, cRd rs rl rp rf rw0 rm0 rla rle rn ro), (rs, aN (cT 2) 120 sg)]) (wr := []) (qr := 0) C hA (k_X2_readDigit l D cT ra rs rl rp rf rw0 rm0 rla rle rn ro sg 0 (hi / 10) hl (by omega) hsg (by omega) (by omega)) (cwV 2 C.1.2.2.2.2 gX2_readNumber_X2_readDigit rfl rfl rfl n_X2_readDigit ⟨Nat.le_of_ble_eq_true rfl, Nat.le_of_ble_eq_true rfl⟩) rfl rfl [0, 1] [] rfl rfl ⟨by decide, by decide⟩ (by decide) [0, 1] (fun u2 => [(ra, cRd rs rl u2 rf rw0 rm0 rla rle rn ro), (rs, aN (cT 2) 120 sg)]) (fun _ => rfl) (by decide) rfl rfl (Nat.le_of_ble_eq_true rfl) ⟨Nat.zero_le _, Nat.zero_le _⟩ dX2_readNumber_6 (fun r6 u2 h1 => ?_)
  rcases h1 with ⟨h1, rfl, h1u⟩ | ⟨h1d, h1, rfl, h1d2, h1u⟩
  · have h1u := h1u.symm
    subst h1u
    refine r_isn (pc := 9) C [1, 2, 0] [(0, .ref ra), (1, .int (nI hi)), (2, .int (-1))] rfl (by decide) rfl dX2_readNumber_9 ?_
    refine r_iln (pc := 10) C 2 rfl dX2_readNumber_10 ?_
    refine r_ic (pc := 11) (v := (-1)) C rfl dX2_readNumber_11 ?_
    refine r_cne (pc := 12) (tgt := 17) C dX2_readNumber_12 (by decide) (fun c12 => absurd c12 (by exact fun h => h rfl)) (fun c12 => ?_)
    refine r_ic (pc := 15) (v := (-1)) C rfl dX2_readNumber_15 ?_
    subst hQ
    exact e_iW C hr hk (Nat.le_refl _) (Nat.le_refl _) rp rfl (Or.inl ⟨_, pn_f1 h1, rfl, rfl⟩) dX2_readNumber_16
  · have h1u := h1u.symm
    subst h1u
    refine r_isn (pc := 9) C [1, 2, 0] [(0, .ref ra), (1, .int (nI hi)), (2, .int (nI h1d))] rfl (by decide) rfl dX2_readNumber_9 ?_
    refine r_iln (pc := 10) C 2 rfl dX2_readNumber_10 ?_
    refine r_ic (pc := 11) (v := (-1)) C rfl dX2_readNumber_11 ?_
    refine r_cne (pc := 12) (tgt := 17) C dX2_readNumber_12 (by decide) (fun c12 => ?_) (fun c12 => absurd c12 (by exact nI_m1 (by omega)))
    refine r_aln (pc := 17) C 0 rfl dX2_readNumber_17 ?_
    refine r_ic (pc := 18) (v := nI 0) C rfl dX2_readNumber_18 ?_
    refine r_bi (pc := 19) (v := nI 9) C rfl dX2_readNumber_19 ?_
    refine r_iln (pc := 21) C 1 rfl dX2_readNumber_21 ?_
    refine r_bi (pc := 22) (v := nI 10) C rfl dX2_readNumber_22 ?_
    refine r_iln (pc := 24) C 2 rfl dX2_readNumber_24 ?_
    refine r_imulN (pc := 25) C dX2_readNumber_25 ?_
    refine r_isubN (pc := 26) C (by first | omega | (have := (pd_some h1).2.2.1; omega)) dX2_readNumber_26 ?_
    refine r_mmin (pc := 27) (v := nI (m9 (hi - 10 * h1d))) C (mw 1 rfl) (mw 2 rfl) (mw 3 rfl) (mw 4 rfl) (Nat.le_of_ble_eq_true rfl) (Nat.le_of_ble_eq_true rfl) ⟨Nat.zero_le _, Nat.zero_le _⟩ (min_v (by omega)) dX2_readNumber_27 ?_
    refine c_WVi (pc := 30) (As := [.int (nI 0), .int (nI (m9 (hi - 10 * h1d)))]) (wc := [(ra, cRd rs rl (rp + 1) rf rw0 rm0 rla rle rn ro), (rs, aN (cT 2) 120 sg)]) (wr := []) (qr := 0) C hA (k_X2_readDigit l D cT ra rs rl (rp + 1) rf rw0 rm0 rla rle rn ro sg 0 (m9 (hi - 10 * h1d)) hl (by have := (pd_some h1).1; omega) hsg (by omega) (by have := (m9_le (hi - 10 * h1d)).1; omega)) (cwV 2 C.1.2.2.2.2 gX2_readNumber_X2_readDigit rfl rfl rfl n_X2_readDigit ⟨Nat.le_of_ble_eq_true rfl, Nat.le_of_ble_eq_true rfl⟩) rfl rfl [0, 1] [] rfl rfl ⟨by decide, by decide⟩ (by decide) [0, 1] (fun u4 => [(ra, cRd rs rl u4 rf rw0 rm0 rla rle rn ro), (rs, aN (cT 2) 120 sg)]) (fun _ => rfl) (by decide) rfl rfl (Nat.le_of_ble_eq_true rfl) ⟨Nat.zero_le _, Nat.zero_le _⟩ dX2_readNumber_30 (fun r30 u4 h3 => ?_)
    rcases h3 with ⟨h3, rfl, h3u⟩ | ⟨h3d, h3, rfl, h3d2, h3u⟩
    · have h3u := h3u.symm
      subst h3u
      refine r_isn (pc := 33) C [1, 2, 3, 0] [(0, .ref ra), (1, .int (nI hi)), (2, .int (nI h1d)), (3, .int (-1))] rfl (by decide) rfl dX2_readNumber_33 ?_
      refine r_iln (pc := 34) C 3 rfl dX2_readNumber_34 ?_
      refine r_ic (pc := 35) (v := (-1)) C rfl dX2_readNumber_35 ?_
      refine r_cne (pc := 36) (tgt := 43) C dX2_readNumber_36 (by decide) (fun c36 => absurd c36 (by exact fun h => h rfl)) (fun c36 => ?_)
      refine r_ic (pc := 39) (v := (-1)) C rfl dX2_readNumber_39 ?_
      refine r_goto (pc := 40) (tgt := 49) C dX2_readNumber_40 (by decide) ?_
      subst hQ
      exact e_iW C hr hk (Nat.le_refl _) (Nat.le_refl _) (rp + 1) rfl (Or.inl ⟨_, pn_f2 h1 h3, rfl, rfl⟩) dX2_readNumber_49
    · have h3u := h3u.symm
      subst h3u
      refine r_isn (pc := 33) C [1, 2, 3, 0] [(0, .ref ra), (1, .int (nI hi)), (2, .int (nI h1d)), (3, .int (nI h3d))] rfl (by decide) rfl dX2_readNumber_33 ?_
      refine r_iln (pc := 34) C 3 rfl dX2_readNumber_34 ?_
      refine r_ic (pc := 35) (v := (-1)) C rfl dX2_readNumber_35 ?_
      refine r_cne (pc := 36) (tgt := 43) C dX2_readNumber_36 (by decide) (fun c36 => ?_) (fun c36 => absurd c36 (by exact nI_m1 (by omega)))
      refine r_bi (pc := 43) (v := nI 10) C rfl dX2_readNumber_43 ?_
      refine r_iln (pc := 45) C 2 rfl dX2_readNumber_45 ?_
      refine r_imulN (pc := 46) C dX2_readNumber_46 ?_
      refine r_iln (pc := 47) C 3 rfl dX2_readNumber_47 ?_
      refine r_iaddN (pc := 48) C dX2_readNumber_48 ?_
      subst hQ
      exact e_iW C hr hk (Nat.le_refl _) (Nat.le_refl _) ((rp + 1) + 1) rfl (Or.inr ⟨_, _, pn_ok h1 h3, rfl, rfl⟩) dX2_readNumber_49

theorem iX2_readOutput_X2 : ∀ w ∈ u_ws RX2 TX2 10, w ∈ wsX2_readOutput := by decide +kernel
abbrev rmX2_readOutput : Room := { frames := 3, cells := 0, slots := 0, locals := 66 }
theorem n_X2_readOutput : yX2_readOutput.cls = RX2 ∧ yX2_readOutput.cls ≠ "java/lang/invoke/MethodHandle" ∧ yX2_readOutput.cls ≠ "java/lang/invoke/VarHandle" ∧ (parseMethodDescriptor yX2_readOutput.desc).map (fun d => d.parameters.length) = some 0 := by decide +kernel
set_option maxHeartbeats 4000000 in
set_option maxRecDepth 100000 in
theorem k_X2_readOutput (l : Launch) (D : va_G) (cT : Nat → ClassId) (ra rs rl rp : Nat) (rf rm0 rle rn ro : Int32) (sg : Nat → Nat) (wid las : Nat) (hl : rl ≤ 120) (hp : rp ≤ 120) (hsg : ∀ k, k < 120 → sg k < 256) (hLW : las * wid ≤ 16) (hL1 : 1 ≤ las * wid) : MWi (S := Nat × Int32) l D cT yX2_readOutput wsX2_readOutput rmX2_readOutput [.ref ra] [(ra, cRd rs rl rp rf (nI wid) rm0 (nI las) rle rn ro), (rs, aN (cT 2) 120 sg)] (fun r u => (∃ e, PN rl sg rp (las * wid - 1) = (false, 0, e) ∧ r = nI 0 ∧ u.1 = e) ∨ ∃ v e, PN rl sg rp (las * wid - 1) = (true, v, e) ∧ r = nI 1 ∧ u.1 = e ∧ u.2 = nI v) (fun u => [(ra, cRd rs rl u.1 rf (nI wid) rm0 (nI las) rle rn u.2), (rs, aN (cT 2) 120 sg)]) 0 0 := by
  refine m_Wi [(0, .ref ra)] (by decide +kernel) rfl (Nat.le_of_ble_eq_true rfl) rfl ?_
  intro p e s m args below meth c A hAe C hA hr hk hnm_
  generalize hQ : MQ below (va_Qi _ _ A) args s 0 0 A = Q
  refine r_aln (pc := 0) C 0 rfl dX2_readOutput_0 ?_
  refine r_aln (pc := 1) C 0 rfl dX2_readOutput_1 ?_
  refine r_aln (pc := 2) C 0 rfl dX2_readOutput_2 ?_
  refine r_get (pc := 3) C iX2_readOutput_X2 0 rfl rfl 6 (by decide) (mw 1 rfl) rfl rfl dX2_readOutput_3 ?_
  refine r_aln (pc := 6) C 0 rfl dX2_readOutput_6 ?_
  refine r_get (pc := 7) C iX2_readOutput_X2 0 rfl rfl 4 (by decide) (mw 2 rfl) rfl rfl dX2_readOutput_7 ?_
  refine r_imulN (pc := 10) C dX2_readOutput_10 ?_
  refine r_ic (pc := 11) (v := nI 1) C rfl dX2_readOutput_11 ?_
  refine r_isubN (pc := 12) C (by omega) dX2_readOutput_12 ?_
  refine c_WVi (pc := 13) (As := [.int (nI ((las * wid) - 1))]) (wc := [(ra, cRd rs rl rp rf (nI wid) rm0 (nI las) rle rn ro), (rs, aN (cT 2) 120 sg)]) (wr := []) (qr := 0) C hA (k_X2_readNumber l D cT ra rs rl rp rf (nI wid) rm0 (nI las) rle rn ro sg ((las * wid) - 1) hl hp hsg (by omega)) (cwV 1 C.1.2.2.2.2 gX2_readOutput_X2_readNumber rfl rfl rfl n_X2_readNumber ⟨Nat.le_of_ble_eq_true rfl, Nat.le_of_ble_eq_true rfl⟩) rfl rfl [0, 1] [] rfl rfl ⟨by decide, by decide⟩ (by decide) [0, 1] (fun u2 => [(ra, cRd rs rl u2 rf (nI wid) rm0 (nI las) rle rn ro), (rs, aN (cT 2) 120 sg)]) (fun _ => rfl) (by decide) rfl rfl (Nat.le_of_ble_eq_true rfl) ⟨Nat.zero_le _, Nat.zero_le _⟩ dX2_readOutput_13 (fun r13 u2 h1 => ?_)
  rcases h1 with ⟨h1e, h1, rfl, h1u⟩ | ⟨h1v, h1e, h1, rfl, h1u⟩
  · have h1u := h1u.symm
    subst h1u
    have h1b := pn_cases hl (by omega) h1
    refine r_put (pc := 16) (ws2 := [(ra, cRd rs rl h1e rf (nI wid) rm0 (nI las) rle rn (-1)), (rs, aN (cT 2) 120 sg)]) C iX2_readOutput_X2 tyX2_ok nmX2 0 rfl rfl 9 (by decide) (mw 3 rfl) rfl rfl rfl rfl (Nat.le_of_ble_eq_true rfl) rfl dX2_readOutput_16 ?_
    refine r_aln (pc := 19) C 0 rfl dX2_readOutput_19 ?_
    refine r_get (pc := 20) C iX2_readOutput_X2 0 rfl rfl 9 (by decide) (mw 3 rfl) rfl rfl dX2_readOutput_20 ?_
    refine r_ic (pc := 23) (v := (-1)) C rfl dX2_readOutput_23 ?_
    refine r_ceq (pc := 24) (tgt := 31) C dX2_readOutput_24 (by decide) (fun c24 => ?_) (fun c24 => absurd c24 (by exact fun h => h rfl))
    refine r_ic (pc := 31) (v := nI 0) C rfl dX2_readOutput_31 ?_
    subst hQ
    exact e_zW C hr hk rfl (Nat.le_refl _) (Nat.le_refl _) ⟨h1e, (-1)⟩ rfl (Or.inl ⟨_, h1, rfl, rfl⟩) dX2_readOutput_32
  · have h1u := h1u.symm
    subst h1u
    have h1b := pn_cases hl (by omega) h1
    refine r_put (pc := 16) (ws2 := [(ra, cRd rs rl h1e rf (nI wid) rm0 (nI las) rle rn (nI h1v)), (rs, aN (cT 2) 120 sg)]) C iX2_readOutput_X2 tyX2_ok nmX2 0 rfl rfl 9 (by decide) (mw 3 rfl) rfl rfl rfl rfl (Nat.le_of_ble_eq_true rfl) rfl dX2_readOutput_16 ?_
    refine r_aln (pc := 19) C 0 rfl dX2_readOutput_19 ?_
    refine r_get (pc := 20) C iX2_readOutput_X2 0 rfl rfl 9 (by decide) (mw 3 rfl) rfl rfl dX2_readOutput_20 ?_
    refine r_ic (pc := 23) (v := (-1)) C rfl dX2_readOutput_23 ?_
    refine r_ceq (pc := 24) (tgt := 31) C dX2_readOutput_24 (by decide) (fun c24 => absurd c24 (by exact nI_m1 (by omega))) (fun c24 => ?_)
    refine r_ic (pc := 27) (v := nI 1) C rfl dX2_readOutput_27 ?_
    refine r_goto (pc := 28) (tgt := 32) C dX2_readOutput_28 (by decide) ?_
    subst hQ
    exact e_zW C hr hk rfl (Nat.le_refl _) (Nat.le_refl _) ⟨h1e, nI h1v⟩ rfl (Or.inr ⟨_, _, h1, rfl, rfl, rfl⟩) dX2_readOutput_32

theorem iX2_readBoards_X2 : ∀ w ∈ u_ws RX2 TX2 10, w ∈ wsX2_readBoards := by decide +kernel
abbrev rmX2_readBoards : Room := { frames := 2, cells := 0, slots := 0, locals := 43 }
theorem n_X2_readBoards : yX2_readBoards.cls = RX2 ∧ yX2_readBoards.cls ≠ "java/lang/invoke/MethodHandle" ∧ yX2_readBoards.cls ≠ "java/lang/invoke/VarHandle" ∧ (parseMethodDescriptor yX2_readBoards.desc).map (fun d => d.parameters.length) = some 0 := by decide +kernel
set_option maxHeartbeats 4000000 in
set_option maxRecDepth 100000 in
theorem k_X2_readBoards (l : Launch) (D : va_G) (cT : Nat → ClassId) (ra rs rl rp : Nat) (rf rw0 rm0 rla rle rn ro : Int32) (sg : Nat → Nat) (hl : rl ≤ 120) (hsg : ∀ k, k < 120 → sg k < 256) : MWi (S := Nat × Int32 × Int32 × Int32 × Int32) l D cT yX2_readBoards wsX2_readBoards rmX2_readBoards [.ref ra] [(ra, cRd rs rl rp rf rw0 rm0 rla rle rn ro), (rs, aN (cT 2) 120 sg)] (fun r u => (∃ e, PB4 rl sg = (false, e, 0, 0, 0, 0) ∧ r = nI 0 ∧ u.1 = e) ∨ ∃ a b c d, PB4 rl sg = (true, 5, a, b, c, d) ∧ r = nI 1 ∧ u.1 = 5 ∧ u.2.1 = nI a ∧ u.2.2.1 = nI b ∧ u.2.2.2.1 = nI c ∧ u.2.2.2.2 = nI d) (fun u => [(ra, cRd rs rl u.1 u.2.1 u.2.2.1 u.2.2.2.1 u.2.2.2.2 rle rn ro), (rs, aN (cT 2) 120 sg)]) 0 0 := by
  refine m_Wi [(0, .ref ra)] (by decide +kernel) rfl (Nat.le_of_ble_eq_true rfl) rfl ?_
  intro p e s m args below meth c A hAe C hA hr hk hnm_
  generalize hQ : MQ below (va_Qi _ _ A) args s 0 0 A = Q
  refine r_aln (pc := 0) C 0 rfl dX2_readBoards_0 ?_
  refine r_ic (pc := 1) (v := nI 0) C rfl dX2_readBoards_1 ?_
  refine r_put (pc := 2) (ws2 := [(ra, cRd rs rl 0 rf rw0 rm0 rla rle rn ro), (rs, aN (cT 2) 120 sg)]) C iX2_readBoards_X2 tyX2_ok nmX2 0 rfl rfl 2 (by decide) (mw 1 rfl) rfl rfl rfl rfl (Nat.le_of_ble_eq_true rfl) rfl dX2_readBoards_2 ?_
  refine r_aln (pc := 5) C 0 rfl dX2_readBoards_5 ?_
  refine c_RV (pc := 6) (As := []) (wc := [(ra, cRd rs rl 0 rf rw0 rm0 rla rle rn ro), (rs, aN (cT 2) 120 sg)]) (qr := 0) C (k_X2_sign l D cT ra rs rl 0 rf rw0 rm0 rla rle rn ro sg hl (by omega)) (cwV 0 C.1.2.2.2.2 gX2_readBoards_X2_sign rfl rfl rfl n_X2_sign ⟨Nat.le_of_ble_eq_true rfl, Nat.le_of_ble_eq_true rfl⟩) [0, 1] rfl rfl rfl rfl rfl (Nat.le_of_ble_eq_true rfl) ⟨Nat.zero_le _, Nat.zero_le _⟩ dX2_readBoards_6 (fun r6 h1 => ?_)
  rcases h1 with ⟨h1, rfl⟩ | ⟨h1, rfl⟩
  · refine r_bi (pc := 9) (v := nI 67) C rfl dX2_readBoards_9 ?_
    refine r_ceqN (pc := 11) (tgt := 16) C (by have := hsg 0 (by omega); omega) (by decide) dX2_readBoards_11 (by decide) (fun c11 => ?_) (fun c11 => ?_)
    · refine r_aln (pc := 16) C 0 rfl dX2_readBoards_16 ?_
      refine r_dup (pc := 17) C rfl dX2_readBoards_17 ?_
      refine r_get (pc := 18) C iX2_readBoards_X2 0 rfl rfl 2 (by decide) (mw 1 rfl) rfl rfl dX2_readBoards_18 ?_
      refine r_ic (pc := 21) (v := nI 1) C rfl dX2_readBoards_21 ?_
      refine r_iaddN (pc := 22) C dX2_readBoards_22 ?_
      refine r_put (pc := 23) (ws2 := [(ra, cRd rs rl (0 + 1) rf rw0 rm0 rla rle rn ro), (rs, aN (cT 2) 120 sg)]) C iX2_readBoards_X2 tyX2_ok nmX2 0 rfl rfl 2 (by decide) (mw 1 rfl) rfl rfl rfl rfl (Nat.le_of_ble_eq_true rfl) rfl dX2_readBoards_23 ?_
      refine r_aln (pc := 26) C 0 rfl dX2_readBoards_26 ?_
      refine r_aln (pc := 27) C 0 rfl dX2_readBoards_27 ?_
      refine r_ic (pc := 28) (v := nI 1) C rfl dX2_readBoards_28 ?_
      refine r_ic (pc := 29) (v := nI 4) C rfl dX2_readBoards_29 ?_
      refine c_WVi (pc := 30) (As := [.int (nI 1), .int (nI 4)]) (wc := [(ra, cRd rs rl (0 + 1) rf rw0 rm0 rla rle rn ro), (rs, aN (cT 2) 120 sg)]) (wr := []) (qr := 0) C hA (k_X2_readDigit l D cT ra rs rl (0 + 1) rf rw0 rm0 rla rle rn ro sg 1 4 hl (by omega) hsg (by omega) (by omega)) (cwV 2 C.1.2.2.2.2 gX2_readBoards_X2_readDigit rfl rfl rfl n_X2_readDigit ⟨Nat.le_of_ble_eq_true rfl, Nat.le_of_ble_eq_true rfl⟩) rfl rfl [0, 1] [] rfl rfl ⟨by decide, by decide⟩ (by decide) [0, 1] (fun u3 => [(ra, cRd rs rl u3 rf rw0 rm0 rla rle rn ro), (rs, aN (cT 2) 120 sg)]) (fun _ => rfl) (by decide) rfl rfl (Nat.le_of_ble_eq_true rfl) ⟨Nat.zero_le _, Nat.zero_le _⟩ dX2_readBoards_30 (fun r30 u3 h2 => ?_)
      rcases h2 with ⟨h2, rfl, h2u⟩ | ⟨h2d, h2, rfl, h2d2, h2u⟩
      · have h2u := h2u.symm
        subst h2u
        refine r_put (pc := 33) (ws2 := [(ra, cRd rs rl (0 + 1) (-1) rw0 rm0 rla rle rn ro), (rs, aN (cT 2) 120 sg)]) C iX2_readBoards_X2 tyX2_ok nmX2 0 rfl rfl 3 (by decide) (mw 2 rfl) rfl rfl rfl rfl (Nat.le_of_ble_eq_true rfl) rfl dX2_readBoards_33 ?_
        refine r_aln (pc := 36) C 0 rfl dX2_readBoards_36 ?_
        refine r_aln (pc := 37) C 0 rfl dX2_readBoards_37 ?_
        refine r_get (pc := 38) C iX2_readBoards_X2 0 rfl rfl 3 (by decide) (mw 2 rfl) rfl rfl dX2_readBoards_38 ?_
        refine r_ic (pc := 41) (v := (-1)) C rfl dX2_readBoards_41 ?_
        refine r_cne (pc := 42) (tgt := 49) C dX2_readBoards_42 (by decide) (fun c42 => absurd c42 (by exact fun h => h rfl)) (fun c42 => ?_)
        refine r_ic (pc := 45) (v := (-1)) C rfl dX2_readBoards_45 ?_
        refine r_goto (pc := 46) (tgt := 55) C dX2_readBoards_46 (by decide) ?_
        refine r_put (pc := 55) (ws2 := [(ra, cRd rs rl (0 + 1) (-1) (-1) rm0 rla rle rn ro), (rs, aN (cT 2) 120 sg)]) C iX2_readBoards_X2 tyX2_ok nmX2 0 rfl rfl 4 (by decide) (mw 3 rfl) rfl rfl rfl rfl (Nat.le_of_ble_eq_true rfl) rfl dX2_readBoards_55 ?_
        refine r_aln (pc := 58) C 0 rfl dX2_readBoards_58 ?_
        refine r_aln (pc := 59) C 0 rfl dX2_readBoards_59 ?_
        refine r_get (pc := 60) C iX2_readBoards_X2 0 rfl rfl 4 (by decide) (mw 3 rfl) rfl rfl dX2_readBoards_60 ?_
        refine r_ic (pc := 63) (v := (-1)) C rfl dX2_readBoards_63 ?_
        refine r_cne (pc := 64) (tgt := 71) C dX2_readBoards_64 (by decide) (fun c64 => absurd c64 (by exact fun h => h rfl)) (fun c64 => ?_)
        refine r_ic (pc := 67) (v := (-1)) C rfl dX2_readBoards_67 ?_
        refine r_goto (pc := 68) (tgt := 77) C dX2_readBoards_68 (by decide) ?_
        refine r_put (pc := 77) (ws2 := [(ra, cRd rs rl (0 + 1) (-1) (-1) (-1) rla rle rn ro), (rs, aN (cT 2) 120 sg)]) C iX2_readBoards_X2 tyX2_ok nmX2 0 rfl rfl 5 (by decide) (mw 4 rfl) rfl rfl rfl rfl (Nat.le_of_ble_eq_true rfl) rfl dX2_readBoards_77 ?_
        refine r_aln (pc := 80) C 0 rfl dX2_readBoards_80 ?_
        refine r_aln (pc := 81) C 0 rfl dX2_readBoards_81 ?_
        refine r_get (pc := 82) C iX2_readBoards_X2 0 rfl rfl 5 (by decide) (mw 4 rfl) rfl rfl dX2_readBoards_82 ?_
        refine r_ic (pc := 85) (v := (-1)) C rfl dX2_readBoards_85 ?_
        refine r_cne (pc := 86) (tgt := 93) C dX2_readBoards_86 (by decide) (fun c86 => absurd c86 (by exact fun h => h rfl)) (fun c86 => ?_)
        refine r_ic (pc := 89) (v := (-1)) C rfl dX2_readBoards_89 ?_
        refine r_goto (pc := 90) (tgt := 99) C dX2_readBoards_90 (by decide) ?_
        refine r_put (pc := 99) (ws2 := [(ra, cRd rs rl (0 + 1) (-1) (-1) (-1) (-1) rle rn ro), (rs, aN (cT 2) 120 sg)]) C iX2_readBoards_X2 tyX2_ok nmX2 0 rfl rfl 6 (by decide) (mw 5 rfl) rfl rfl rfl rfl (Nat.le_of_ble_eq_true rfl) rfl dX2_readBoards_99 ?_
        refine r_aln (pc := 102) C 0 rfl dX2_readBoards_102 ?_
        refine r_get (pc := 103) C iX2_readBoards_X2 0 rfl rfl 6 (by decide) (mw 5 rfl) rfl rfl dX2_readBoards_103 ?_
        refine r_ic (pc := 106) (v := (-1)) C rfl dX2_readBoards_106 ?_
        refine r_ceq (pc := 107) (tgt := 114) C dX2_readBoards_107 (by decide) (fun c107 => ?_) (fun c107 => absurd c107 (by exact fun h => h rfl))
        refine r_ic (pc := 114) (v := nI 0) C rfl dX2_readBoards_114 ?_
        subst hQ
        exact e_zW C hr hk rfl (Nat.le_refl _) (Nat.le_refl _) ⟨0 + 1, (-1), (-1), (-1), (-1)⟩ rfl (Or.inl ⟨1, pb4_1 ⟨h1, c11⟩ h2, rfl, rfl⟩) dX2_readBoards_115
      · have h2u := h2u.symm
        subst h2u
        refine r_put (pc := 33) (ws2 := [(ra, cRd rs rl ((0 + 1) + 1) (nI h2d) rw0 rm0 rla rle rn ro), (rs, aN (cT 2) 120 sg)]) C iX2_readBoards_X2 tyX2_ok nmX2 0 rfl rfl 3 (by decide) (mw 2 rfl) rfl rfl rfl rfl (Nat.le_of_ble_eq_true rfl) rfl dX2_readBoards_33 ?_
        refine r_aln (pc := 36) C 0 rfl dX2_readBoards_36 ?_
        refine r_aln (pc := 37) C 0 rfl dX2_readBoards_37 ?_
        refine r_get (pc := 38) C iX2_readBoards_X2 0 rfl rfl 3 (by decide) (mw 2 rfl) rfl rfl dX2_readBoards_38 ?_
        refine r_ic (pc := 41) (v := (-1)) C rfl dX2_readBoards_41 ?_
        refine r_cne (pc := 42) (tgt := 49) C dX2_readBoards_42 (by decide) (fun c42 => ?_) (fun c42 => absurd c42 (by exact nI_m1 (by omega)))
        refine r_aln (pc := 49) C 0 rfl dX2_readBoards_49 ?_
        refine r_ic (pc := 50) (v := nI 1) C rfl dX2_readBoards_50 ?_
        refine r_ic (pc := 51) (v := nI 4) C rfl dX2_readBoards_51 ?_
        refine c_WVi (pc := 52) (As := [.int (nI 1), .int (nI 4)]) (wc := [(ra, cRd rs rl ((0 + 1) + 1) (nI h2d) rw0 rm0 rla rle rn ro), (rs, aN (cT 2) 120 sg)]) (wr := []) (qr := 0) C hA (k_X2_readDigit l D cT ra rs rl ((0 + 1) + 1) (nI h2d) rw0 rm0 rla rle rn ro sg 1 4 hl (by omega) hsg (by omega) (by omega)) (cwV 2 C.1.2.2.2.2 gX2_readBoards_X2_readDigit rfl rfl rfl n_X2_readDigit ⟨Nat.le_of_ble_eq_true rfl, Nat.le_of_ble_eq_true rfl⟩) rfl rfl [0, 1] [] rfl rfl ⟨by decide, by decide⟩ (by decide) [0, 1] (fun u5 => [(ra, cRd rs rl u5 (nI h2d) rw0 rm0 rla rle rn ro), (rs, aN (cT 2) 120 sg)]) (fun _ => rfl) (by decide) rfl rfl (Nat.le_of_ble_eq_true rfl) ⟨Nat.zero_le _, Nat.zero_le _⟩ dX2_readBoards_52 (fun r52 u5 h4 => ?_)
        rcases h4 with ⟨h4, rfl, h4u⟩ | ⟨h4d, h4, rfl, h4d2, h4u⟩
        · have h4u := h4u.symm
          subst h4u
          refine r_put (pc := 55) (ws2 := [(ra, cRd rs rl ((0 + 1) + 1) (nI h2d) (-1) rm0 rla rle rn ro), (rs, aN (cT 2) 120 sg)]) C iX2_readBoards_X2 tyX2_ok nmX2 0 rfl rfl 4 (by decide) (mw 3 rfl) rfl rfl rfl rfl (Nat.le_of_ble_eq_true rfl) rfl dX2_readBoards_55 ?_
          refine r_aln (pc := 58) C 0 rfl dX2_readBoards_58 ?_
          refine r_aln (pc := 59) C 0 rfl dX2_readBoards_59 ?_
          refine r_get (pc := 60) C iX2_readBoards_X2 0 rfl rfl 4 (by decide) (mw 3 rfl) rfl rfl dX2_readBoards_60 ?_
          refine r_ic (pc := 63) (v := (-1)) C rfl dX2_readBoards_63 ?_
          refine r_cne (pc := 64) (tgt := 71) C dX2_readBoards_64 (by decide) (fun c64 => absurd c64 (by exact fun h => h rfl)) (fun c64 => ?_)
          refine r_ic (pc := 67) (v := (-1)) C rfl dX2_readBoards_67 ?_
          refine r_goto (pc := 68) (tgt := 77) C dX2_readBoards_68 (by decide) ?_
          refine r_put (pc := 77) (ws2 := [(ra, cRd rs rl ((0 + 1) + 1) (nI h2d) (-1) (-1) rla rle rn ro), (rs, aN (cT 2) 120 sg)]) C iX2_readBoards_X2 tyX2_ok nmX2 0 rfl rfl 5 (by decide) (mw 4 rfl) rfl rfl rfl rfl (Nat.le_of_ble_eq_true rfl) rfl dX2_readBoards_77 ?_
          refine r_aln (pc := 80) C 0 rfl dX2_readBoards_80 ?_
          refine r_aln (pc := 81) C 0 rfl dX2_readBoards_81 ?_
          refine r_get (pc := 82) C iX2_readBoards_X2 0 rfl rfl 5 (by decide) (mw 4 rfl) rfl rfl dX2_readBoards_82 ?_
          refine r_ic (pc := 85) (v := (-1)) C rfl dX2_readBoards_85 ?_
          refine r_cne (pc := 86) (tgt := 93) C dX2_readBoards_86 (by decide) (fun c86 => absurd c86 (by exact fun h => h rfl)) (fun c86 => ?_)
          refine r_ic (pc := 89) (v := (-1)) C rfl dX2_readBoards_89 ?_
          refine r_goto (pc := 90) (tgt := 99) C dX2_readBoards_90 (by decide) ?_
          refine r_put (pc := 99) (ws2 := [(ra, cRd rs rl ((0 + 1) + 1) (nI h2d) (-1) (-1) (-1) rle rn ro), (rs, aN (cT 2) 120 sg)]) C iX2_readBoards_X2 tyX2_ok nmX2 0 rfl rfl 6 (by decide) (mw 5 rfl) rfl rfl rfl rfl (Nat.le_of_ble_eq_true rfl) rfl dX2_readBoards_99 ?_
          refine r_aln (pc := 102) C 0 rfl dX2_readBoards_102 ?_
          refine r_get (pc := 103) C iX2_readBoards_X2 0 rfl rfl 6 (by decide) (mw 5 rfl) rfl rfl dX2_readBoards_103 ?_
          refine r_ic (pc := 106) (v := (-1)) C rfl dX2_readBoards_106 ?_
          refine r_ceq (pc := 107) (tgt := 114) C dX2_readBoards_107 (by decide) (fun c107 => ?_) (fun c107 => absurd c107 (by exact fun h => h rfl))
          refine r_ic (pc := 114) (v := nI 0) C rfl dX2_readBoards_114 ?_
          subst hQ
          exact e_zW C hr hk rfl (Nat.le_refl _) (Nat.le_refl _) ⟨(0 + 1) + 1, nI h2d, (-1), (-1), (-1)⟩ rfl (Or.inl ⟨2, pb4_2 ⟨h1, c11⟩ h2 h4, rfl, rfl⟩) dX2_readBoards_115
        · have h4u := h4u.symm
          subst h4u
          refine r_put (pc := 55) (ws2 := [(ra, cRd rs rl (((0 + 1) + 1) + 1) (nI h2d) (nI h4d) rm0 rla rle rn ro), (rs, aN (cT 2) 120 sg)]) C iX2_readBoards_X2 tyX2_ok nmX2 0 rfl rfl 4 (by decide) (mw 3 rfl) rfl rfl rfl rfl (Nat.le_of_ble_eq_true rfl) rfl dX2_readBoards_55 ?_
          refine r_aln (pc := 58) C 0 rfl dX2_readBoards_58 ?_
          refine r_aln (pc := 59) C 0 rfl dX2_readBoards_59 ?_
          refine r_get (pc := 60) C iX2_readBoards_X2 0 rfl rfl 4 (by decide) (mw 3 rfl) rfl rfl dX2_readBoards_60 ?_
          refine r_ic (pc := 63) (v := (-1)) C rfl dX2_readBoards_63 ?_
          refine r_cne (pc := 64) (tgt := 71) C dX2_readBoards_64 (by decide) (fun c64 => ?_) (fun c64 => absurd c64 (by exact nI_m1 (by omega)))
          refine r_aln (pc := 71) C 0 rfl dX2_readBoards_71 ?_
          refine r_ic (pc := 72) (v := nI 1) C rfl dX2_readBoards_72 ?_
          refine r_ic (pc := 73) (v := nI 4) C rfl dX2_readBoards_73 ?_
          refine c_WVi (pc := 74) (As := [.int (nI 1), .int (nI 4)]) (wc := [(ra, cRd rs rl (((0 + 1) + 1) + 1) (nI h2d) (nI h4d) rm0 rla rle rn ro), (rs, aN (cT 2) 120 sg)]) (wr := []) (qr := 0) C hA (k_X2_readDigit l D cT ra rs rl (((0 + 1) + 1) + 1) (nI h2d) (nI h4d) rm0 rla rle rn ro sg 1 4 hl (by omega) hsg (by omega) (by omega)) (cwV 2 C.1.2.2.2.2 gX2_readBoards_X2_readDigit rfl rfl rfl n_X2_readDigit ⟨Nat.le_of_ble_eq_true rfl, Nat.le_of_ble_eq_true rfl⟩) rfl rfl [0, 1] [] rfl rfl ⟨by decide, by decide⟩ (by decide) [0, 1] (fun u7 => [(ra, cRd rs rl u7 (nI h2d) (nI h4d) rm0 rla rle rn ro), (rs, aN (cT 2) 120 sg)]) (fun _ => rfl) (by decide) rfl rfl (Nat.le_of_ble_eq_true rfl) ⟨Nat.zero_le _, Nat.zero_le _⟩ dX2_readBoards_74 (fun r74 u7 h6 => ?_)
          rcases h6 with ⟨h6, rfl, h6u⟩ | ⟨h6d, h6, rfl, h6d2, h6u⟩
          · have h6u := h6u.symm
            subst h6u
            refine r_put (pc := 77) (ws2 := [(ra, cRd rs rl (((0 + 1) + 1) + 1) (nI h2d) (nI h4d) (-1) rla rle rn ro), (rs, aN (cT 2) 120 sg)]) C iX2_readBoards_X2 tyX2_ok nmX2 0 rfl rfl 5 (by decide) (mw 4 rfl) rfl rfl rfl rfl (Nat.le_of_ble_eq_true rfl) rfl dX2_readBoards_77 ?_
            refine r_aln (pc := 80) C 0 rfl dX2_readBoards_80 ?_
            refine r_aln (pc := 81) C 0 rfl dX2_readBoards_81 ?_
            refine r_get (pc := 82) C iX2_readBoards_X2 0 rfl rfl 5 (by decide) (mw 4 rfl) rfl rfl dX2_readBoards_82 ?_
            refine r_ic (pc := 85) (v := (-1)) C rfl dX2_readBoards_85 ?_
            refine r_cne (pc := 86) (tgt := 93) C dX2_readBoards_86 (by decide) (fun c86 => absurd c86 (by exact fun h => h rfl)) (fun c86 => ?_)
            refine r_ic (pc := 89) (v := (-1)) C rfl dX2_readBoards_89 ?_
            refine r_goto (pc := 90) (tgt := 99) C dX2_readBoards_90 (by decide) ?_
            refine r_put (pc := 99) (ws2 := [(ra, cRd rs rl (((0 + 1) + 1) + 1) (nI h2d) (nI h4d) (-1) (-1) rle rn ro), (rs, aN (cT 2) 120 sg)]) C iX2_readBoards_X2 tyX2_ok nmX2 0 rfl rfl 6 (by decide) (mw 5 rfl) rfl rfl rfl rfl (Nat.le_of_ble_eq_true rfl) rfl dX2_readBoards_99 ?_
            refine r_aln (pc := 102) C 0 rfl dX2_readBoards_102 ?_
            refine r_get (pc := 103) C iX2_readBoards_X2 0 rfl rfl 6 (by decide) (mw 5 rfl) rfl rfl dX2_readBoards_103 ?_
            refine r_ic (pc := 106) (v := (-1)) C rfl dX2_readBoards_106 ?_
            refine r_ceq (pc := 107) (tgt := 114) C dX2_readBoards_107 (by decide) (fun c107 => ?_) (fun c107 => absurd c107 (by exact fun h => h rfl))
            refine r_ic (pc := 114) (v := nI 0) C rfl dX2_readBoards_114 ?_
            subst hQ
            exact e_zW C hr hk rfl (Nat.le_refl _) (Nat.le_refl _) ⟨((0 + 1) + 1) + 1, nI h2d, nI h4d, (-1), (-1)⟩ rfl (Or.inl ⟨3, pb4_3 ⟨h1, c11⟩ h2 h4 h6, rfl, rfl⟩) dX2_readBoards_115
          · have h6u := h6u.symm
            subst h6u
            refine r_put (pc := 77) (ws2 := [(ra, cRd rs rl ((((0 + 1) + 1) + 1) + 1) (nI h2d) (nI h4d) (nI h6d) rla rle rn ro), (rs, aN (cT 2) 120 sg)]) C iX2_readBoards_X2 tyX2_ok nmX2 0 rfl rfl 5 (by decide) (mw 4 rfl) rfl rfl rfl rfl (Nat.le_of_ble_eq_true rfl) rfl dX2_readBoards_77 ?_
            refine r_aln (pc := 80) C 0 rfl dX2_readBoards_80 ?_
            refine r_aln (pc := 81) C 0 rfl dX2_readBoards_81 ?_
            refine r_get (pc := 82) C iX2_readBoards_X2 0 rfl rfl 5 (by decide) (mw 4 rfl) rfl rfl dX2_readBoards_82 ?_
            refine r_ic (pc := 85) (v := (-1)) C rfl dX2_readBoards_85 ?_
            refine r_cne (pc := 86) (tgt := 93) C dX2_readBoards_86 (by decide) (fun c86 => ?_) (fun c86 => absurd c86 (by exact nI_m1 (by omega)))
            refine r_aln (pc := 93) C 0 rfl dX2_readBoards_93 ?_
            refine r_ic (pc := 94) (v := nI 1) C rfl dX2_readBoards_94 ?_
            refine r_ic (pc := 95) (v := nI 4) C rfl dX2_readBoards_95 ?_
            refine c_WVi (pc := 96) (As := [.int (nI 1), .int (nI 4)]) (wc := [(ra, cRd rs rl ((((0 + 1) + 1) + 1) + 1) (nI h2d) (nI h4d) (nI h6d) rla rle rn ro), (rs, aN (cT 2) 120 sg)]) (wr := []) (qr := 0) C hA (k_X2_readDigit l D cT ra rs rl ((((0 + 1) + 1) + 1) + 1) (nI h2d) (nI h4d) (nI h6d) rla rle rn ro sg 1 4 hl (by omega) hsg (by omega) (by omega)) (cwV 2 C.1.2.2.2.2 gX2_readBoards_X2_readDigit rfl rfl rfl n_X2_readDigit ⟨Nat.le_of_ble_eq_true rfl, Nat.le_of_ble_eq_true rfl⟩) rfl rfl [0, 1] [] rfl rfl ⟨by decide, by decide⟩ (by decide) [0, 1] (fun u9 => [(ra, cRd rs rl u9 (nI h2d) (nI h4d) (nI h6d) rla rle rn ro), (rs, aN (cT 2) 120 sg)]) (fun _ => rfl) (by decide) rfl rfl (Nat.le_of_ble_eq_true rfl) ⟨Nat.zero_le _, Nat.zero_le _⟩ dX2_readBoards_96 (fun r96 u9 h8 => ?_)
            rcases h8 with ⟨h8, rfl, h8u⟩ | ⟨h8d, h8, rfl, h8d2, h8u⟩
            · have h8u := h8u.symm
              subst h8u
              refine r_put (pc := 99) (ws2 := [(ra, cRd rs rl ((((0 + 1) + 1) + 1) + 1) (nI h2d) (nI h4d) (nI h6d) (-1) rle rn ro), (rs, aN (cT 2) 120 sg)]) C iX2_readBoards_X2 tyX2_ok nmX2 0 rfl rfl 6 (by decide) (mw 5 rfl) rfl rfl rfl rfl (Nat.le_of_ble_eq_true rfl) rfl dX2_readBoards_99 ?_
              refine r_aln (pc := 102) C 0 rfl dX2_readBoards_102 ?_
              refine r_get (pc := 103) C iX2_readBoards_X2 0 rfl rfl 6 (by decide) (mw 5 rfl) rfl rfl dX2_readBoards_103 ?_
              refine r_ic (pc := 106) (v := (-1)) C rfl dX2_readBoards_106 ?_
              refine r_ceq (pc := 107) (tgt := 114) C dX2_readBoards_107 (by decide) (fun c107 => ?_) (fun c107 => absurd c107 (by exact fun h => h rfl))
              refine r_ic (pc := 114) (v := nI 0) C rfl dX2_readBoards_114 ?_
              subst hQ
              exact e_zW C hr hk rfl (Nat.le_refl _) (Nat.le_refl _) ⟨(((0 + 1) + 1) + 1) + 1, nI h2d, nI h4d, nI h6d, (-1)⟩ rfl (Or.inl ⟨4, pb4_4 ⟨h1, c11⟩ h2 h4 h6 h8, rfl, rfl⟩) dX2_readBoards_115
            · have h8u := h8u.symm
              subst h8u
              refine r_put (pc := 99) (ws2 := [(ra, cRd rs rl (((((0 + 1) + 1) + 1) + 1) + 1) (nI h2d) (nI h4d) (nI h6d) (nI h8d) rle rn ro), (rs, aN (cT 2) 120 sg)]) C iX2_readBoards_X2 tyX2_ok nmX2 0 rfl rfl 6 (by decide) (mw 5 rfl) rfl rfl rfl rfl (Nat.le_of_ble_eq_true rfl) rfl dX2_readBoards_99 ?_
              refine r_aln (pc := 102) C 0 rfl dX2_readBoards_102 ?_
              refine r_get (pc := 103) C iX2_readBoards_X2 0 rfl rfl 6 (by decide) (mw 5 rfl) rfl rfl dX2_readBoards_103 ?_
              refine r_ic (pc := 106) (v := (-1)) C rfl dX2_readBoards_106 ?_
              refine r_ceq (pc := 107) (tgt := 114) C dX2_readBoards_107 (by decide) (fun c107 => absurd c107 (by exact nI_m1 (by omega))) (fun c107 => ?_)
              refine r_ic (pc := 110) (v := nI 1) C rfl dX2_readBoards_110 ?_
              refine r_goto (pc := 111) (tgt := 115) C dX2_readBoards_111 (by decide) ?_
              subst hQ
              exact e_zW C hr hk rfl (Nat.le_refl _) (Nat.le_refl _) ⟨((((0 + 1) + 1) + 1) + 1) + 1, nI h2d, nI h4d, nI h6d, nI h8d⟩ rfl (Or.inr ⟨_, _, _, _, pb4_5 ⟨h1, c11⟩ h2 h4 h6 h8, rfl, rfl, rfl, rfl, rfl, rfl⟩) dX2_readBoards_115
    · refine r_ic (pc := 14) (v := nI 0) C rfl dX2_readBoards_14 ?_
      subst hQ
      exact e_zW C hr hk rfl (Nat.le_refl _) (Nat.le_refl _) ⟨0, rf, rw0, rm0, rla⟩ rfl (Or.inl ⟨0, if_neg (fun g => c11 g.2), rfl, rfl⟩) dX2_readBoards_15
  · refine r_bi (pc := 9) (v := nI 67) C rfl dX2_readBoards_9 ?_
    refine r_ceq (pc := 11) (tgt := 16) C dX2_readBoards_11 (by decide) (fun c11 => absurd c11 (by decide)) (fun c11 => ?_)
    refine r_ic (pc := 14) (v := nI 0) C rfl dX2_readBoards_14 ?_
    subst hQ
    exact e_zW C hr hk rfl (Nat.le_refl _) (Nat.le_refl _) ⟨0, rf, rw0, rm0, rla⟩ rfl (Or.inl ⟨0, if_neg (fun g => absurd g.1 (by omega)), rfl, rfl⟩) dX2_readBoards_15

