/-! commands of the text -/
section
variable {fw mid lw len p e e2 a b : Nat} {sg : Nat → Nat}
theorem pc_e (h : ¬ p < len) : PC fw mid lw len sg p = (false, p, 0, 0, 0) := by unfold PC; rw [if_neg h]
theorem pc_c1 (h : p < len) (g : sg p = 99) (q : PN len sg (p + 1) (fw - 1) = (false, 0, e)) : PC fw mid lw len sg p = (false, e, 0, 0, 0) := by unfold PC; rw [if_pos h, if_pos g, q]
theorem pc_c2 (h : p < len) (g : sg p = 99) (q : PN len sg (p + 1) (fw - 1) = (true, a, e)) (q2 : PN len sg e (lw - 1) = (false, 0, e2)) : PC fw mid lw len sg p = (false, e2, 0, 0, 0) := by unfold PC; rw [if_pos h, if_pos g, q]; simp only []; rw [q2]
theorem pc_c3 (h : p < len) (g : sg p = 99) (q : PN len sg (p + 1) (fw - 1) = (true, a, e)) (q2 : PN len sg e (lw - 1) = (true, b, e2)) : PC fw mid lw len sg p = (true, e2, 99, a, b) := by unfold PC; rw [if_pos h, if_pos g, q]; simp only []; rw [q2]
theorem pc_j1 (h : p < len) (g : sg p = 106) (q : PN len sg (p + 1) 15 = (false, 0, e)) : PC fw mid lw len sg p = (false, e, 0, 0, 0) := by unfold PC; rw [if_pos h, if_neg (by omega), if_pos g, q]
theorem pc_j2 (h : p < len) (g : sg p = 106) (q : PN len sg (p + 1) 15 = (true, a, e)) (q2 : PN len sg e (lw - 1) = (false, 0, e2)) : PC fw mid lw len sg p = (false, e2, 0, 0, 0) := by unfold PC; rw [if_pos h, if_neg (by omega), if_pos g, q]; simp only []; rw [q2]
theorem pc_j3 (h : p < len) (g : sg p = 106) (q : PN len sg (p + 1) 15 = (true, a, e)) (q2 : PN len sg e (lw - 1) = (true, b, e2)) : PC fw mid lw len sg p = (true, e2, 106, a, b) := by unfold PC; rw [if_pos h, if_neg (by omega), if_pos g, q]; simp only []; rw [q2]
theorem pc_h1 (h : p < len) (g : sg p = 104) (q : PN len sg (p + 1) 15 = (false, 0, e)) : PC fw mid lw len sg p = (false, e, 0, 0, 0) := by unfold PC; rw [if_pos h, if_neg (by omega), if_neg (by omega), if_pos g, q]
theorem pc_h2 (h : p < len) (g : sg p = 104) (q : PN len sg (p + 1) 15 = (true, a, e)) : PC fw mid lw len sg p = (true, e, 104, a, 0) := by unfold PC; rw [if_pos h, if_neg (by omega), if_neg (by omega), if_pos g, q]
theorem pc_b1 (h : p < len) (g : sg p = 98) (q : PD len sg (p + 1) 0 (mid - 1) = none) : PC fw mid lw len sg p = (false, p + 1, 0, 0, 0) := by unfold PC; rw [if_pos h, if_neg (by omega), if_neg (by omega), if_neg (by omega), if_pos g, q]
theorem pc_b2 (h : p < len) (g : sg p = 98) (q : PD len sg (p + 1) 0 (mid - 1) = some a) : PC fw mid lw len sg p = (true, p + 2, 98, a, 0) := by unfold PC; rw [if_pos h, if_neg (by omega), if_neg (by omega), if_neg (by omega), if_pos g, q]
theorem pc_p1 (h : p < len) (g : sg p = 112) (q : PD len sg (p + 1) 0 3 = none) : PC fw mid lw len sg p = (false, p + 1, 0, 0, 0) := by unfold PC; rw [if_pos h, if_neg (by omega), if_neg (by omega), if_neg (by omega), if_neg (by omega), if_pos g, q]
theorem pc_p2 (h : p < len) (g : sg p = 112) (q : PD len sg (p + 1) 0 3 = some a) : PC fw mid lw len sg p = (true, p + 2, 112, a, 0) := by unfold PC; rw [if_pos h, if_neg (by omega), if_neg (by omega), if_neg (by omega), if_neg (by omega), if_pos g, q]
theorem pc_n (h : p < len) (g : sg p ≠ 99 ∧ sg p ≠ 106 ∧ sg p ≠ 104 ∧ sg p ≠ 98 ∧ sg p ≠ 112) : PC fw mid lw len sg p = (false, p, 0, 0, 0) := by unfold PC; rw [if_pos h, if_neg g.1, if_neg g.2.1, if_neg g.2.2.1, if_neg g.2.2.2.1, if_neg g.2.2.2.2]
end
/-- what a good command of the text is -/
theorem pc_ok {fw mid lw len p e lt a b : Nat} {sg : Nat → Nat} (hl : len ≤ 120) (hp : p ≤ 120) (h : PC fw mid lw len sg p = (true, e, lt, a, b)) : p < len ∧ p + 2 ≤ e ∧ e ≤ len ∧ ((lt = 99 ∧ a ≤ fw - 1 ∧ b ≤ lw - 1) ∨ (lt = 106 ∧ a ≤ 15 ∧ b ≤ lw - 1) ∨ (lt = 104 ∧ a ≤ 15) ∨ (lt = 98 ∧ a ≤ mid - 1) ∨ (lt = 112 ∧ a ≤ 3)) := by
  have pnt : ∀ {q hi v f : Nat}, PN len sg q hi = (true, v, f) → f = q + 2 ∧ f ≤ len ∧ v ≤ hi := by
    intro q hi v f h
    cases h1 : PD len sg q 0 (hi / 10) with
    | none => rw [pn_f1 h1] at h; cases h
    | some t =>
      obtain ⟨a1, -, a3, -⟩ := pd_some h1
      cases h2 : PD len sg (q + 1) 0 (m9 (hi - 10 * t)) with
      | none => rw [pn_f2 h1 h2] at h; cases h
      | some d =>
        obtain ⟨b1, -, b3, -⟩ := pd_some h2
        have := (m9_le (hi - 10 * t)).2
        rw [pn_ok h1 h2] at h; cases h; omega
  unfold PC at h
  by_cases h0 : p < len
  · rw [if_pos h0] at h
    refine ⟨h0, ?_⟩
    by_cases g1 : sg p = 99
    · rw [if_pos g1] at h
      rcases q1 : PN len sg (p + 1) (fw - 1) with ⟨o1, v1, f1⟩
      rw [q1] at h
      cases o1
      · cases h
      · simp only [] at h
        rcases q2 : PN len sg f1 (lw - 1) with ⟨o2, v2, f2⟩
        rw [q2] at h
        cases o2
        · cases h
        · cases h
          have := pnt q1
          have := pnt q2
          omega
    · rw [if_neg g1] at h
      by_cases g2 : sg p = 106
      · rw [if_pos g2] at h
        rcases q1 : PN len sg (p + 1) 15 with ⟨o1, v1, f1⟩
        rw [q1] at h
        cases o1
        · cases h
        · simp only [] at h
          rcases q2 : PN len sg f1 (lw - 1) with ⟨o2, v2, f2⟩
          rw [q2] at h
          cases o2
          · cases h
          · cases h
            have := pnt q1
            have := pnt q2
            omega
      · rw [if_neg g2] at h
        by_cases g3 : sg p = 104
        · rw [if_pos g3] at h
          rcases q1 : PN len sg (p + 1) 15 with ⟨o1, v1, f1⟩
          rw [q1] at h
          cases o1
          · cases h
          · cases h
            have := pnt q1
            omega
        · rw [if_neg g3] at h
          by_cases g4 : sg p = 98
          · rw [if_pos g4] at h
            cases q1 : PD len sg (p + 1) 0 (mid - 1) with
            | none => rw [q1] at h; cases h
            | some v => rw [q1] at h; cases h; have := pd_some q1; omega
          · rw [if_neg g4] at h
            by_cases g5 : sg p = 112
            · rw [if_pos g5] at h
              cases q1 : PD len sg (p + 1) 0 3 with
              | none => rw [q1] at h; cases h
              | some v => rw [q1] at h; cases h; have := pd_some q1; omega
            · rw [if_neg g5] at h; cases h
  · rw [if_neg h0] at h; cases h
theorem ts_rc : ∀ v, v < 256 → (v ≠ 99 ∧ v ≠ 106 ∧ v ≠ 104 ∧ v ≠ 98 ∧ v ≠ 112) → tsT 98 112 #[201, 76, 274, 274, 274, 274, 167, 274, 126, 274, 274, 274, 274, 274, 240] 274 12 v = (286 : Nat) := by decide +kernel
theorem pb4_bd {len a b c d e : Nat} {sg : Nat → Nat} (h : PB4 len sg = (true, e, a, b, c, d)) : (1 ≤ a ∧ a ≤ 4) ∧ (1 ≤ b ∧ b ≤ 4) ∧ (1 ≤ c ∧ c ≤ 4) ∧ (1 ≤ d ∧ d ≤ 4) ∧ 5 ≤ len := by
  unfold PB4 at h
  by_cases h0 : 0 < len ∧ sg 0 = 67
  · rw [if_pos h0] at h
    cases q1 : PD len sg 1 1 4 with
    | none => rw [q1] at h; cases h
    | some v1 =>
      rw [q1] at h; simp only [] at h
      cases q2 : PD len sg 2 1 4 with
      | none => rw [q2] at h; cases h
      | some v2 =>
        rw [q2] at h; simp only [] at h
        cases q3 : PD len sg 3 1 4 with
        | none => rw [q3] at h; cases h
        | some v3 =>
          rw [q3] at h; simp only [] at h
          cases q4 : PD len sg 4 1 4 with
          | none => rw [q4] at h; cases h
          | some v4 =>
            rw [q4] at h; cases h
            have := pd_some q1
            have := pd_some q2
            have := pd_some q3
            have := pd_some q4
            omega
  · rw [if_neg h0] at h; cases h
theorem mul44 {a b : Nat} (ha : 1 ≤ a ∧ a ≤ 4) (hb : 1 ≤ b ∧ b ≤ 4) : 1 ≤ a * b ∧ a * b ≤ 16 := ⟨Nat.mul_le_mul ha.1 hb.1, Nat.mul_le_mul ha.2 hb.2⟩
/-- the commands from p on: the error position, if there is one -/
def PE (fw mid lw len : Nat) (sg : Nat → Nat) : Nat → Nat → Option Nat
  | 0, _ => none
  | k + 1, p => if p < len then (match PC fw mid lw len sg p with
    | (false, e, _) => some e
    | (true, e, _) => PE fw mid lw len sg k e) else none
theorem pe_end {fw mid lw len p k : Nat} {sg : Nat → Nat} (h : ¬ p < len) : PE fw mid lw len sg k p = none := by cases k with
  | zero => rfl
  | succ k => unfold PE; rw [if_neg h]
theorem pe_bad {fw mid lw len p k e : Nat} {sg : Nat → Nat} (h : p < len) (g : PC fw mid lw len sg p = (false, e, 0, 0, 0)) : PE fw mid lw len sg (k + 1) p = some e := by unfold PE; rw [if_pos h, g]
theorem pe_go {fw mid lw len p k e lt a b : Nat} {sg : Nat → Nat} (h : p < len) (g : PC fw mid lw len sg p = (true, e, lt, a, b)) : PE fw mid lw len sg (k + 1) p = PE fw mid lw len sg k e := by
  conv => lhs; unfold PE
  rw [if_pos h, g]
theorem pe_pos {fw mid lw len : Nat} {sg : Nat → Nat} {k p e : Nat} (h : PE fw mid lw len sg k p = some e) : p < len := by
  rcases Nat.lt_or_ge p len with g | g
  · exact g
  · rw [pe_end (by omega)] at h; cases h

theorem iX2_readCommand_X2 : ∀ w ∈ u_ws RX2 TX2 10, w ∈ wsX2_readCommand := by decide +kernel
abbrev rmX2_readCommand : Room := { frames := 4, cells := 0, slots := 0, locals := 86 }
theorem n_X2_readCommand : yX2_readCommand.cls = RX2 ∧ yX2_readCommand.cls ≠ "java/lang/invoke/MethodHandle" ∧ yX2_readCommand.cls ≠ "java/lang/invoke/VarHandle" ∧ (parseMethodDescriptor yX2_readCommand.desc).map (fun d => d.parameters.length) = some 0 := by decide +kernel
set_option maxHeartbeats 4000000 in
set_option maxRecDepth 100000 in
theorem k_X2_readCommand (l : Launch) (D : va_G) (cT : Nat → ClassId) (ra rs rl rp : Nat) (rle rn ro : Int32) (sg : Nat → Nat) (fst wid mid las : Nat) (hl : rl ≤ 120) (hp : rp ≤ 120) (hsg : ∀ k, k < 120 → sg k < 256) (hF : 1 ≤ fst ∧ fst ≤ 4) (hW : 1 ≤ wid ∧ wid ≤ 4) (hM : 1 ≤ mid ∧ mid ≤ 4) (hL : 1 ≤ las ∧ las ≤ 4) : MWi (S := Nat × Int32 × Int32 × Int32) l D cT yX2_readCommand wsX2_readCommand rmX2_readCommand [.ref ra] [(ra, cRd rs rl rp (nI fst) (nI wid) (nI mid) (nI las) rle rn ro), (rs, aN (cT 2) 120 sg)] (fun r u => (∃ e, PC (fst * wid) mid (las * wid) rl sg rp = (false, e, 0, 0, 0) ∧ r = nI 0 ∧ u.1 = e) ∨ ∃ e lt a b, PC (fst * wid) mid (las * wid) rl sg rp = (true, e, lt, a, b) ∧ r = nI 1 ∧ u.1 = e ∧ u.2.1 = nI lt ∧ u.2.2.1 = nI a ∧ (lt = 99 ∨ lt = 106 → u.2.2.2 = nI b)) (fun u => [(ra, cRd rs rl u.1 (nI fst) (nI wid) (nI mid) (nI las) u.2.1 u.2.2.1 u.2.2.2), (rs, aN (cT 2) 120 sg)]) 0 0 := by
  refine m_Wi [(0, .ref ra)] (by decide +kernel) rfl (Nat.le_of_ble_eq_true rfl) rfl ?_
  intro p e s m args below meth c A hAe C hA hr hk hnm_
  generalize hQ : MQ below (va_Qi _ _ A) args s 0 0 A = Q
  have hFW := mul44 hF hW
  have hLW := mul44 hL hW
  refine r_aln (pc := 0) C 0 rfl dX2_readCommand_0 ?_
  refine r_aln (pc := 1) C 0 rfl dX2_readCommand_1 ?_
  refine c_RV (pc := 2) (As := []) (wc := [(ra, cRd rs rl rp (nI fst) (nI wid) (nI mid) (nI las) rle rn ro), (rs, aN (cT 2) 120 sg)]) (qr := 0) C (k_X2_sign l D cT ra rs rl rp (nI fst) (nI wid) (nI mid) (nI las) rle rn ro sg hl hp) (cwV 0 C.1.2.2.2.2 gX2_readCommand_X2_sign rfl rfl rfl n_X2_sign ⟨Nat.le_of_ble_eq_true rfl, Nat.le_of_ble_eq_true rfl⟩) [0, 1] rfl rfl rfl rfl rfl (Nat.le_of_ble_eq_true rfl) ⟨Nat.zero_le _, Nat.zero_le _⟩ dX2_readCommand_2 (fun r2 h1 => ?_)
  rcases h1 with ⟨h1, rfl⟩ | ⟨h1, rfl⟩
  · refine r_put (pc := 5) (ws2 := [(ra, cRd rs rl rp (nI fst) (nI wid) (nI mid) (nI las) (nI (sg rp)) rn ro), (rs, aN (cT 2) 120 sg)]) C iX2_readCommand_X2 tyX2_ok nmX2 0 rfl rfl 7 (by decide) (mw 1 rfl) rfl rfl rfl rfl (Nat.le_of_ble_eq_true rfl) rfl dX2_readCommand_5 ?_
    refine r_aln (pc := 8) C 0 rfl dX2_readCommand_8 ?_
    refine r_get (pc := 9) C iX2_readCommand_X2 0 rfl rfl 7 (by decide) (mw 1 rfl) rfl rfl dX2_readCommand_9 ?_
    rcases sw5 (sg rp) with g | g | g | g | g | g
    · refine r_v (y := nI 99) (congrArg nI g) ?_
      refine r_tsN (pc := 12) (tgt := 88) C (by decide) dX2_readCommand_12 (by decide) ?_
      refine r_aln (pc := 88) C 0 rfl dX2_readCommand_88 ?_
      refine r_dup (pc := 89) C rfl dX2_readCommand_89 ?_
      refine r_get (pc := 90) C iX2_readCommand_X2 0 rfl rfl 2 (by decide) (mw 2 rfl) rfl rfl dX2_readCommand_90 ?_
      refine r_ic (pc := 93) (v := nI 1) C rfl dX2_readCommand_93 ?_
      refine r_iaddN (pc := 94) C dX2_readCommand_94 ?_
      refine r_put (pc := 95) (ws2 := [(ra, cRd rs rl (rp + 1) (nI fst) (nI wid) (nI mid) (nI las) (nI (sg rp)) rn ro), (rs, aN (cT 2) 120 sg)]) C iX2_readCommand_X2 tyX2_ok nmX2 0 rfl rfl 2 (by decide) (mw 2 rfl) rfl rfl rfl rfl (Nat.le_of_ble_eq_true rfl) rfl dX2_readCommand_95 ?_
      refine r_aln (pc := 98) C 0 rfl dX2_readCommand_98 ?_
      refine r_aln (pc := 99) C 0 rfl dX2_readCommand_99 ?_
      refine r_aln (pc := 100) C 0 rfl dX2_readCommand_100 ?_
      refine r_get (pc := 101) C iX2_readCommand_X2 0 rfl rfl 3 (by decide) (mw 3 rfl) rfl rfl dX2_readCommand_101 ?_
      refine r_aln (pc := 104) C 0 rfl dX2_readCommand_104 ?_
      refine r_get (pc := 105) C iX2_readCommand_X2 0 rfl rfl 4 (by decide) (mw 4 rfl) rfl rfl dX2_readCommand_105 ?_
      refine r_imulN (pc := 108) C dX2_readCommand_108 ?_
      refine r_ic (pc := 109) (v := nI 1) C rfl dX2_readCommand_109 ?_
      refine r_isubN (pc := 110) C (by first | omega | (have := hsg rp (by omega); omega)) dX2_readCommand_110 ?_
      refine c_WVi (pc := 111) (As := [.int (nI ((fst * wid) - 1))]) (wc := [(ra, cRd rs rl (rp + 1) (nI fst) (nI wid) (nI mid) (nI las) (nI (sg rp)) rn ro), (rs, aN (cT 2) 120 sg)]) (wr := []) (qr := 0) C hA (k_X2_readNumber l D cT ra rs rl (rp + 1) (nI fst) (nI wid) (nI mid) (nI las) (nI (sg rp)) rn ro sg ((fst * wid) - 1) hl (by omega) hsg (by omega)) (cwV 1 C.1.2.2.2.2 gX2_readCommand_X2_readNumber rfl rfl rfl n_X2_readNumber ⟨Nat.le_of_ble_eq_true rfl, Nat.le_of_ble_eq_true rfl⟩) rfl rfl [0, 1] [] rfl rfl ⟨by decide, by decide⟩ (by decide) [0, 1] (fun u3 => [(ra, cRd rs rl u3 (nI fst) (nI wid) (nI mid) (nI las) (nI (sg rp)) rn ro), (rs, aN (cT 2) 120 sg)]) (fun _ => rfl) (by decide) rfl rfl (Nat.le_of_ble_eq_true rfl) ⟨Nat.zero_le _, Nat.zero_le _⟩ dX2_readCommand_111 (fun r111 u3 h2 => ?_)
      rcases h2 with ⟨h2e, h2, rfl, h2u⟩ | ⟨h2v, h2e, h2, rfl, h2u⟩
      · have h2u := h2u.symm
        subst h2u
        have h2b := pn_cases hl (by omega) h2
        refine r_put (pc := 114) (ws2 := [(ra, cRd rs rl h2e (nI fst) (nI wid) (nI mid) (nI las) (nI (sg rp)) (-1) ro), (rs, aN (cT 2) 120 sg)]) C iX2_readCommand_X2 tyX2_ok nmX2 0 rfl rfl 8 (by decide) (mw 5 rfl) rfl rfl rfl rfl (Nat.le_of_ble_eq_true rfl) rfl dX2_readCommand_114 ?_
        refine r_aln (pc := 117) C 0 rfl dX2_readCommand_117 ?_
        refine r_get (pc := 118) C iX2_readCommand_X2 0 rfl rfl 8 (by decide) (mw 5 rfl) rfl rfl dX2_readCommand_118 ?_
        refine r_ic (pc := 121) (v := (-1)) C rfl dX2_readCommand_121 ?_
        refine r_ceq (pc := 122) (tgt := 136) C dX2_readCommand_122 (by decide) (fun c122 => ?_) (fun c122 => absurd c122 (by exact fun h => h rfl))
        refine r_ic (pc := 136) (v := nI 0) C rfl dX2_readCommand_136 ?_
        subst hQ
        exact e_zW C hr hk rfl (Nat.le_refl _) (Nat.le_refl _) ⟨h2e, nI (sg rp), (-1), ro⟩ rfl (Or.inl ⟨_, pc_c1 h1 g h2, rfl, rfl⟩) dX2_readCommand_137
      · have h2u := h2u.symm
        subst h2u
        have h2b := pn_cases hl (by omega) h2
        refine r_put (pc := 114) (ws2 := [(ra, cRd rs rl h2e (nI fst) (nI wid) (nI mid) (nI las) (nI (sg rp)) (nI h2v) ro), (rs, aN (cT 2) 120 sg)]) C iX2_readCommand_X2 tyX2_ok nmX2 0 rfl rfl 8 (by decide) (mw 5 rfl) rfl rfl rfl rfl (Nat.le_of_ble_eq_true rfl) rfl dX2_readCommand_114 ?_
        refine r_aln (pc := 117) C 0 rfl dX2_readCommand_117 ?_
        refine r_get (pc := 118) C iX2_readCommand_X2 0 rfl rfl 8 (by decide) (mw 5 rfl) rfl rfl dX2_readCommand_118 ?_
        refine r_ic (pc := 121) (v := (-1)) C rfl dX2_readCommand_121 ?_
        refine r_ceq (pc := 122) (tgt := 136) C dX2_readCommand_122 (by decide) (fun c122 => absurd c122 (by exact nI_m1 (by omega))) (fun c122 => ?_)
        refine r_aln (pc := 125) C 0 rfl dX2_readCommand_125 ?_
        refine c_WVi (pc := 126) (As := []) (wc := [(ra, cRd rs rl h2e (nI fst) (nI wid) (nI mid) (nI las) (nI (sg rp)) (nI h2v) ro), (rs, aN (cT 2) 120 sg)]) (wr := []) (qr := 0) C hA (k_X2_readOutput l D cT ra rs rl h2e (nI fst) (nI mid) (nI (sg rp)) (nI h2v) ro sg wid las hl (by omega) hsg hLW.2 hLW.1) (cwV 0 C.1.2.2.2.2 gX2_readCommand_X2_readOutput rfl rfl rfl n_X2_readOutput ⟨Nat.le_of_ble_eq_true rfl, Nat.le_of_ble_eq_true rfl⟩) rfl rfl [0, 1] [] rfl rfl ⟨by decide, by decide⟩ (by decide) [0, 1] (fun u5 => [(ra, cRd rs rl u5.1 (nI fst) (nI wid) (nI mid) (nI las) (nI (sg rp)) (nI h2v) u5.2), (rs, aN (cT 2) 120 sg)]) (fun _ => rfl) (by decide) rfl rfl (Nat.le_of_ble_eq_true rfl) ⟨Nat.zero_le _, Nat.zero_le _⟩ dX2_readCommand_126 (fun r126 u5 h4 => ?_)
        rcases h4 with ⟨h4e, h4, rfl, h4u⟩ | ⟨h4v, h4e, h4, rfl, h4u, h4w⟩
        · have h4b := pn_cases hl (by omega) h4
          refine r_zeqN (pc := 129) (tgt := 136) C (by first | omega | (have := hsg rp (by omega); omega)) dX2_readCommand_129 (by decide) (fun _ => ?_) (fun h => absurd h (by decide))
          refine r_ic (pc := 136) (v := nI 0) C rfl dX2_readCommand_136 ?_
          subst hQ
          exact e_zW C hr hk rfl (Nat.le_refl _) (Nat.le_refl _) ⟨u5.1, nI (sg rp), nI h2v, u5.2⟩ rfl (Or.inl ⟨_, pc_c2 h1 g h2 h4, rfl, h4u⟩) dX2_readCommand_137
        · have h4b := pn_cases hl (by omega) h4
          refine r_zeqN (pc := 129) (tgt := 136) C (by first | omega | (have := hsg rp (by omega); omega)) dX2_readCommand_129 (by decide) (fun h => absurd h (by decide)) (fun _ => ?_)
          refine r_ic (pc := 132) (v := nI 1) C rfl dX2_readCommand_132 ?_
          refine r_goto (pc := 133) (tgt := 137) C dX2_readCommand_133 (by decide) ?_
          subst hQ
          exact e_zW C hr hk rfl (Nat.le_refl _) (Nat.le_refl _) ⟨u5.1, nI (sg rp), nI h2v, u5.2⟩ rfl (Or.inr ⟨_, _, _, _, pc_c3 h1 g h2 h4, rfl, h4u, congrArg nI g, rfl, fun _ => h4w⟩) dX2_readCommand_137
    · refine r_v (y := nI 106) (congrArg nI g) ?_
      refine r_tsN (pc := 12) (tgt := 138) C (by decide) dX2_readCommand_12 (by decide) ?_
      refine r_aln (pc := 138) C 0 rfl dX2_readCommand_138 ?_
      refine r_dup (pc := 139) C rfl dX2_readCommand_139 ?_
      refine r_get (pc := 140) C iX2_readCommand_X2 0 rfl rfl 2 (by decide) (mw 2 rfl) rfl rfl dX2_readCommand_140 ?_
      refine r_ic (pc := 143) (v := nI 1) C rfl dX2_readCommand_143 ?_
      refine r_iaddN (pc := 144) C dX2_readCommand_144 ?_
      refine r_put (pc := 145) (ws2 := [(ra, cRd rs rl (rp + 1) (nI fst) (nI wid) (nI mid) (nI las) (nI (sg rp)) rn ro), (rs, aN (cT 2) 120 sg)]) C iX2_readCommand_X2 tyX2_ok nmX2 0 rfl rfl 2 (by decide) (mw 2 rfl) rfl rfl rfl rfl (Nat.le_of_ble_eq_true rfl) rfl dX2_readCommand_145 ?_
      refine r_aln (pc := 148) C 0 rfl dX2_readCommand_148 ?_
      refine r_aln (pc := 149) C 0 rfl dX2_readCommand_149 ?_
      refine r_bi (pc := 150) (v := nI 15) C rfl dX2_readCommand_150 ?_
      refine c_WVi (pc := 152) (As := [.int (nI 15)]) (wc := [(ra, cRd rs rl (rp + 1) (nI fst) (nI wid) (nI mid) (nI las) (nI (sg rp)) rn ro), (rs, aN (cT 2) 120 sg)]) (wr := []) (qr := 0) C hA (k_X2_readNumber l D cT ra rs rl (rp + 1) (nI fst) (nI wid) (nI mid) (nI las) (nI (sg rp)) rn ro sg 15 hl (by omega) hsg (by omega)) (cwV 1 C.1.2.2.2.2 gX2_readCommand_X2_readNumber rfl rfl rfl n_X2_readNumber ⟨Nat.le_of_ble_eq_true rfl, Nat.le_of_ble_eq_true rfl⟩) rfl rfl [0, 1] [] rfl rfl ⟨by decide, by decide⟩ (by decide) [0, 1] (fun u7 => [(ra, cRd rs rl u7 (nI fst) (nI wid) (nI mid) (nI las) (nI (sg rp)) rn ro), (rs, aN (cT 2) 120 sg)]) (fun _ => rfl) (by decide) rfl rfl (Nat.le_of_ble_eq_true rfl) ⟨Nat.zero_le _, Nat.zero_le _⟩ dX2_readCommand_152 (fun r152 u7 h6 => ?_)
      rcases h6 with ⟨h6e, h6, rfl, h6u⟩ | ⟨h6v, h6e, h6, rfl, h6u⟩
      · have h6u := h6u.symm
        subst h6u
        have h6b := pn_cases hl (by omega) h6
        refine r_put (pc := 155) (ws2 := [(ra, cRd rs rl h6e (nI fst) (nI wid) (nI mid) (nI las) (nI (sg rp)) (-1) ro), (rs, aN (cT 2) 120 sg)]) C iX2_readCommand_X2 tyX2_ok nmX2 0 rfl rfl 8 (by decide) (mw 5 rfl) rfl rfl rfl rfl (Nat.le_of_ble_eq_true rfl) rfl dX2_readCommand_155 ?_
        refine r_aln (pc := 158) C 0 rfl dX2_readCommand_158 ?_
        refine r_get (pc := 159) C iX2_readCommand_X2 0 rfl rfl 8 (by decide) (mw 5 rfl) rfl rfl dX2_readCommand_159 ?_
        refine r_ic (pc := 162) (v := (-1)) C rfl dX2_readCommand_162 ?_
        refine r_ceq (pc := 163) (tgt := 177) C dX2_readCommand_163 (by decide) (fun c163 => ?_) (fun c163 => absurd c163 (by exact fun h => h rfl))
        refine r_ic (pc := 177) (v := nI 0) C rfl dX2_readCommand_177 ?_
        subst hQ
        exact e_zW C hr hk rfl (Nat.le_refl _) (Nat.le_refl _) ⟨h6e, nI (sg rp), (-1), ro⟩ rfl (Or.inl ⟨_, pc_j1 h1 g h6, rfl, rfl⟩) dX2_readCommand_178
      · have h6u := h6u.symm
        subst h6u
        have h6b := pn_cases hl (by omega) h6
        refine r_put (pc := 155) (ws2 := [(ra, cRd rs rl h6e (nI fst) (nI wid) (nI mid) (nI las) (nI (sg rp)) (nI h6v) ro), (rs, aN (cT 2) 120 sg)]) C iX2_readCommand_X2 tyX2_ok nmX2 0 rfl rfl 8 (by decide) (mw 5 rfl) rfl rfl rfl rfl (Nat.le_of_ble_eq_true rfl) rfl dX2_readCommand_155 ?_
        refine r_aln (pc := 158) C 0 rfl dX2_readCommand_158 ?_
        refine r_get (pc := 159) C iX2_readCommand_X2 0 rfl rfl 8 (by decide) (mw 5 rfl) rfl rfl dX2_readCommand_159 ?_
        refine r_ic (pc := 162) (v := (-1)) C rfl dX2_readCommand_162 ?_
        refine r_ceq (pc := 163) (tgt := 177) C dX2_readCommand_163 (by decide) (fun c163 => absurd c163 (by exact nI_m1 (by omega))) (fun c163 => ?_)
        refine r_aln (pc := 166) C 0 rfl dX2_readCommand_166 ?_
        refine c_WVi (pc := 167) (As := []) (wc := [(ra, cRd rs rl h6e (nI fst) (nI wid) (nI mid) (nI las) (nI (sg rp)) (nI h6v) ro), (rs, aN (cT 2) 120 sg)]) (wr := []) (qr := 0) C hA (k_X2_readOutput l D cT ra rs rl h6e (nI fst) (nI mid) (nI (sg rp)) (nI h6v) ro sg wid las hl (by omega) hsg hLW.2 hLW.1) (cwV 0 C.1.2.2.2.2 gX2_readCommand_X2_readOutput rfl rfl rfl n_X2_readOutput ⟨Nat.le_of_ble_eq_true rfl, Nat.le_of_ble_eq_true rfl⟩) rfl rfl [0, 1] [] rfl rfl ⟨by decide, by decide⟩ (by decide) [0, 1] (fun u9 => [(ra, cRd rs rl u9.1 (nI fst) (nI wid) (nI mid) (nI las) (nI (sg rp)) (nI h6v) u9.2), (rs, aN (cT 2) 120 sg)]) (fun _ => rfl) (by decide) rfl rfl (Nat.le_of_ble_eq_true rfl) ⟨Nat.zero_le _, Nat.zero_le _⟩ dX2_readCommand_167 (fun r167 u9 h8 => ?_)
        rcases h8 with ⟨h8e, h8, rfl, h8u⟩ | ⟨h8v, h8e, h8, rfl, h8u, h8w⟩
        · have h8b := pn_cases hl (by omega) h8
          refine r_zeqN (pc := 170) (tgt := 177) C (by first | omega | (have := hsg rp (by omega); omega)) dX2_readCommand_170 (by decide) (fun _ => ?_) (fun h => absurd h (by decide))
          refine r_ic (pc := 177) (v := nI 0) C rfl dX2_readCommand_177 ?_
          subst hQ
          exact e_zW C hr hk rfl (Nat.le_refl _) (Nat.le_refl _) ⟨u9.1, nI (sg rp), nI h6v, u9.2⟩ rfl (Or.inl ⟨_, pc_j2 h1 g h6 h8, rfl, h8u⟩) dX2_readCommand_178
        · have h8b := pn_cases hl (by omega) h8
          refine r_zeqN (pc := 170) (tgt := 177) C (by first | omega | (have := hsg rp (by omega); omega)) dX2_readCommand_170 (by decide) (fun h => absurd h (by decide)) (fun _ => ?_)
          refine r_ic (pc := 173) (v := nI 1) C rfl dX2_readCommand_173 ?_
          refine r_goto (pc := 174) (tgt := 178) C dX2_readCommand_174 (by decide) ?_
          subst hQ
          exact e_zW C hr hk rfl (Nat.le_refl _) (Nat.le_refl _) ⟨u9.1, nI (sg rp), nI h6v, u9.2⟩ rfl (Or.inr ⟨_, _, _, _, pc_j3 h1 g h6 h8, rfl, h8u, congrArg nI g, rfl, fun _ => h8w⟩) dX2_readCommand_178
    · refine r_v (y := nI 104) (congrArg nI g) ?_
      refine r_tsN (pc := 12) (tgt := 179) C (by decide) dX2_readCommand_12 (by decide) ?_
      refine r_aln (pc := 179) C 0 rfl dX2_readCommand_179 ?_
      refine r_dup (pc := 180) C rfl dX2_readCommand_180 ?_
      refine r_get (pc := 181) C iX2_readCommand_X2 0 rfl rfl 2 (by decide) (mw 2 rfl) rfl rfl dX2_readCommand_181 ?_
      refine r_ic (pc := 184) (v := nI 1) C rfl dX2_readCommand_184 ?_
      refine r_iaddN (pc := 185) C dX2_readCommand_185 ?_
      refine r_put (pc := 186) (ws2 := [(ra, cRd rs rl (rp + 1) (nI fst) (nI wid) (nI mid) (nI las) (nI (sg rp)) rn ro), (rs, aN (cT 2) 120 sg)]) C iX2_readCommand_X2 tyX2_ok nmX2 0 rfl rfl 2 (by decide) (mw 2 rfl) rfl rfl rfl rfl (Nat.le_of_ble_eq_true rfl) rfl dX2_readCommand_186 ?_
      refine r_aln (pc := 189) C 0 rfl dX2_readCommand_189 ?_
      refine r_aln (pc := 190) C 0 rfl dX2_readCommand_190 ?_
      refine r_bi (pc := 191) (v := nI 15) C rfl dX2_readCommand_191 ?_
      refine c_WVi (pc := 193) (As := [.int (nI 15)]) (wc := [(ra, cRd rs rl (rp + 1) (nI fst) (nI wid) (nI mid) (nI las) (nI (sg rp)) rn ro), (rs, aN (cT 2) 120 sg)]) (wr := []) (qr := 0) C hA (k_X2_readNumber l D cT ra rs rl (rp + 1) (nI fst) (nI wid) (nI mid) (nI las) (nI (sg rp)) rn ro sg 15 hl (by omega) hsg (by omega)) (cwV 1 C.1.2.2.2.2 gX2_readCommand_X2_readNumber rfl rfl rfl n_X2_readNumber ⟨Nat.le_of_ble_eq_true rfl, Nat.le_of_ble_eq_true rfl⟩) rfl rfl [0, 1] [] rfl rfl ⟨by decide, by decide⟩ (by decide) [0, 1] (fun u11 => [(ra, cRd rs rl u11 (nI fst) (nI wid) (nI mid) (nI las) (nI (sg rp)) rn ro), (rs, aN (cT 2) 120 sg)]) (fun _ => rfl) (by decide) rfl rfl (Nat.le_of_ble_eq_true rfl) ⟨Nat.zero_le _, Nat.zero_le _⟩ dX2_readCommand_193 (fun r193 u11 h10 => ?_)
      rcases h10 with ⟨h10e, h10, rfl, h10u⟩ | ⟨h10v, h10e, h10, rfl, h10u⟩
      · have h10u := h10u.symm
        subst h10u
        have h10b := pn_cases hl (by omega) h10
        refine r_put (pc := 196) (ws2 := [(ra, cRd rs rl h10e (nI fst) (nI wid) (nI mid) (nI las) (nI (sg rp)) (-1) ro), (rs, aN (cT 2) 120 sg)]) C iX2_readCommand_X2 tyX2_ok nmX2 0 rfl rfl 8 (by decide) (mw 5 rfl) rfl rfl rfl rfl (Nat.le_of_ble_eq_true rfl) rfl dX2_readCommand_196 ?_
        refine r_aln (pc := 199) C 0 rfl dX2_readCommand_199 ?_
        refine r_get (pc := 200) C iX2_readCommand_X2 0 rfl rfl 8 (by decide) (mw 5 rfl) rfl rfl dX2_readCommand_200 ?_
        refine r_ic (pc := 203) (v := (-1)) C rfl dX2_readCommand_203 ?_
        refine r_ceq (pc := 204) (tgt := 211) C dX2_readCommand_204 (by decide) (fun c204 => ?_) (fun c204 => absurd c204 (by exact fun h => h rfl))
        refine r_ic (pc := 211) (v := nI 0) C rfl dX2_readCommand_211 ?_
        subst hQ
        exact e_zW C hr hk rfl (Nat.le_refl _) (Nat.le_refl _) ⟨h10e, nI (sg rp), (-1), ro⟩ rfl (Or.inl ⟨_, pc_h1 h1 g h10, rfl, rfl⟩) dX2_readCommand_212
      · have h10u := h10u.symm
        subst h10u
        have h10b := pn_cases hl (by omega) h10
        refine r_put (pc := 196) (ws2 := [(ra, cRd rs rl h10e (nI fst) (nI wid) (nI mid) (nI las) (nI (sg rp)) (nI h10v) ro), (rs, aN (cT 2) 120 sg)]) C iX2_readCommand_X2 tyX2_ok nmX2 0 rfl rfl 8 (by decide) (mw 5 rfl) rfl rfl rfl rfl (Nat.le_of_ble_eq_true rfl) rfl dX2_readCommand_196 ?_
        refine r_aln (pc := 199) C 0 rfl dX2_readCommand_199 ?_
        refine r_get (pc := 200) C iX2_readCommand_X2 0 rfl rfl 8 (by decide) (mw 5 rfl) rfl rfl dX2_readCommand_200 ?_
        refine r_ic (pc := 203) (v := (-1)) C rfl dX2_readCommand_203 ?_
        refine r_ceq (pc := 204) (tgt := 211) C dX2_readCommand_204 (by decide) (fun c204 => absurd c204 (by exact nI_m1 (by omega))) (fun c204 => ?_)
        refine r_ic (pc := 207) (v := nI 1) C rfl dX2_readCommand_207 ?_
        refine r_goto (pc := 208) (tgt := 212) C dX2_readCommand_208 (by decide) ?_
        subst hQ
        exact e_zW C hr hk rfl (Nat.le_refl _) (Nat.le_refl _) ⟨h10e, nI (sg rp), nI h10v, ro⟩ rfl (Or.inr ⟨_, _, _, _, pc_h2 h1 g h10, rfl, rfl, congrArg nI g, rfl, fun h => absurd h (by decide)⟩) dX2_readCommand_212
    · refine r_v (y := nI 98) (congrArg nI g) ?_
      refine r_tsN (pc := 12) (tgt := 213) C (by decide) dX2_readCommand_12 (by decide) ?_
      refine r_aln (pc := 213) C 0 rfl dX2_readCommand_213 ?_
      refine r_dup (pc := 214) C rfl dX2_readCommand_214 ?_
      refine r_get (pc := 215) C iX2_readCommand_X2 0 rfl rfl 2 (by decide) (mw 2 rfl) rfl rfl dX2_readCommand_215 ?_
      refine r_ic (pc := 218) (v := nI 1) C rfl dX2_readCommand_218 ?_
      refine r_iaddN (pc := 219) C dX2_readCommand_219 ?_
      refine r_put (pc := 220) (ws2 := [(ra, cRd rs rl (rp + 1) (nI fst) (nI wid) (nI mid) (nI las) (nI (sg rp)) rn ro), (rs, aN (cT 2) 120 sg)]) C iX2_readCommand_X2 tyX2_ok nmX2 0 rfl rfl 2 (by decide) (mw 2 rfl) rfl rfl rfl rfl (Nat.le_of_ble_eq_true rfl) rfl dX2_readCommand_220 ?_
      refine r_aln (pc := 223) C 0 rfl dX2_readCommand_223 ?_
      refine r_aln (pc := 224) C 0 rfl dX2_readCommand_224 ?_
      refine r_ic (pc := 225) (v := nI 0) C rfl dX2_readCommand_225 ?_
      refine r_aln (pc := 226) C 0 rfl dX2_readCommand_226 ?_
      refine r_get (pc := 227) C iX2_readCommand_X2 0 rfl rfl 5 (by decide) (mw 6 rfl) rfl rfl dX2_readCommand_227 ?_
      refine r_ic (pc := 230) (v := nI 1) C rfl dX2_readCommand_230 ?_
      refine r_isubN (pc := 231) C (by first | omega | (have := hsg rp (by omega); omega)) dX2_readCommand_231 ?_
      refine c_WVi (pc := 232) (As := [.int (nI 0), .int (nI (mid - 1))]) (wc := [(ra, cRd rs rl (rp + 1) (nI fst) (nI wid) (nI mid) (nI las) (nI (sg rp)) rn ro), (rs, aN (cT 2) 120 sg)]) (wr := []) (qr := 0) C hA (k_X2_readDigit l D cT ra rs rl (rp + 1) (nI fst) (nI wid) (nI mid) (nI las) (nI (sg rp)) rn ro sg 0 (mid - 1) hl (by omega) hsg (by omega) (by omega)) (cwV 2 C.1.2.2.2.2 gX2_readCommand_X2_readDigit rfl rfl rfl n_X2_readDigit ⟨Nat.le_of_ble_eq_true rfl, Nat.le_of_ble_eq_true rfl⟩) rfl rfl [0, 1] [] rfl rfl ⟨by decide, by decide⟩ (by decide) [0, 1] (fun u13 => [(ra, cRd rs rl u13 (nI fst) (nI wid) (nI mid) (nI las) (nI (sg rp)) rn ro), (rs, aN (cT 2) 120 sg)]) (fun _ => rfl) (by decide) rfl rfl (Nat.le_of_ble_eq_true rfl) ⟨Nat.zero_le _, Nat.zero_le _⟩ dX2_readCommand_232 (fun r232 u13 h12 => ?_)
      rcases h12 with ⟨h12, rfl, h12u⟩ | ⟨h12d, h12, rfl, h12d2, h12u⟩
      · have h12u := h12u.symm
        subst h12u
        refine r_put (pc := 235) (ws2 := [(ra, cRd rs rl (rp + 1) (nI fst) (nI wid) (nI mid) (nI las) (nI (sg rp)) (-1) ro), (rs, aN (cT 2) 120 sg)]) C iX2_readCommand_X2 tyX2_ok nmX2 0 rfl rfl 8 (by decide) (mw 5 rfl) rfl rfl rfl rfl (Nat.le_of_ble_eq_true rfl) rfl dX2_readCommand_235 ?_
        refine r_aln (pc := 238) C 0 rfl dX2_readCommand_238 ?_
        refine r_get (pc := 239) C iX2_readCommand_X2 0 rfl rfl 8 (by decide) (mw 5 rfl) rfl rfl dX2_readCommand_239 ?_
        refine r_ic (pc := 242) (v := (-1)) C rfl dX2_readCommand_242 ?_
        refine r_ceq (pc := 243) (tgt := 250) C dX2_readCommand_243 (by decide) (fun c243 => ?_) (fun c243 => absurd c243 (by exact fun h => h rfl))
        refine r_ic (pc := 250) (v := nI 0) C rfl dX2_readCommand_250 ?_
        subst hQ
        exact e_zW C hr hk rfl (Nat.le_refl _) (Nat.le_refl _) ⟨rp + 1, nI (sg rp), (-1), ro⟩ rfl (Or.inl ⟨_, pc_b1 h1 g h12, rfl, rfl⟩) dX2_readCommand_251
      · have h12u := h12u.symm
        subst h12u
        refine r_put (pc := 235) (ws2 := [(ra, cRd rs rl ((rp + 1) + 1) (nI fst) (nI wid) (nI mid) (nI las) (nI (sg rp)) (nI h12d) ro), (rs, aN (cT 2) 120 sg)]) C iX2_readCommand_X2 tyX2_ok nmX2 0 rfl rfl 8 (by decide) (mw 5 rfl) rfl rfl rfl rfl (Nat.le_of_ble_eq_true rfl) rfl dX2_readCommand_235 ?_
        refine r_aln (pc := 238) C 0 rfl dX2_readCommand_238 ?_
        refine r_get (pc := 239) C iX2_readCommand_X2 0 rfl rfl 8 (by decide) (mw 5 rfl) rfl rfl dX2_readCommand_239 ?_
        refine r_ic (pc := 242) (v := (-1)) C rfl dX2_readCommand_242 ?_
        refine r_ceq (pc := 243) (tgt := 250) C dX2_readCommand_243 (by decide) (fun c243 => absurd c243 (by exact nI_m1 (by omega))) (fun c243 => ?_)
        refine r_ic (pc := 246) (v := nI 1) C rfl dX2_readCommand_246 ?_
        refine r_goto (pc := 247) (tgt := 251) C dX2_readCommand_247 (by decide) ?_
        subst hQ
        exact e_zW C hr hk rfl (Nat.le_refl _) (Nat.le_refl _) ⟨(rp + 1) + 1, nI (sg rp), nI h12d, ro⟩ rfl (Or.inr ⟨_, _, _, _, pc_b2 h1 g h12, rfl, rfl, congrArg nI g, rfl, fun h => absurd h (by decide)⟩) dX2_readCommand_251
    · refine r_v (y := nI 112) (congrArg nI g) ?_
      refine r_tsN (pc := 12) (tgt := 252) C (by decide) dX2_readCommand_12 (by decide) ?_
      refine r_aln (pc := 252) C 0 rfl dX2_readCommand_252 ?_
      refine r_dup (pc := 253) C rfl dX2_readCommand_253 ?_
      refine r_get (pc := 254) C iX2_readCommand_X2 0 rfl rfl 2 (by decide) (mw 2 rfl) rfl rfl dX2_readCommand_254 ?_
      refine r_ic (pc := 257) (v := nI 1) C rfl dX2_readCommand_257 ?_
      refine r_iaddN (pc := 258) C dX2_readCommand_258 ?_
      refine r_put (pc := 259) (ws2 := [(ra, cRd rs rl (rp + 1) (nI fst) (nI wid) (nI mid) (nI las) (nI (sg rp)) rn ro), (rs, aN (cT 2) 120 sg)]) C iX2_readCommand_X2 tyX2_ok nmX2 0 rfl rfl 2 (by decide) (mw 2 rfl) rfl rfl rfl rfl (Nat.le_of_ble_eq_true rfl) rfl dX2_readCommand_259 ?_
      refine r_aln (pc := 262) C 0 rfl dX2_readCommand_262 ?_
      refine r_aln (pc := 263) C 0 rfl dX2_readCommand_263 ?_
      refine r_ic (pc := 264) (v := nI 0) C rfl dX2_readCommand_264 ?_
      refine r_ic (pc := 265) (v := nI 3) C rfl dX2_readCommand_265 ?_
      refine c_WVi (pc := 266) (As := [.int (nI 0), .int (nI 3)]) (wc := [(ra, cRd rs rl (rp + 1) (nI fst) (nI wid) (nI mid) (nI las) (nI (sg rp)) rn ro), (rs, aN (cT 2) 120 sg)]) (wr := []) (qr := 0) C hA (k_X2_readDigit l D cT ra rs rl (rp + 1) (nI fst) (nI wid) (nI mid) (nI las) (nI (sg rp)) rn ro sg 0 3 hl (by omega) hsg (by omega) (by omega)) (cwV 2 C.1.2.2.2.2 gX2_readCommand_X2_readDigit rfl rfl rfl n_X2_readDigit ⟨Nat.le_of_ble_eq_true rfl, Nat.le_of_ble_eq_true rfl⟩) rfl rfl [0, 1] [] rfl rfl ⟨by decide, by decide⟩ (by decide) [0, 1] (fun u15 => [(ra, cRd rs rl u15 (nI fst) (nI wid) (nI mid) (nI las) (nI (sg rp)) rn ro), (rs, aN (cT 2) 120 sg)]) (fun _ => rfl) (by decide) rfl rfl (Nat.le_of_ble_eq_true rfl) ⟨Nat.zero_le _, Nat.zero_le _⟩ dX2_readCommand_266 (fun r266 u15 h14 => ?_)
      rcases h14 with ⟨h14, rfl, h14u⟩ | ⟨h14d, h14, rfl, h14d2, h14u⟩
      · have h14u := h14u.symm
        subst h14u
        refine r_put (pc := 269) (ws2 := [(ra, cRd rs rl (rp + 1) (nI fst) (nI wid) (nI mid) (nI las) (nI (sg rp)) (-1) ro), (rs, aN (cT 2) 120 sg)]) C iX2_readCommand_X2 tyX2_ok nmX2 0 rfl rfl 8 (by decide) (mw 5 rfl) rfl rfl rfl rfl (Nat.le_of_ble_eq_true rfl) rfl dX2_readCommand_269 ?_
        refine r_aln (pc := 272) C 0 rfl dX2_readCommand_272 ?_
        refine r_get (pc := 273) C iX2_readCommand_X2 0 rfl rfl 8 (by decide) (mw 5 rfl) rfl rfl dX2_readCommand_273 ?_
        refine r_ic (pc := 276) (v := (-1)) C rfl dX2_readCommand_276 ?_
        refine r_ceq (pc := 277) (tgt := 284) C dX2_readCommand_277 (by decide) (fun c277 => ?_) (fun c277 => absurd c277 (by exact fun h => h rfl))
        refine r_ic (pc := 284) (v := nI 0) C rfl dX2_readCommand_284 ?_
        subst hQ
        exact e_zW C hr hk rfl (Nat.le_refl _) (Nat.le_refl _) ⟨rp + 1, nI (sg rp), (-1), ro⟩ rfl (Or.inl ⟨_, pc_p1 h1 g h14, rfl, rfl⟩) dX2_readCommand_285
      · have h14u := h14u.symm
        subst h14u
        refine r_put (pc := 269) (ws2 := [(ra, cRd rs rl ((rp + 1) + 1) (nI fst) (nI wid) (nI mid) (nI las) (nI (sg rp)) (nI h14d) ro), (rs, aN (cT 2) 120 sg)]) C iX2_readCommand_X2 tyX2_ok nmX2 0 rfl rfl 8 (by decide) (mw 5 rfl) rfl rfl rfl rfl (Nat.le_of_ble_eq_true rfl) rfl dX2_readCommand_269 ?_
        refine r_aln (pc := 272) C 0 rfl dX2_readCommand_272 ?_
        refine r_get (pc := 273) C iX2_readCommand_X2 0 rfl rfl 8 (by decide) (mw 5 rfl) rfl rfl dX2_readCommand_273 ?_
        refine r_ic (pc := 276) (v := (-1)) C rfl dX2_readCommand_276 ?_
        refine r_ceq (pc := 277) (tgt := 284) C dX2_readCommand_277 (by decide) (fun c277 => absurd c277 (by exact nI_m1 (by omega))) (fun c277 => ?_)
        refine r_ic (pc := 280) (v := nI 1) C rfl dX2_readCommand_280 ?_
        refine r_goto (pc := 281) (tgt := 285) C dX2_readCommand_281 (by decide) ?_
        subst hQ
        exact e_zW C hr hk rfl (Nat.le_refl _) (Nat.le_refl _) ⟨(rp + 1) + 1, nI (sg rp), nI h14d, ro⟩ rfl (Or.inr ⟨_, _, _, _, pc_p2 h1 g h14, rfl, rfl, congrArg nI g, rfl, fun h => absurd h (by decide)⟩) dX2_readCommand_285
    · refine r_tsN (pc := 12) (tgt := 286) C (by first | omega | (have := hsg rp (by omega); omega)) dX2_readCommand_12 (ts_rc (sg rp) (hsg rp (by omega)) g) ?_
      refine r_ic (pc := 286) (v := nI 0) C rfl dX2_readCommand_286 ?_
      subst hQ
      exact e_zW C hr hk rfl (Nat.le_refl _) (Nat.le_refl _) ⟨rp, nI (sg rp), rn, ro⟩ rfl (Or.inl ⟨_, pc_n h1 g, rfl, rfl⟩) dX2_readCommand_287
  · refine r_put (pc := 5) (ws2 := [(ra, cRd rs rl rp (nI fst) (nI wid) (nI mid) (nI las) (-1) rn ro), (rs, aN (cT 2) 120 sg)]) C iX2_readCommand_X2 tyX2_ok nmX2 0 rfl rfl 7 (by decide) (mw 1 rfl) rfl rfl rfl rfl (Nat.le_of_ble_eq_true rfl) rfl dX2_readCommand_5 ?_
    refine r_aln (pc := 8) C 0 rfl dX2_readCommand_8 ?_
    refine r_get (pc := 9) C iX2_readCommand_X2 0 rfl rfl 7 (by decide) (mw 1 rfl) rfl rfl dX2_readCommand_9 ?_
    refine r_tsOut (pc := 12) (tgt := 286) C dX2_readCommand_12 (Or.inl (by decide)) (by decide) ?_
    refine r_ic (pc := 286) (v := nI 0) C rfl dX2_readCommand_286 ?_
    subst hQ
    exact e_zW C hr hk rfl (Nat.le_refl _) (Nat.le_refl _) ⟨rp, (-1), rn, ro⟩ rfl (Or.inl ⟨_, pc_e (by omega), rfl, rfl⟩) dX2_readCommand_287

theorem iX2_findError_X2 : ∀ w ∈ u_ws RX2 TX2 10, w ∈ wsX2_findError := by decide +kernel
abbrev rmX2_findError : Room := { frames := 5, cells := 0, slots := 0, locals := 106 }
theorem n_X2_findError : yX2_findError.cls = RX2 ∧ yX2_findError.cls ≠ "java/lang/invoke/MethodHandle" ∧ yX2_findError.cls ≠ "java/lang/invoke/VarHandle" ∧ (parseMethodDescriptor yX2_findError.desc).map (fun d => d.parameters.length) = some 0 := by decide +kernel
set_option maxHeartbeats 4000000 in
set_option maxRecDepth 100000 in
theorem k_X2_findError (l : Launch) (D : va_G) (cT : Nat → ClassId) (ra rs rl rp : Nat) (rf rw0 rm0 rla rle rn ro : Int32) (sg : Nat → Nat) (hl : rl ≤ 120) (hsg : ∀ k, k < 120 → sg k < 256) : MWi (S := Nat × Int32 × Int32 × Int32 × Int32 × Int32 × Int32 × Int32) l D cT yX2_findError wsX2_findError rmX2_findError [.ref ra] [(ra, cRd rs rl rp rf rw0 rm0 rla rle rn ro), (rs, aN (cT 2) 120 sg)] (fun r u => (∃ e, PB4 rl sg = (false, e, 0, 0, 0, 0) ∧ r = nI e) ∨ ∃ a b c d, PB4 rl sg = (true, 5, a, b, c, d) ∧ ((∃ e, PE (a * b) c (d * b) rl sg 120 5 = some e ∧ r = nI e) ∨ (PE (a * b) c (d * b) rl sg 120 5 = none ∧ r = -1))) (fun u => [(ra, cRd rs rl u.1 u.2.1 u.2.2.1 u.2.2.2.1 u.2.2.2.2.1 u.2.2.2.2.2.1 u.2.2.2.2.2.2.1 u.2.2.2.2.2.2.2), (rs, aN (cT 2) 120 sg)]) 0 0 := by
  refine m_Wi [(0, .ref ra)] (by decide +kernel) rfl (Nat.le_of_ble_eq_true rfl) rfl ?_
  intro p e s m args below meth c A hAe C hA hr hk hnm_
  generalize hQ : MQ below (va_Qi _ _ A) args s 0 0 A = Q
  refine r_aln (pc := 0) C 0 rfl dX2_findError_0 ?_
  refine c_WVi (pc := 1) (As := []) (wc := [(ra, cRd rs rl rp rf rw0 rm0 rla rle rn ro), (rs, aN (cT 2) 120 sg)]) (wr := []) (qr := 0) C hA (k_X2_readBoards l D cT ra rs rl rp rf rw0 rm0 rla rle rn ro sg hl hsg) (cwV 0 C.1.2.2.2.2 gX2_findError_X2_readBoards rfl rfl rfl n_X2_readBoards ⟨Nat.le_of_ble_eq_true rfl, Nat.le_of_ble_eq_true rfl⟩) rfl rfl [0, 1] [] rfl rfl ⟨by decide, by decide⟩ (by decide) [0, 1] (fun u2 => [(ra, cRd rs rl u2.1 u2.2.1 u2.2.2.1 u2.2.2.2.1 u2.2.2.2.2 rle rn ro), (rs, aN (cT 2) 120 sg)]) (fun _ => rfl) (by decide) rfl rfl (Nat.le_of_ble_eq_true rfl) ⟨Nat.zero_le _, Nat.zero_le _⟩ dX2_findError_1 (fun r1 u2 h1 => ?_)
  rcases h1 with ⟨h1e, h1, rfl, h1u⟩ | ⟨h1a, h1b, h1c, h1d, h1, rfl, h1u, h1f, h1w, h1m, h1l⟩
  · refine r_zneN (pc := 4) (tgt := 12) C (by omega) dX2_findError_4 (by decide) (fun h => absurd h (by decide)) (fun _ => ?_)
    refine r_aln (pc := 7) C 0 rfl dX2_findError_7 ?_
    refine r_get (pc := 8) C iX2_findError_X2 0 rfl rfl 2 (by decide) (mw 1 rfl) rfl rfl dX2_findError_8 ?_
    subst hQ
    exact e_iW C hr hk (Nat.le_refl _) (Nat.le_refl _) ⟨u2.1, u2.2.1, u2.2.2.1, u2.2.2.2.1, u2.2.2.2.2, rle, rn, ro⟩ rfl (Or.inl ⟨_, h1, congrArg nI h1u⟩) dX2_findError_11
  · obtain ⟨q1, q2, q3, q4, q5⟩ := pb4_bd h1
    refine r_ws (ws2 := [(ra, cRd rs rl 5 (nI h1a) (nI h1b) (nI h1c) (nI h1d) rle rn ro), (rs, aN (cT 2) 120 sg)]) (by rw [h1u, h1f, h1w, h1m, h1l]) ?_
    refine r_zneN (pc := 4) (tgt := 12) C (by omega) dX2_findError_4 (by decide) (fun _ => ?_) (fun h => absurd h (by decide))
    refine r_ic (pc := 12) (v := nI 0) C rfl dX2_findError_12 ?_
    refine r_isn (pc := 13) C [1, 0] [(0, .ref ra), (1, .int (nI 0))] rfl (by decide) rfl dX2_findError_13 ?_
    have L14 : ∀ (n14 : Nat) (i : Nat) (p1 : Nat) (x1 : Int32) (x2 : Int32) (x3 : Int32) (hi2 : i ≤ 120) (hp1 : p1 ≤ 120) (hE : PE (h1a * h1b) h1c (h1d * h1b) rl sg 120 5 = PE (h1a * h1b) h1c (h1d * h1b) rl sg (120 - i) p1), 120 - i < n14 → RW p l e (headSpec wsX2_findError rmX2_findError).room s m args below meth c (IW s D A) 2 0 0 Q [(ra, cRd rs rl p1 (nI h1a) (nI h1b) (nI h1c) (nI h1d) x1 x2 x3), (rs, aN (cT 2) 120 sg)] 14 [(0, .ref ra), (1, .int (nI i))] [] := by
      intro n14
      induction n14 with
      | zero => intro i p1 x1 x2 x3 hi2 hp1 hE hn14; exact absurd hn14 (Nat.not_lt_zero _)
      | succ n14 ih14 =>
        intro i p1 x1 x2 x3 hi2 hp1 hE hn14
        refine r_iln (pc := 14) C 1 rfl dX2_findError_14 ?_
        refine r_bi (pc := 15) (v := nI 120) C rfl dX2_findError_15 ?_
        refine r_cgeN (pc := 17) (tgt := 49) C (by omega) (by omega) dX2_findError_17 (by decide) (fun c17 => ?_) (fun c17 => ?_)
        · refine r_ic (pc := 49) (v := (-1)) C rfl dX2_findError_49 ?_
          subst hQ
          exact e_iW C hr hk (Nat.le_refl _) (Nat.le_refl _) ⟨p1, nI h1a, nI h1b, nI h1c, nI h1d, x1, x2, x3⟩ rfl (Or.inr ⟨_, _, _, _, h1, Or.inr ⟨hE.trans (by rw [show 120 - i = 0 by omega]; rfl), rfl⟩⟩) dX2_findError_50
        · refine r_aln (pc := 20) C 0 rfl dX2_findError_20 ?_
          refine r_get (pc := 21) C iX2_findError_X2 0 rfl rfl 2 (by decide) (mw 1 rfl) rfl rfl dX2_findError_21 ?_
          refine r_aln (pc := 24) C 0 rfl dX2_findError_24 ?_
          refine r_get (pc := 25) C iX2_findError_X2 0 rfl rfl 1 (by decide) (mw 2 rfl) rfl rfl dX2_findError_25 ?_
          refine r_cgeN (pc := 28) (tgt := 49) C (by omega) (by omega) dX2_findError_28 (by decide) (fun c28 => ?_) (fun c28 => ?_)
          · refine r_ic (pc := 49) (v := (-1)) C rfl dX2_findError_49 ?_
            subst hQ
            exact e_iW C hr hk (Nat.le_refl _) (Nat.le_refl _) ⟨p1, nI h1a, nI h1b, nI h1c, nI h1d, x1, x2, x3⟩ rfl (Or.inr ⟨_, _, _, _, h1, Or.inr ⟨hE.trans (pe_end (by omega)), rfl⟩⟩) dX2_findError_50
          · refine r_aln (pc := 31) C 0 rfl dX2_findError_31 ?_
            refine c_WVi (pc := 32) (As := []) (wc := [(ra, cRd rs rl p1 (nI h1a) (nI h1b) (nI h1c) (nI h1d) x1 x2 x3), (rs, aN (cT 2) 120 sg)]) (wr := []) (qr := 0) C hA (k_X2_readCommand l D cT ra rs rl p1 x1 x2 x3 sg h1a h1b h1c h1d hl hp1 hsg q1 q2 q3 q4) (cwV 0 C.1.2.2.2.2 gX2_findError_X2_readCommand rfl rfl rfl n_X2_readCommand ⟨Nat.le_of_ble_eq_true rfl, Nat.le_of_ble_eq_true rfl⟩) rfl rfl [0, 1] [] rfl rfl ⟨by decide, by decide⟩ (by decide) [0, 1] (fun u4 => [(ra, cRd rs rl u4.1 (nI h1a) (nI h1b) (nI h1c) (nI h1d) u4.2.1 u4.2.2.1 u4.2.2.2), (rs, aN (cT 2) 120 sg)]) (fun _ => rfl) (by decide) rfl rfl (Nat.le_of_ble_eq_true rfl) ⟨Nat.zero_le _, Nat.zero_le _⟩ dX2_findError_32 (fun r32 u4 h3 => ?_)
            rcases h3 with ⟨h3e, h3, rfl, h3u⟩ | ⟨h3e, h3l, h3a, h3b, h3, rfl, h3u, h3v, h3w, h3x⟩
            · refine r_zneN (pc := 35) (tgt := 43) C (by omega) dX2_findError_35 (by decide) (fun h => absurd h (by decide)) (fun _ => ?_)
              refine r_aln (pc := 38) C 0 rfl dX2_findError_38 ?_
              refine r_get (pc := 39) C iX2_findError_X2 0 rfl rfl 2 (by decide) (mw 1 rfl) rfl rfl dX2_findError_39 ?_
              subst hQ
              exact e_iW C hr hk (Nat.le_refl _) (Nat.le_refl _) ⟨u4.1, nI h1a, nI h1b, nI h1c, nI h1d, u4.2.1, u4.2.2.1, u4.2.2.2⟩ rfl (Or.inr ⟨_, _, _, _, h1, Or.inl ⟨_, (by rw [hE, show 120 - i = (119 - i) + 1 by omega]; exact pe_bad (by omega) h3), congrArg nI h3u⟩⟩) dX2_findError_42
            · have h3o := pc_ok hl (by omega) h3
              refine r_ws (ws2 := [(ra, cRd rs rl h3e (nI h1a) (nI h1b) (nI h1c) (nI h1d) (nI h3l) (nI h3a) u4.2.2.2), (rs, aN (cT 2) 120 sg)]) (by rw [h3u, h3v, h3w]) ?_
              refine r_zneN (pc := 35) (tgt := 43) C (by omega) dX2_findError_35 (by decide) (fun _ => ?_) (fun h => absurd h (by decide))
              refine r_incN (pc := 43) C 1 [1, 0] [(0, .ref ra), (1, .int (nI (i + 1)))] rfl (by decide) rfl dX2_findError_43 ?_
              refine r_goto (pc := 46) (tgt := 14) C dX2_findError_46 (by decide) ?_
              exact ih14 (i + 1) h3e (nI h3l) (nI h3a) u4.2.2.2 (by omega) (by omega) (by rw [hE, show 120 - i = (119 - i) + 1 by omega, pe_go (by omega) h3, show 119 - i = 120 - (i + 1) by omega]) (by omega)
    exact L14 _ 0 5 rle rn ro (by omega) (by omega) rfl (Nat.lt_succ_self _)

