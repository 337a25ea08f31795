/-! placing all calls on the first few boards -/
def EX (n : Nat) (al : Nat → Bool) (fr to : Nat → Nat) (ph : Nat) (tr : Nat → Int32) (π : Nat → Nat) : Prop := Val n al fr to π ∧ Ag n ph tr π
def TR1 (n ph : Nat) (bf tr tr1 : Nat → Int32) : Prop := (∀ c, c < n → ph.testBit c = true → tr1 c = tr c) ∧ ∀ c, c < n → ph.testBit c = false → tr1 c = bf c
section Place
variable {n bn : Nat} {al : Nat → Bool} {fr to : Nat → Nat} {bf : Nat → Int32} {ph ca mb : Nat} {tr tr1 tr3 : Nat → Int32} {hf ht : Nat → Nat}
theorem pl_full (hn : n ≤ 16) (hI : PI n (-1) al fr to bf (HD ph) tr hf ht) (hB : PB n (-1) fr to bf) (h : ∀ c, c < n → ph.testBit c = true) : ∃ π, EX n al fr to ph tr π := by
  obtain ⟨h1, -, h3⟩ := pi_leaf hn hI hB (fun c hc e => absurd e (nI_m1 (by omega))) (fun c hc => Or.inl (h c hc))
  exact ⟨_, h1, fun c hc _ => h3 c hc⟩
theorem ex_ext (hf0 : ∀ c, c < n → fr c ≠ 0) (hI : PI n (-1) al fr to bf (HD ph) tr hf ht) {π : Nat → Nat} (hE : EX n al fr to ph tr π) {c : Nat} (hc : c < n) (hh : ph.testBit c = true) : hf (π c) ≠ 0 := by
  intro e
  have h4 := (hE.1 c hc).1
  have e2 := hE.2 c hc hh
  apply hf0 c hc
  apply Nat.eq_of_testBit_eq
  intro i
  rw [Nat.zero_testBit]
  cases g : (fr c).testBit i
  · rfl
  · have := (hI.2.2.1 _ h4 i).mpr ⟨c, hh, e2, g⟩
    rw [e] at this; simp at this
def sw (a b j : Nat) : Nat := if j = a then b else if j = b then a else j
theorem sw_lt {a b j : Nat} (ha : a < 4) (hb : b < 4) (hj : j < 4) : sw a b j < 4 := by unfold sw; split; omega; split <;> omega
theorem sw_inj {a b i j : Nat} (h : sw a b i = sw a b j) : i = j := by
  unfold sw at h
  repeat' split at h
  all_goals omega
theorem ex_swap (hal : ∀ j, al j = decide (j < bn)) (hf0 : ∀ c, c < n → fr c ≠ 0) (hI : PI n (-1) al fr to bf (HD ph) tr hf ht) {π : Nat → Nat} (hE : EX n al fr to ph tr π) {a b : Nat} (hab : a < b) (hb : b < bn) (hb4 : b < 4) (ea : hf a = 0) (eb : hf b = 0) : EX n al fr to ph tr (fun c => sw a b (π c)) := by
  refine ⟨fun c hc => ?_, fun c hc hh => ?_⟩
  · obtain ⟨h1, h2, h3⟩ := hE.1 c hc
    refine ⟨sw_lt (by omega) hb4 h1, ?_, fun d hd e => h3 d hd (sw_inj e)⟩
    rw [hal] at h2 ⊢
    have h2 : π c < bn := by simpa using h2
    have : sw a b (π c) < bn := by unfold sw; split; omega; split <;> omega
    simpa using this
  · have h1 := ex_ext hf0 hI hE hc hh
    have e1 : π c ≠ a := fun e => h1 (by rw [e]; exact ea)
    have e2 : π c ≠ b := fun e => h1 (by rw [e]; exact eb)
    show tr c = nI (sw a b (π c))
    rw [show sw a b (π c) = π c by unfold sw; rw [if_neg e1, if_neg e2]]
    exact hE.2 c hc hh
/-- nobody goes on at this board, or at a later one, if this one is empty -/
theorem ex_none (hal : ∀ j, al j = decide (j < bn)) (hf0 : ∀ c, c < n → fr c ≠ 0) (hI : PI n (-1) al fr to bf (HD ph) tr hf ht) (hca : ca < n) (hmb : mb < 4) (hpre : ∀ i j, i ≤ j → j < 4 → hf i = 0 → hf j = 0) (he : hf mb = 0) (hno : ∀ π, EX n al fr to ph tr π → ¬ π ca < mb) (hno2 : ∀ π, EX n al fr to ph tr π → π ca ≠ mb) : ¬ ∃ π, EX n al fr to ph tr π := by
  rintro ⟨π, hE⟩
  have h1 := hno π hE
  have h2 := hno2 π hE
  obtain ⟨h3, h4, -⟩ := hE.1 ca hca
  rw [hal] at h4
  have h4 : π ca < bn := by simpa using h4
  have hs := ex_swap hal hf0 hI hE (a := mb) (b := π ca) (by omega) h4 h3 he (hpre mb _ (by omega) h3 he)
  apply hno2 _ hs
  show sw mb (π ca) (π ca) = mb
  unfold sw
  rw [if_neg (by omega), if_pos rfl]
theorem ex_child (hI : PI n (-1) al fr to bf (HD ph) tr hf ht) (hun : ph.testBit ca = false) (h1 : TR1 n ph bf tr tr1) {π : Nat → Nat} : EX n al fr to (ph ||| 2 ^ ca) (upd tr1 ca (nI mb)) π → EX n al fr to ph tr π := by
  rintro ⟨hv, ha⟩
  refine ⟨hv, fun c hc hh => ?_⟩
  have e : c ≠ ca := fun e => by rw [e, hun] at hh; cases hh
  have := ha c hc (by rw [congrFun (hd_or ph ca) c, hh]; rfl)
  rw [pk_un e, h1.1 c hc hh] at this
  exact this
theorem ex_child2 (hca : ca < n) (h1 : TR1 n ph bf tr tr1) {π : Nat → Nat} (hE : EX n al fr to ph tr π) (e : π ca = mb) : EX n al fr to (ph ||| 2 ^ ca) (upd tr1 ca (nI mb)) π := by
  refine ⟨hE.1, fun c hc hh => ?_⟩
  by_cases ec : c = ca
  · subst ec; rw [pk_us, e]
  · rw [pk_un ec]
    rw [congrFun (hd_or ph ca) c] at hh
    have hh' : ph.testBit c = true := by simpa [ec] using hh
    rw [h1.1 c hc hh']
    exact hE.2 c hc hh'
theorem ex_nofit (hI : PI n (-1) al fr to bf (HD ph) tr hf ht) (hca : ca < n) (hun : ph.testBit ca = false) (hno : ¬ Fits al fr to hf ht ca (nI mb)) : ∀ π, EX n al fr to ph tr π → π ca ≠ mb := by
  intro π hE e
  have := ag_fits (hd := HD ph) hI hE.1 (fun c hc hh => hE.2 c hc hh) hca hun
  rw [e] at this
  exact hno this
theorem tr1_same (hI : PI n (-1) al fr to bf (HD ph) tr hf ht) (hn : n ≤ 16) : TR1 n ph bf tr tr := ⟨fun _ _ _ => rfl, fun c hc hh => hI.2.2.2.2.2 c hc hh (nI_m1 (by omega))⟩
theorem pi_tr1 (hI : PI n (-1) al fr to bf (HD ph) tr hf ht) (h1 : TR1 n ph bf tr tr1) : PI n (-1) al fr to bf (HD ph) tr1 hf ht := pi_same hI h1.1 (fun c hc hh _ => h1.2 c hc hh)
theorem tr1_back (hun : ph.testBit ca = false) (h1 : TR1 n ph bf tr tr1) (h3 : TR1 n (ph ||| 2 ^ ca) bf (upd tr1 ca (nI mb)) tr3) : TR1 n ph bf tr (upd tr3 ca (bf ca)) := by
  have b1 : ∀ c, (ph ||| 2 ^ ca).testBit c = (ph.testBit c || decide (c = ca)) := fun c => congrFun (hd_or ph ca) c
  refine ⟨fun c hc hh => ?_, fun c hc hh => ?_⟩
  · have ec : c ≠ ca := fun e => by rw [e, hun] at hh; cases hh
    rw [pk_un ec, h3.1 c hc (by rw [b1 c, hh]; rfl), pk_un ec]
    exact h1.1 c hc hh
  · by_cases ec : c = ca
    · subst ec; exact pk_us
    · rw [pk_un ec]
      exact h3.2 c hc (by rw [b1 c, hh]; simp [ec])
theorem hh_child (hH : ∀ k, ph.testBit k = true ↔ k < ca) : ∀ k, (ph ||| 2 ^ ca).testBit k = true ↔ k < ca + 1 := by
  intro k
  rw [congrFun (hd_or ph ca) k, Bool.or_eq_true, hH k]
  simp only [decide_eq_true_eq]; omega
theorem hh_un (hH : ∀ k, ph.testBit k = true ↔ k < ca) : ph.testBit ca = false := by
  cases g : ph.testBit ca
  · rfl
  · exact absurd ((hH ca).mp g) (Nat.lt_irrefl _)
theorem pre_child (hf0 : fr ca ≠ 0) (hpre : ∀ i j, i ≤ j → j < 4 → hf i = 0 → hf j = 0) (hmb : mb < 4) (hne : ∀ j, j < mb → hf j ≠ 0) : ∀ i j, i ≤ j → j < 4 → va_up hf mb (hf mb ||| fr ca) i = 0 → va_up hf mb (hf mb ||| fr ca) j = 0 := by
  have hor : hf mb ||| fr ca ≠ 0 := by
    intro e
    apply hf0
    apply Nat.eq_of_testBit_eq
    intro i
    have : (hf mb ||| fr ca).testBit i = false := by rw [e]; simp
    rw [Nat.testBit_or] at this
    simp at this
    rw [this.2, Nat.zero_testBit]
  intro i j hij hj h
  unfold va_up at h ⊢
  by_cases e : i = mb
  · rw [if_pos e] at h; exact absurd h hor
  · rw [if_neg e] at h
    have h1 : ¬ i < mb := fun g => hne i g h
    rw [if_neg (by omega)]
    exact hpre i j hij hj h
end Place
theorem al_bn (bn : Nat) : (fun j => (2 ^ bn - 1).testBit j) = fun j => decide (j < bn) := by
  funext j; rw [Nat.testBit_two_pow_sub_one]
theorem val_al {n : Nat} {al al' : Nat → Bool} {fr to π : Nat → Nat} (h : ∀ j, j < 4 → al j = al' j) (g : Val n al fr to π) : Val n al' fr to π := fun c hc => ⟨(g c hc).1, by rw [← h _ (g c hc).1]; exact (g c hc).2.1, (g c hc).2.2⟩
theorem ex_0 {n : Nat} {al : Nat → Bool} {fr to π : Nat → Nat} {tr : Nat → Int32} : EX n al fr to 0 tr π ↔ Val n al fr to π := ⟨fun h => h.1, fun h => ⟨h, fun c _ hh => by simp at hh⟩⟩
theorem wd_res {cnt bn wid : Nat} {inp outs brd F0 T0 : Nat → Nat} {B0 R0 tr : Nat → Int32} {r : Int32} (e1 : ∀ c, c < cnt → F0 c = 2 ^ (inp c / wid) ∧ T0 c = lbs wid (outs c) ∧ B0 c = nI (brd c) ∧ R0 c = nI (brd c)) (h : (r = nI 1 ∧ ∃ π, EX cnt (fun j => (2 ^ bn - 1).testBit j) F0 T0 0 tr π) ∨ (r = nI 0 ∧ ¬ ∃ π, EX cnt (fun j => (2 ^ bn - 1).testBit j) F0 T0 0 tr π)) :
    (r = nI 1 ∧ ∃ π, Val cnt (fun j => decide (j < bn)) (fun c => 2 ^ (inp c / wid)) (fun c => lbs wid (outs c)) π) ∨ (r = nI 0 ∧ ¬ ∃ π, Val cnt (fun j => decide (j < bn)) (fun c => 2 ^ (inp c / wid)) (fun c => lbs wid (outs c)) π) := by
  rw [al_bn] at h
  have iff : (∃ π, EX cnt (fun j => decide (j < bn)) F0 T0 0 tr π) ↔ ∃ π, Val cnt (fun j => decide (j < bn)) (fun c => 2 ^ (inp c / wid)) (fun c => lbs wid (outs c)) π :=
    ⟨fun ⟨π, g⟩ => ⟨π, val_eq (fun c hc => (e1 c hc).1) (fun c hc => (e1 c hc).2.1) (ex_0.mp g)⟩, fun ⟨π, g⟩ => ⟨π, ex_0.mpr (val_eq (fun c hc => (e1 c hc).1.symm) (fun c hc => (e1 c hc).2.1.symm) g)⟩⟩
  rw [iff] at h
  exact h

theorem iX1_placed_X1 : ∀ w ∈ u_ws RX1 TX1 13, w ∈ wsX1_placed := by decide +kernel
abbrev rmX1_placed (r : Nat) : Room := { frames := r + 8, cells := 0, slots := 0, locals := 25 * r + 200 }
theorem n_X1_placed : yX1_placed.cls ≠ "java/lang/invoke/MethodHandle" ∧ yX1_placed.cls ≠ "java/lang/invoke/VarHandle" ∧ (parseMethodDescriptor yX1_placed.desc).map (fun d => d.parameters.length) = some 2 := by decide +kernel
set_option maxHeartbeats 4000000 in
set_option maxRecDepth 100000 in
theorem k_X1_placed (l : Launch) (D : va_G) (cT : Nat → ClassId) : ∀ (r : Nat) (q pn : Nat) (pa : Int32) (qf qt qb qr ph qhf qht pl pm : Nat) (pb : Int32) (qs : Nat) (pfr pto : Nat → Nat) (pbf ptr : Nat → Int32) (phf pht : Nat → Nat) (ca : Nat) (bn : Nat) (hr0 : 16 < ca + r) (hP : PQ pn ph pl pm pfr pto phf pht) (hcn : ca ≤ pn) (hH : ∀ k, ph.testBit k = true ↔ k < ca) (hI : PI pn (-1) (fun j => pl.testBit j) pfr pto pbf (HD ph) ptr phf pht) (hB : PB pn (-1) pfr pto pbf) (hal : ∀ j, pl.testBit j = decide (j < bn)) (hf0 : ∀ c, c < pn → pfr c ≠ 0) (hpre : ∀ i j, i ≤ j → j < 4 → phf i = 0 → phf j = 0), MWi (S := (Nat → Int32)) l D cT yX1_placed wsX1_placed (rmX1_placed r) [.ref q, .int (nI ca)] [(q, cPl pn pa qf qt qb qr ph qhf qht pl pm pb qs), (qf, aN (cT 0) 16 pfr), (qt, aN (cT 0) 16 pto), (qb, aI (cT 0) 16 pbf), (qr, aI (cT 0) 16 ptr), (qhf, aN (cT 0) 4 phf), (qht, aN (cT 0) 4 pht)] (fun r u => ((r = nI 1 ∧ ∃ π, EX pn (fun j => pl.testBit j) pfr pto ph ptr π) ∨ (r = nI 0 ∧ ¬ ∃ π, EX pn (fun j => pl.testBit j) pfr pto ph ptr π)) ∧ TR1 pn ph pbf ptr u) (fun u => [(q, cPl pn pa qf qt qb qr ph qhf qht pl pm pb qs), (qf, aN (cT 0) 16 pfr), (qt, aN (cT 0) 16 pto), (qb, aI (cT 0) 16 pbf), (qr, aI (cT 0) 16 u), (qhf, aN (cT 0) 4 phf), (qht, aN (cT 0) 4 pht)]) 0 0 := by
  intro r
  induction r with
  | zero => intro q pn pa qf qt qb qr ph qhf qht pl pm pb qs pfr pto pbf ptr phf pht ca bn hr0 hP hcn hH hI hB hal hf0 hpre; exact absurd (Nat.le_trans hcn hP.1) (by omega)
  | succ r ih =>
    intro q pn pa qf qt qb qr ph qhf qht pl pm pb qs pfr pto pbf ptr phf pht ca bn hr0 hP hcn hH hI hB hal hf0 hpre
    refine m_Wi [(0, .ref q), (1, .int (nI ca))] (by decide +kernel) rfl (Nat.le_of_ble_eq_true rfl) rfl ?_
    intro p e s m args below meth c A hAe C hA hr hk hnm_
    generalize hQ : MQ below (va_Qi _ _ A) args s 0 0 A = Q
    obtain ⟨hn16, hph, hpl, hpm, hfr, hhf⟩ := id hP
    refine r_iln (pc := 0) C 1 rfl dX1_placed_0 ?_
    refine r_aln (pc := 1) C 0 rfl dX1_placed_1 ?_
    refine r_get (pc := 2) C iX1_placed_X1 0 rfl rfl 0 (by decide) (mw 1 rfl) rfl rfl dX1_placed_2 ?_
    refine r_cgeN (pc := 5) (tgt := 14) C (by omega) (by omega) dX1_placed_5 (by decide) (fun c5 => ?_) (fun c5 => ?_)
    · refine r_ic (pc := 14) (v := nI 1) C rfl dX1_placed_14 ?_
      subst hQ
      exact e_zW C hr hk rfl (Nat.le_refl _) (Nat.le_refl _) ptr rfl (⟨Or.inl ⟨rfl, pl_full hn16 hI hB (fun c hc => (hH c).mpr (by omega))⟩, tr1_same hI hn16⟩) dX1_placed_15
    · refine r_iln (pc := 8) C 1 rfl dX1_placed_8 ?_
      refine r_bi (pc := 9) (v := nI 16) C rfl dX1_placed_9 ?_
      refine r_cltN (pc := 11) (tgt := 16) C (by omega) (by omega) dX1_placed_11 (by decide) (fun c11 => ?_) (fun c11 => absurd c11 (by omega))
      have hca : ca < pn := by omega
      have hun := hh_un hH
      refine r_ic (pc := 16) (v := nI 0) C rfl dX1_placed_16 ?_
      refine r_isn (pc := 17) C [1, 2, 0] [(0, .ref q), (1, .int (nI ca)), (2, .int (nI 0))] rfl (by decide) rfl dX1_placed_17 ?_
      have L18 : ∀ (n18 : Nat) (mb : Nat) (ptr1 : Nat → Int32) (hmb : mb ≤ 4) (hT : TR1 pn ph pbf ptr ptr1) (hno : ∀ π, EX pn (fun j => pl.testBit j) pfr pto ph ptr π → ¬ π ca < mb) (hne : ∀ j, j < mb → phf j ≠ 0), 4 - mb < n18 → RW p l e (headSpec wsX1_placed (rmX1_placed (r + 1))).room s m args below meth c (IW s D A) 5 0 0 Q [(q, cPl pn pa qf qt qb qr ph qhf qht pl pm pb qs), (qf, aN (cT 0) 16 pfr), (qt, aN (cT 0) 16 pto), (qb, aI (cT 0) 16 pbf), (qr, aI (cT 0) 16 ptr1), (qhf, aN (cT 0) 4 phf), (qht, aN (cT 0) 4 pht)] 18 [(0, .ref q), (1, .int (nI ca)), (2, .int (nI mb))] [] := by
        intro n18
        induction n18 with
        | zero => intro mb ptr1 hmb hT hno hne hn18; exact absurd hn18 (Nat.not_lt_zero _)
        | succ n18 ih18 =>
          intro mb ptr1 hmb hT hno hne hn18
          refine r_iln (pc := 18) C 2 rfl dX1_placed_18 ?_
          refine r_ic (pc := 19) (v := nI 4) C rfl dX1_placed_19 ?_
          refine r_cgeN (pc := 20) (tgt := 87) C (by omega) (by omega) dX1_placed_20 (by decide) (fun c20 => ?_) (fun c20 => ?_)
          · refine r_ic (pc := 87) (v := nI 0) C rfl dX1_placed_87 ?_
            subst hQ
            exact e_zW C hr hk rfl (Nat.le_refl _) (Nat.le_refl _) ptr1 rfl (⟨Or.inr ⟨rfl, fun ⟨π, hE⟩ => hno π hE (by have := (hE.1 ca hca).1; omega)⟩, hT⟩) dX1_placed_88
          · refine r_aln (pc := 23) C 0 rfl dX1_placed_23 ?_
            refine r_get (pc := 24) C iX1_placed_X1 0 rfl rfl 7 (by decide) (mw 2 rfl) rfl rfl dX1_placed_24 ?_
            refine r_iln (pc := 27) C 2 rfl dX1_placed_27 ?_
            refine r_ialN (pc := 28) C 5 rfl (by omega) (by decide) dX1_placed_28 ?_
            refine r_zneN (pc := 29) (tgt := 36) C (by have := (hhf mb (by omega)).1; omega) dX1_placed_29 (by decide) (fun c29 => ?_) (fun c29 => ?_)
            · refine r_ic (pc := 36) (v := nI 0) C rfl dX1_placed_36 ?_
              refine r_isn (pc := 37) C [1, 2, 3, 0] [(0, .ref q), (1, .int (nI ca)), (2, .int (nI mb)), (3, .int (nI 0))] rfl (by decide) rfl dX1_placed_37 ?_
              refine r_aln (pc := 38) C 0 rfl dX1_placed_38 ?_
              refine r_iln (pc := 39) C 1 rfl dX1_placed_39 ?_
              refine r_iln (pc := 40) C 2 rfl dX1_placed_40 ?_
              refine c_RV (pc := 41) (As := [.int (nI ca), .int (nI mb)]) (wc := [(q, cPl pn pa qf qt qb qr ph qhf qht pl pm pb qs), (qf, aN (cT 0) 16 pfr), (qt, aN (cT 0) 16 pto), (qhf, aN (cT 0) 4 phf), (qht, aN (cT 0) 4 pht)]) (qr := 0) C (k_X1_fits l D cT q pn pa qf qt qb qr ph qhf qht pl pm pb qs pfr pto phf pht ca (nI mb) hP (by omega)) (cwV 2 C.1.2.2.2.2 gX1_placed_X1_fits rfl rfl rfl n_X1_fits ⟨(by show 0 + 1 ≤ r + 1 + 8; omega), (by show 8 + (3 + 11) + 0 ≤ 25 * (r + 1) + 200; omega)⟩) [0, 1, 2, 5, 6] rfl rfl rfl rfl rfl (Nat.le_of_ble_eq_true rfl) ⟨Nat.zero_le _, Nat.zero_le _⟩ dX1_placed_41 (fun r41 h1 => ?_)
              rcases h1 with ⟨rfl, h1⟩ | ⟨rfl, h1⟩
              · refine r_zeqN (pc := 44) (tgt := 75) C (by omega) dX1_placed_44 (by decide) (fun h => absurd h (by decide)) (fun _ => ?_)
                refine r_aln (pc := 47) C 0 rfl dX1_placed_47 ?_
                refine r_iln (pc := 48) C 1 rfl dX1_placed_48 ?_
                refine r_iln (pc := 49) C 2 rfl dX1_placed_49 ?_
                refine c_WVv (pc := 50) (As := [.int (nI ca), .int (nI mb)]) (wc := [(q, cPl pn pa qf qt qb qr ph qhf qht pl pm pb qs), (qf, aN (cT 0) 16 pfr), (qt, aN (cT 0) 16 pto), (qr, aI (cT 0) 16 ptr1), (qhf, aN (cT 0) 4 phf), (qht, aN (cT 0) 4 pht)]) (wr := [(qb, aI (cT 0) 16 pbf)]) (qr := 0) C hA (k_X1_hold l D cT q pn pa qf qt qb qr ph qhf qht pl pm pb qs pfr pto ptr1 phf pht ca mb hP (by omega) (by omega)) (cwV 2 C.1.2.2.2.2 gX1_placed_X1_hold rfl rfl rfl n_X1_hold ⟨(by show 0 + 1 ≤ r + 1 + 8; omega), (by show 8 + (3 + 11) + 0 ≤ 25 * (r + 1) + 200; omega)⟩) rfl rfl [0, 1, 2, 4, 5, 6] [3] rfl rfl ⟨by decide, by decide⟩ (by decide) [1, 2, 3, 0, 4, 5, 6] (fun u3 => [(q, cPl pn pa qf qt qb qr u3.1 qhf qht pl pm pb qs), (qf, aN (cT 0) 16 pfr), (qt, aN (cT 0) 16 pto), (qb, aI (cT 0) 16 pbf), (qr, aI (cT 0) 16 u3.2.1), (qhf, aN (cT 0) 4 u3.2.2.1), (qht, aN (cT 0) 4 u3.2.2.2)]) (fun _ => rfl) (by decide) rfl rfl (Nat.le_of_ble_eq_true rfl) ⟨Nat.zero_le _, Nat.zero_le _⟩ dX1_placed_50 (fun u3 h2 => ?_)
                obtain ⟨m4, m5, m6, m7⟩ := u3
                dsimp only at h2
                obtain ⟨rfl, rfl, rfl, rfl⟩ := h2
                refine r_aln (pc := 53) C 0 rfl dX1_placed_53 ?_
                refine r_iln (pc := 54) C 1 rfl dX1_placed_54 ?_
                refine r_ic (pc := 55) (v := nI 1) C rfl dX1_placed_55 ?_
                refine r_iaddN (pc := 56) C dX1_placed_56 ?_
                refine c_WSi (pc := 57) (As := [.ref q, .int (nI (ca + 1))]) (wc := [(q, cPl pn pa qf qt qb qr (ph ||| 2 ^ ca) qhf qht pl pm pb qs), (qf, aN (cT 0) 16 pfr), (qt, aN (cT 0) 16 pto), (qb, aI (cT 0) 16 pbf), (qr, aI (cT 0) 16 (upd ptr1 ca (nI mb))), (qhf, aN (cT 0) 4 (va_up phf mb (phf mb ||| pfr ca))), (qht, aN (cT 0) 4 (va_up pht mb (pht mb ||| pto ca)))]) (wr := [])  C hA (ih q pn pa qf qt qb qr (ph ||| 2 ^ ca) qhf qht pl pm pb qs pfr pto pbf (upd ptr1 ca (nI mb)) (va_up phf mb (phf mb ||| pfr ca)) (va_up pht mb (pht mb ||| pto ca)) (ca + 1) bn (by omega) (pq_hold hP (by omega) (by omega)) (by omega) (hh_child hH) (pi_child (pi_tr1 hI hT) hca hun (by omega) h1) hB hal hf0 (pre_child (hf0 ca hca) hpre (by omega) hne)) (va_cwS 2 C.1.2.2.2.2 gX1_placed_X1_placed rfl rfl rfl n_X1_placed ⟨(by show r + 8 + 1 ≤ r + 1 + 8; omega), (by show 8 + (5 + 11) + (25 * r + 200) ≤ 25 * (r + 1) + 200; omega)⟩) [0, 1, 2, 3, 4, 5, 6] [] rfl rfl ⟨by decide, by decide⟩ (by decide) [0, 1, 2, 3, 4, 5, 6] (fun u9 => [(q, cPl pn pa qf qt qb qr (ph ||| 2 ^ ca) qhf qht pl pm pb qs), (qf, aN (cT 0) 16 pfr), (qt, aN (cT 0) 16 pto), (qb, aI (cT 0) 16 pbf), (qr, aI (cT 0) 16 u9), (qhf, aN (cT 0) 4 (va_up phf mb (phf mb ||| pfr ca))), (qht, aN (cT 0) 4 (va_up pht mb (pht mb ||| pto ca)))]) (fun _ => rfl) (by decide) rfl rfl (Nat.le_of_ble_eq_true rfl) ⟨Nat.zero_le _, Nat.zero_le _⟩ dX1_placed_57 (fun r57 u9 h8 => ?_)
                obtain ⟨h8, h8t⟩ := h8
                rcases h8 with ⟨rfl, h8⟩ | ⟨rfl, h8⟩
                · refine r_is (pc := 60) C [1, 2, 3, 4, 0] [(0, .ref q), (1, .int (nI ca)), (2, .int (nI mb)), (3, .int (nI 0)), (4, .int (nI 1))] (by decide) rfl dX1_placed_60 ?_
                  refine r_aln (pc := 62) C 0 rfl dX1_placed_62 ?_
                  refine r_iln (pc := 63) C 1 rfl dX1_placed_63 ?_
                  refine r_iln (pc := 64) C 2 rfl dX1_placed_64 ?_
                  refine c_WVv (pc := 65) (As := [.int (nI ca), .int (nI mb)]) (wc := [(q, cPl pn pa qf qt qb qr (ph ||| 2 ^ ca) qhf qht pl pm pb qs), (qf, aN (cT 0) 16 pfr), (qt, aN (cT 0) 16 pto), (qb, aI (cT 0) 16 pbf), (qr, aI (cT 0) 16 u9), (qhf, aN (cT 0) 4 (va_up phf mb (phf mb ||| pfr ca))), (qht, aN (cT 0) 4 (va_up pht mb (pht mb ||| pto ca)))]) (wr := []) (qr := 0) C hA (k_X1_release l D cT q pn pa qf qt qb qr (ph ||| 2 ^ ca) qhf qht pl pm pb qs pfr pto pbf u9 (va_up phf mb (phf mb ||| pfr ca)) (va_up pht mb (pht mb ||| pto ca)) ca mb (pq_hold hP (by omega) (by omega)) (by omega) (by omega)) (cwV 2 C.1.2.2.2.2 gX1_placed_X1_release rfl rfl rfl n_X1_release ⟨(by show 0 + 1 ≤ r + 1 + 8; omega), (by show 8 + (3 + 11) + 0 ≤ 25 * (r + 1) + 200; omega)⟩) rfl rfl [0, 1, 2, 3, 4, 5, 6] [] rfl rfl ⟨by decide, by decide⟩ (by decide) [0, 1, 2, 3, 4, 5, 6] (fun u11 => [(q, cPl pn pa qf qt qb qr u11.1 qhf qht pl pm pb qs), (qf, aN (cT 0) 16 pfr), (qt, aN (cT 0) 16 pto), (qb, aI (cT 0) 16 pbf), (qr, aI (cT 0) 16 u11.2.1), (qhf, aN (cT 0) 4 u11.2.2.1), (qht, aN (cT 0) 4 u11.2.2.2)]) (fun _ => rfl) (by decide) rfl rfl (Nat.le_of_ble_eq_true rfl) ⟨Nat.zero_le _, Nat.zero_le _⟩ dX1_placed_65 (fun u11 h10 => ?_)
                  obtain ⟨m12, m13, m14, m15⟩ := u11
                  dsimp only at h10
                  obtain ⟨rfl, rfl, rfl, rfl⟩ := h10
                  rw [wo_or (and_p2 hun), up_wo (fit_f h1 (by omega)), up_wo (fit_t h1 (by omega))]
                  refine r_il (pc := 68) C 4 rfl dX1_placed_68 ?_
                  refine r_zeqN (pc := 70) (tgt := 75) C (by omega) dX1_placed_70 (by decide) (fun h => absurd h (by decide)) (fun _ => ?_)
                  refine r_ic (pc := 73) (v := nI 1) C rfl dX1_placed_73 ?_
                  subst hQ
                  exact e_zW C hr hk rfl (Nat.le_refl _) (Nat.le_refl _) (upd u9 ca (pbf ca)) rfl (⟨Or.inl ⟨rfl, h8.elim (fun π hE => ⟨π, ex_child hI hun hT hE⟩)⟩, tr1_back hun hT h8t⟩) dX1_placed_74
                · refine r_is (pc := 60) C [1, 2, 3, 4, 0] [(0, .ref q), (1, .int (nI ca)), (2, .int (nI mb)), (3, .int (nI 0)), (4, .int (nI 0))] (by decide) rfl dX1_placed_60 ?_
                  refine r_aln (pc := 62) C 0 rfl dX1_placed_62 ?_
                  refine r_iln (pc := 63) C 1 rfl dX1_placed_63 ?_
                  refine r_iln (pc := 64) C 2 rfl dX1_placed_64 ?_
                  refine c_WVv (pc := 65) (As := [.int (nI ca), .int (nI mb)]) (wc := [(q, cPl pn pa qf qt qb qr (ph ||| 2 ^ ca) qhf qht pl pm pb qs), (qf, aN (cT 0) 16 pfr), (qt, aN (cT 0) 16 pto), (qb, aI (cT 0) 16 pbf), (qr, aI (cT 0) 16 u9), (qhf, aN (cT 0) 4 (va_up phf mb (phf mb ||| pfr ca))), (qht, aN (cT 0) 4 (va_up pht mb (pht mb ||| pto ca)))]) (wr := []) (qr := 0) C hA (k_X1_release l D cT q pn pa qf qt qb qr (ph ||| 2 ^ ca) qhf qht pl pm pb qs pfr pto pbf u9 (va_up phf mb (phf mb ||| pfr ca)) (va_up pht mb (pht mb ||| pto ca)) ca mb (pq_hold hP (by omega) (by omega)) (by omega) (by omega)) (cwV 2 C.1.2.2.2.2 gX1_placed_X1_release rfl rfl rfl n_X1_release ⟨(by show 0 + 1 ≤ r + 1 + 8; omega), (by show 8 + (3 + 11) + 0 ≤ 25 * (r + 1) + 200; omega)⟩) rfl rfl [0, 1, 2, 3, 4, 5, 6] [] rfl rfl ⟨by decide, by decide⟩ (by decide) [0, 1, 2, 3, 4, 5, 6] (fun u17 => [(q, cPl pn pa qf qt qb qr u17.1 qhf qht pl pm pb qs), (qf, aN (cT 0) 16 pfr), (qt, aN (cT 0) 16 pto), (qb, aI (cT 0) 16 pbf), (qr, aI (cT 0) 16 u17.2.1), (qhf, aN (cT 0) 4 u17.2.2.1), (qht, aN (cT 0) 4 u17.2.2.2)]) (fun _ => rfl) (by decide) rfl rfl (Nat.le_of_ble_eq_true rfl) ⟨Nat.zero_le _, Nat.zero_le _⟩ dX1_placed_65 (fun u17 h16 => ?_)
                  obtain ⟨m18, m19, m20, m21⟩ := u17
                  dsimp only at h16
                  obtain ⟨rfl, rfl, rfl, rfl⟩ := h16
                  rw [wo_or (and_p2 hun), up_wo (fit_f h1 (by omega)), up_wo (fit_t h1 (by omega))]
                  refine r_il (pc := 68) C 4 rfl dX1_placed_68 ?_
                  refine r_zeqN (pc := 70) (tgt := 75) C (by omega) dX1_placed_70 (by decide) (fun _ => ?_) (fun h => absurd h (by decide))
                  refine r_iln (pc := 75) C 3 rfl dX1_placed_75 ?_
                  refine r_zeqN (pc := 76) (tgt := 81) C (by omega) dX1_placed_76 (by decide) (fun _ => ?_) (fun h => absurd h (by decide))
                  refine r_incN (pc := 81) C 2 [1, 2, 0, 3, 4] [(0, .ref q), (1, .int (nI ca)), (2, .int (nI (mb + 1))), (3, .int (nI 0)), (4, .int (nI 0))] rfl (by decide) rfl dX1_placed_81 ?_
                  refine r_goto (pc := 84) (tgt := 18) C dX1_placed_84 (by decide) ?_
                  refine r_lv [0, 1, 2] (lv2 := [(0, .ref q), (1, .int (nI ca)), (2, .int (nI (mb + 1)))]) rfl ?_
                  exact ih18 (mb + 1) (upd u9 ca (pbf ca)) (by omega) (tr1_back hun hT h8t) (fun π hE h => (Nat.lt_succ_iff_lt_or_eq.mp h).elim (hno π hE) ((fun π hE e => h8 ⟨π, ex_child2 hca hT hE e⟩) π hE)) (fun j hj => by rcases Nat.lt_succ_iff_lt_or_eq.mp hj with g | g; exact hne j g; subst g; omega) (by omega)
              · refine r_zeqN (pc := 44) (tgt := 75) C (by omega) dX1_placed_44 (by decide) (fun _ => ?_) (fun h => absurd h (by decide))
                refine r_iln (pc := 75) C 3 rfl dX1_placed_75 ?_
                refine r_zeqN (pc := 76) (tgt := 81) C (by omega) dX1_placed_76 (by decide) (fun _ => ?_) (fun h => absurd h (by decide))
                refine r_incN (pc := 81) C 2 [1, 2, 0, 3] [(0, .ref q), (1, .int (nI ca)), (2, .int (nI (mb + 1))), (3, .int (nI 0))] rfl (by decide) rfl dX1_placed_81 ?_
                refine r_goto (pc := 84) (tgt := 18) C dX1_placed_84 (by decide) ?_
                refine r_lv [0, 1, 2] (lv2 := [(0, .ref q), (1, .int (nI ca)), (2, .int (nI (mb + 1)))]) rfl ?_
                exact ih18 (mb + 1) ptr1 (by omega) hT (fun π hE h => (Nat.lt_succ_iff_lt_or_eq.mp h).elim (hno π hE) ((ex_nofit (pi_tr1 hI (tr1_same hI hn16)) hca hun h1) π hE)) (fun j hj => by rcases Nat.lt_succ_iff_lt_or_eq.mp hj with g | g; exact hne j g; subst g; omega) (by omega)
            · refine r_ic (pc := 32) (v := nI 1) C rfl dX1_placed_32 ?_
              refine r_goto (pc := 33) (tgt := 37) C dX1_placed_33 (by decide) ?_
              refine r_isn (pc := 37) C [1, 2, 3, 0] [(0, .ref q), (1, .int (nI ca)), (2, .int (nI mb)), (3, .int (nI 1))] rfl (by decide) rfl dX1_placed_37 ?_
              refine r_aln (pc := 38) C 0 rfl dX1_placed_38 ?_
              refine r_iln (pc := 39) C 1 rfl dX1_placed_39 ?_
              refine r_iln (pc := 40) C 2 rfl dX1_placed_40 ?_
              refine c_RV (pc := 41) (As := [.int (nI ca), .int (nI mb)]) (wc := [(q, cPl pn pa qf qt qb qr ph qhf qht pl pm pb qs), (qf, aN (cT 0) 16 pfr), (qt, aN (cT 0) 16 pto), (qhf, aN (cT 0) 4 phf), (qht, aN (cT 0) 4 pht)]) (qr := 0) C (k_X1_fits l D cT q pn pa qf qt qb qr ph qhf qht pl pm pb qs pfr pto phf pht ca (nI mb) hP (by omega)) (cwV 2 C.1.2.2.2.2 gX1_placed_X1_fits rfl rfl rfl n_X1_fits ⟨(by show 0 + 1 ≤ r + 1 + 8; omega), (by show 8 + (3 + 11) + 0 ≤ 25 * (r + 1) + 200; omega)⟩) [0, 1, 2, 5, 6] rfl rfl rfl rfl rfl (Nat.le_of_ble_eq_true rfl) ⟨Nat.zero_le _, Nat.zero_le _⟩ dX1_placed_41 (fun r41 h22 => ?_)
              rcases h22 with ⟨rfl, h22⟩ | ⟨rfl, h22⟩
              · refine r_zeqN (pc := 44) (tgt := 75) C (by omega) dX1_placed_44 (by decide) (fun h => absurd h (by decide)) (fun _ => ?_)
                refine r_aln (pc := 47) C 0 rfl dX1_placed_47 ?_
                refine r_iln (pc := 48) C 1 rfl dX1_placed_48 ?_
                refine r_iln (pc := 49) C 2 rfl dX1_placed_49 ?_
                refine c_WVv (pc := 50) (As := [.int (nI ca), .int (nI mb)]) (wc := [(q, cPl pn pa qf qt qb qr ph qhf qht pl pm pb qs), (qf, aN (cT 0) 16 pfr), (qt, aN (cT 0) 16 pto), (qr, aI (cT 0) 16 ptr1), (qhf, aN (cT 0) 4 phf), (qht, aN (cT 0) 4 pht)]) (wr := [(qb, aI (cT 0) 16 pbf)]) (qr := 0) C hA (k_X1_hold l D cT q pn pa qf qt qb qr ph qhf qht pl pm pb qs pfr pto ptr1 phf pht ca mb hP (by omega) (by omega)) (cwV 2 C.1.2.2.2.2 gX1_placed_X1_hold rfl rfl rfl n_X1_hold ⟨(by show 0 + 1 ≤ r + 1 + 8; omega), (by show 8 + (3 + 11) + 0 ≤ 25 * (r + 1) + 200; omega)⟩) rfl rfl [0, 1, 2, 4, 5, 6] [3] rfl rfl ⟨by decide, by decide⟩ (by decide) [1, 2, 3, 0, 4, 5, 6] (fun u24 => [(q, cPl pn pa qf qt qb qr u24.1 qhf qht pl pm pb qs), (qf, aN (cT 0) 16 pfr), (qt, aN (cT 0) 16 pto), (qb, aI (cT 0) 16 pbf), (qr, aI (cT 0) 16 u24.2.1), (qhf, aN (cT 0) 4 u24.2.2.1), (qht, aN (cT 0) 4 u24.2.2.2)]) (fun _ => rfl) (by decide) rfl rfl (Nat.le_of_ble_eq_true rfl) ⟨Nat.zero_le _, Nat.zero_le _⟩ dX1_placed_50 (fun u24 h23 => ?_)
                obtain ⟨m25, m26, m27, m28⟩ := u24
                dsimp only at h23
                obtain ⟨rfl, rfl, rfl, rfl⟩ := h23
                refine r_aln (pc := 53) C 0 rfl dX1_placed_53 ?_
                refine r_iln (pc := 54) C 1 rfl dX1_placed_54 ?_
                refine r_ic (pc := 55) (v := nI 1) C rfl dX1_placed_55 ?_
                refine r_iaddN (pc := 56) C dX1_placed_56 ?_
                refine c_WSi (pc := 57) (As := [.ref q, .int (nI (ca + 1))]) (wc := [(q, cPl pn pa qf qt qb qr (ph ||| 2 ^ ca) qhf qht pl pm pb qs), (qf, aN (cT 0) 16 pfr), (qt, aN (cT 0) 16 pto), (qb, aI (cT 0) 16 pbf), (qr, aI (cT 0) 16 (upd ptr1 ca (nI mb))), (qhf, aN (cT 0) 4 (va_up phf mb (phf mb ||| pfr ca))), (qht, aN (cT 0) 4 (va_up pht mb (pht mb ||| pto ca)))]) (wr := [])  C hA (ih q pn pa qf qt qb qr (ph ||| 2 ^ ca) qhf qht pl pm pb qs pfr pto pbf (upd ptr1 ca (nI mb)) (va_up phf mb (phf mb ||| pfr ca)) (va_up pht mb (pht mb ||| pto ca)) (ca + 1) bn (by omega) (pq_hold hP (by omega) (by omega)) (by omega) (hh_child hH) (pi_child (pi_tr1 hI hT) hca hun (by omega) h22) hB hal hf0 (pre_child (hf0 ca hca) hpre (by omega) hne)) (va_cwS 2 C.1.2.2.2.2 gX1_placed_X1_placed rfl rfl rfl n_X1_placed ⟨(by show r + 8 + 1 ≤ r + 1 + 8; omega), (by show 8 + (5 + 11) + (25 * r + 200) ≤ 25 * (r + 1) + 200; omega)⟩) [0, 1, 2, 3, 4, 5, 6] [] rfl rfl ⟨by decide, by decide⟩ (by decide) [0, 1, 2, 3, 4, 5, 6] (fun u30 => [(q, cPl pn pa qf qt qb qr (ph ||| 2 ^ ca) qhf qht pl pm pb qs), (qf, aN (cT 0) 16 pfr), (qt, aN (cT 0) 16 pto), (qb, aI (cT 0) 16 pbf), (qr, aI (cT 0) 16 u30), (qhf, aN (cT 0) 4 (va_up phf mb (phf mb ||| pfr ca))), (qht, aN (cT 0) 4 (va_up pht mb (pht mb ||| pto ca)))]) (fun _ => rfl) (by decide) rfl rfl (Nat.le_of_ble_eq_true rfl) ⟨Nat.zero_le _, Nat.zero_le _⟩ dX1_placed_57 (fun r57 u30 h29 => ?_)
                obtain ⟨h29, h29t⟩ := h29
                rcases h29 with ⟨rfl, h29⟩ | ⟨rfl, h29⟩
                · refine r_is (pc := 60) C [1, 2, 3, 4, 0] [(0, .ref q), (1, .int (nI ca)), (2, .int (nI mb)), (3, .int (nI 1)), (4, .int (nI 1))] (by decide) rfl dX1_placed_60 ?_
                  refine r_aln (pc := 62) C 0 rfl dX1_placed_62 ?_
                  refine r_iln (pc := 63) C 1 rfl dX1_placed_63 ?_
                  refine r_iln (pc := 64) C 2 rfl dX1_placed_64 ?_
                  refine c_WVv (pc := 65) (As := [.int (nI ca), .int (nI mb)]) (wc := [(q, cPl pn pa qf qt qb qr (ph ||| 2 ^ ca) qhf qht pl pm pb qs), (qf, aN (cT 0) 16 pfr), (qt, aN (cT 0) 16 pto), (qb, aI (cT 0) 16 pbf), (qr, aI (cT 0) 16 u30), (qhf, aN (cT 0) 4 (va_up phf mb (phf mb ||| pfr ca))), (qht, aN (cT 0) 4 (va_up pht mb (pht mb ||| pto ca)))]) (wr := []) (qr := 0) C hA (k_X1_release l D cT q pn pa qf qt qb qr (ph ||| 2 ^ ca) qhf qht pl pm pb qs pfr pto pbf u30 (va_up phf mb (phf mb ||| pfr ca)) (va_up pht mb (pht mb ||| pto ca)) ca mb (pq_hold hP (by omega) (by omega)) (by omega) (by omega)) (cwV 2 C.1.2.2.2.2 gX1_placed_X1_release rfl rfl rfl n_X1_release ⟨(by show 0 + 1 ≤ r + 1 + 8; omega), (by show 8 + (3 + 11) + 0 ≤ 25 * (r + 1) + 200; omega)⟩) rfl rfl [0, 1, 2, 3, 4, 5, 6] [] rfl rfl ⟨by decide, by decide⟩ (by decide) [0, 1, 2, 3, 4, 5, 6] (fun u32 => [(q, cPl pn pa qf qt qb qr u32.1 qhf qht pl pm pb qs), (qf, aN (cT 0) 16 pfr), (qt, aN (cT 0) 16 pto), (qb, aI (cT 0) 16 pbf), (qr, aI (cT 0) 16 u32.2.1), (qhf, aN (cT 0) 4 u32.2.2.1), (qht, aN (cT 0) 4 u32.2.2.2)]) (fun _ => rfl) (by decide) rfl rfl (Nat.le_of_ble_eq_true rfl) ⟨Nat.zero_le _, Nat.zero_le _⟩ dX1_placed_65 (fun u32 h31 => ?_)
                  obtain ⟨m33, m34, m35, m36⟩ := u32
                  dsimp only at h31
                  obtain ⟨rfl, rfl, rfl, rfl⟩ := h31
                  rw [wo_or (and_p2 hun), up_wo (fit_f h22 (by omega)), up_wo (fit_t h22 (by omega))]
                  refine r_il (pc := 68) C 4 rfl dX1_placed_68 ?_
                  refine r_zeqN (pc := 70) (tgt := 75) C (by omega) dX1_placed_70 (by decide) (fun h => absurd h (by decide)) (fun _ => ?_)
                  refine r_ic (pc := 73) (v := nI 1) C rfl dX1_placed_73 ?_
                  subst hQ
                  exact e_zW C hr hk rfl (Nat.le_refl _) (Nat.le_refl _) (upd u30 ca (pbf ca)) rfl (⟨Or.inl ⟨rfl, h29.elim (fun π hE => ⟨π, ex_child hI hun hT hE⟩)⟩, tr1_back hun hT h29t⟩) dX1_placed_74
                · refine r_is (pc := 60) C [1, 2, 3, 4, 0] [(0, .ref q), (1, .int (nI ca)), (2, .int (nI mb)), (3, .int (nI 1)), (4, .int (nI 0))] (by decide) rfl dX1_placed_60 ?_
                  refine r_aln (pc := 62) C 0 rfl dX1_placed_62 ?_
                  refine r_iln (pc := 63) C 1 rfl dX1_placed_63 ?_
                  refine r_iln (pc := 64) C 2 rfl dX1_placed_64 ?_
                  refine c_WVv (pc := 65) (As := [.int (nI ca), .int (nI mb)]) (wc := [(q, cPl pn pa qf qt qb qr (ph ||| 2 ^ ca) qhf qht pl pm pb qs), (qf, aN (cT 0) 16 pfr), (qt, aN (cT 0) 16 pto), (qb, aI (cT 0) 16 pbf), (qr, aI (cT 0) 16 u30), (qhf, aN (cT 0) 4 (va_up phf mb (phf mb ||| pfr ca))), (qht, aN (cT 0) 4 (va_up pht mb (pht mb ||| pto ca)))]) (wr := []) (qr := 0) C hA (k_X1_release l D cT q pn pa qf qt qb qr (ph ||| 2 ^ ca) qhf qht pl pm pb qs pfr pto pbf u30 (va_up phf mb (phf mb ||| pfr ca)) (va_up pht mb (pht mb ||| pto ca)) ca mb (pq_hold hP (by omega) (by omega)) (by omega) (by omega)) (cwV 2 C.1.2.2.2.2 gX1_placed_X1_release rfl rfl rfl n_X1_release ⟨(by show 0 + 1 ≤ r + 1 + 8; omega), (by show 8 + (3 + 11) + 0 ≤ 25 * (r + 1) + 200; omega)⟩) rfl rfl [0, 1, 2, 3, 4, 5, 6] [] rfl rfl ⟨by decide, by decide⟩ (by decide) [0, 1, 2, 3, 4, 5, 6] (fun u38 => [(q, cPl pn pa qf qt qb qr u38.1 qhf qht pl pm pb qs), (qf, aN (cT 0) 16 pfr), (qt, aN (cT 0) 16 pto), (qb, aI (cT 0) 16 pbf), (qr, aI (cT 0) 16 u38.2.1), (qhf, aN (cT 0) 4 u38.2.2.1), (qht, aN (cT 0) 4 u38.2.2.2)]) (fun _ => rfl) (by decide) rfl rfl (Nat.le_of_ble_eq_true rfl) ⟨Nat.zero_le _, Nat.zero_le _⟩ dX1_placed_65 (fun u38 h37 => ?_)
                  obtain ⟨m39, m40, m41, m42⟩ := u38
                  dsimp only at h37
                  obtain ⟨rfl, rfl, rfl, rfl⟩ := h37
                  rw [wo_or (and_p2 hun), up_wo (fit_f h22 (by omega)), up_wo (fit_t h22 (by omega))]
                  refine r_il (pc := 68) C 4 rfl dX1_placed_68 ?_
                  refine r_zeqN (pc := 70) (tgt := 75) C (by omega) dX1_placed_70 (by decide) (fun _ => ?_) (fun h => absurd h (by decide))
                  refine r_iln (pc := 75) C 3 rfl dX1_placed_75 ?_
                  refine r_zeqN (pc := 76) (tgt := 81) C (by omega) dX1_placed_76 (by decide) (fun h => absurd h (by decide)) (fun _ => ?_)
                  refine r_ic (pc := 79) (v := nI 0) C rfl dX1_placed_79 ?_
                  subst hQ
                  exact e_zW C hr hk rfl (Nat.le_refl _) (Nat.le_refl _) (upd u30 ca (pbf ca)) rfl (⟨Or.inr ⟨rfl, ex_none hal hf0 hI hca (by omega) hpre c29 hno (fun π hE e => h29 ⟨π, ex_child2 hca hT hE e⟩)⟩, tr1_back hun hT h29t⟩) dX1_placed_80
              · refine r_zeqN (pc := 44) (tgt := 75) C (by omega) dX1_placed_44 (by decide) (fun _ => ?_) (fun h => absurd h (by decide))
                refine r_iln (pc := 75) C 3 rfl dX1_placed_75 ?_
                refine r_zeqN (pc := 76) (tgt := 81) C (by omega) dX1_placed_76 (by decide) (fun h => absurd h (by decide)) (fun _ => ?_)
                refine r_ic (pc := 79) (v := nI 0) C rfl dX1_placed_79 ?_
                subst hQ
                exact e_zW C hr hk rfl (Nat.le_refl _) (Nat.le_refl _) ptr1 rfl (⟨Or.inr ⟨rfl, ex_none hal hf0 hI hca (by omega) hpre c29 hno (ex_nofit (pi_tr1 hI (tr1_same hI hn16)) hca hun h22)⟩, hT⟩) dX1_placed_80
      exact L18 _ 0 ptr (Nat.zero_le _) (tr1_same hI hn16) (fun π _ => Nat.not_lt_zero _) (fun j hj => absurd hj (Nat.not_lt_zero _)) (Nat.lt_succ_self _)

abbrev rmX1_wouldDo : Room := { frames := 26, cells := 0, slots := 0, locals := 649 }
theorem n_X1_wouldDo : yX1_wouldDo.cls = RX1 ∧ yX1_wouldDo.cls ≠ "java/lang/invoke/MethodHandle" ∧ yX1_wouldDo.cls ≠ "java/lang/invoke/VarHandle" ∧ (parseMethodDescriptor yX1_wouldDo.desc).map (fun d => d.parameters.length) = some 2 := by decide +kernel
set_option maxHeartbeats 4000000 in
set_option maxRecDepth 100000 in
theorem k_X1_wouldDo (l : Launch) (D : va_G) (cT : Nat → ClassId) (q pn : Nat) (pa : Int32) (qf qt qb qr ph qhf qht pl pm : Nat) (pb : Int32) (qs : Nat) (pfr pto : Nat → Nat) (pbf ptr : Nat → Int32) (phf pht : Nat → Nat) (pbs : Nat → Int32) (sA fst wid mid las pat bro mov cnt sI sO sB sM sG sW : Nat) (inp outs brd : Nat → Nat) (bn : Nat) (hCn : cnt ≤ 16) (hIn : ∀ c, c < 16 → inp c < 16) (hOu : ∀ c, c < 16 → outs c < 65536) (hBo : ∀ c, c < 16 → brd c < 4) (hW1 : 1 ≤ wid) (hW2 : wid ≤ 4) (hfr : ∀ c, c < 16 → pfr c < 65536 ∧ pto c < 65536) (hok : Ok1 cnt wid inp outs brd) (hbn : bn ≤ 4) : MWi (S := Nat × Int32 × Nat × Nat × Nat × Int32 × (Nat → Nat) × (Nat → Nat) × (Nat → Int32) × (Nat → Int32) × (Nat → Nat) × (Nat → Nat) × (Nat → Int32)) l D cT yX1_wouldDo wsX1_wouldDo rmX1_wouldDo [.ref q, .ref sA, .int (nI bn)] [(q, cPl pn pa qf qt qb qr ph qhf qht pl pm pb qs), (qf, aN (cT 0) 16 pfr), (qt, aN (cT 0) 16 pto), (qb, aI (cT 0) 16 pbf), (qr, aI (cT 0) 16 ptr), (qhf, aN (cT 0) 4 phf), (qht, aN (cT 0) 4 pht), (qs, aI (cT 0) 16 pbs), (sA, cSt fst wid mid las pat bro mov cnt sI sO sB sM sG sW), (sI, aN (cT 0) 16 inp), (sO, aN (cT 0) 16 outs), (sB, aN (cT 0) 16 brd)] (fun r u => ((r = nI 1 ∧ ∃ π, Val cnt (fun j => decide (j < bn)) (fun c => 2 ^ (inp c / wid)) (fun c => lbs wid (outs c)) π) ∨ (r = nI 0 ∧ ¬ ∃ π, Val cnt (fun j => decide (j < bn)) (fun c => 2 ^ (inp c / wid)) (fun c => lbs wid (outs c)) π)) ∧ (∀ c, c < 16 → u.2.2.2.2.2.2.1 c < 65536 ∧ u.2.2.2.2.2.2.2.1 c < 65536)) (fun u => [(q, cPl u.1 u.2.1 qf qt qb qr u.2.2.1 qhf qht u.2.2.2.1 u.2.2.2.2.1 u.2.2.2.2.2.1 qs), (qf, aN (cT 0) 16 u.2.2.2.2.2.2.1), (qt, aN (cT 0) 16 u.2.2.2.2.2.2.2.1), (qb, aI (cT 0) 16 u.2.2.2.2.2.2.2.2.1), (qr, aI (cT 0) 16 u.2.2.2.2.2.2.2.2.2.1), (qhf, aN (cT 0) 4 u.2.2.2.2.2.2.2.2.2.2.1), (qht, aN (cT 0) 4 u.2.2.2.2.2.2.2.2.2.2.2.1), (qs, aI (cT 0) 16 u.2.2.2.2.2.2.2.2.2.2.2.2), (sA, cSt fst wid mid las pat bro mov cnt sI sO sB sM sG sW), (sI, aN (cT 0) 16 inp), (sO, aN (cT 0) 16 outs), (sB, aN (cT 0) 16 brd)]) 0 0 := by
  refine m_Wi [(0, .ref q), (1, .ref sA), (2, .int (nI bn))] (by decide +kernel) rfl (Nat.le_of_ble_eq_true rfl) rfl ?_
  intro p e s m args below meth c A hAe C hA hr hk hnm_
  generalize hQ : MQ below (va_Qi _ _ A) args s 0 0 A = Q
  refine r_aln (pc := 0) C 0 rfl dX1_wouldDo_0 ?_
  refine r_aln (pc := 1) C 1 rfl dX1_wouldDo_1 ?_
  refine r_ic (pc := 2) (v := nI 1) C rfl dX1_wouldDo_2 ?_
  refine r_iln (pc := 3) C 2 rfl dX1_wouldDo_3 ?_
  refine r_ishlN (pc := 4) C (by first | omega | exact p2_lt31 (by omega) | exact Nat.one_le_two_pow) (by rw [Nat.one_mul]; exact p2_lt31 (by first | omega | exact p2_lt31 (by omega) | exact Nat.one_le_two_pow)) dX1_wouldDo_4 ?_
  refine r_v (y := nI (2 ^ bn)) (congrArg nI (Nat.one_mul _)) ?_
  refine r_ic (pc := 5) (v := nI 1) C rfl dX1_wouldDo_5 ?_
  refine r_isubN (pc := 6) C (by first | omega | exact p2_lt31 (by omega) | exact Nat.one_le_two_pow) dX1_wouldDo_6 ?_
  refine r_bi (pc := 7) (v := nI 16) C rfl dX1_wouldDo_7 ?_
  refine c_WVv (pc := 9) (As := [.ref sA, .int (nI ((2 ^ bn) - 1)), .int (nI 16)]) (wc := [(q, cPl pn pa qf qt qb qr ph qhf qht pl pm pb qs), (qf, aN (cT 0) 16 pfr), (qt, aN (cT 0) 16 pto), (qb, aI (cT 0) 16 pbf), (qr, aI (cT 0) 16 ptr), (qhf, aN (cT 0) 4 phf), (qht, aN (cT 0) 4 pht), (qs, aI (cT 0) 16 pbs), (sA, cSt fst wid mid las pat bro mov cnt sI sO sB sM sG sW), (sI, aN (cT 0) 16 inp), (sO, aN (cT 0) 16 outs), (sB, aN (cT 0) 16 brd)]) (wr := []) (qr := 0) C hA (k_X1_start l D cT q pn pa qf qt qb qr ph qhf qht pl pm pb qs pfr pto pbf ptr phf pht pbs sA fst wid mid las pat bro mov cnt sI sO sB sM sG sW inp outs brd ((2 ^ bn) - 1) 16 hCn hIn hOu hBo hW1 hW2 hfr) (cwV 3 C.1.2.2.2.2 gX1_wouldDo_X1_start rfl rfl rfl n_X1_start ⟨Nat.le_of_ble_eq_true rfl, Nat.le_of_ble_eq_true rfl⟩) rfl rfl [0, 1, 2, 3, 4, 5, 6, 7, 8, 9, 10, 11] [] rfl rfl ⟨by decide, by decide⟩ (by decide) [0, 1, 2, 3, 4, 5, 6, 7, 8, 9, 10, 11] (fun u2 => [(q, cPl cnt (-1) qf qt qb qr 0 qhf qht ((2 ^ bn) - 1) 16 (-1) qs), (qf, aN (cT 0) 16 u2.1), (qt, aN (cT 0) 16 u2.2.1), (qb, aI (cT 0) 16 u2.2.2.1), (qr, aI (cT 0) 16 u2.2.2.2.1), (qhf, aN (cT 0) 4 u2.2.2.2.2.1), (qht, aN (cT 0) 4 u2.2.2.2.2.2), (qs, aI (cT 0) 16 pbs), (sA, cSt fst wid mid las pat bro mov cnt sI sO sB sM sG sW), (sI, aN (cT 0) 16 inp), (sO, aN (cT 0) 16 outs), (sB, aN (cT 0) 16 brd)]) (fun _ => rfl) (by decide) rfl rfl (Nat.le_of_ble_eq_true rfl) ⟨Nat.zero_le _, Nat.zero_le _⟩ dX1_wouldDo_9 (fun u2 h1 => ?_)
  obtain ⟨e1, e2, e3⟩ := h1
  refine r_aln (pc := 12) C 0 rfl dX1_wouldDo_12 ?_
  obtain ⟨okP, okI, okB⟩ := los_ok (al := 2 ^ bn - 1) (pat := 16) hCn hBo hok (m1_lt hbn) (by omega) e1 e2 e3
  refine r_ic (pc := 13) (v := nI 0) C rfl dX1_wouldDo_13 ?_
  refine c_WSi (pc := 14) (As := [.ref q, .int (nI 0)]) (wc := [(q, cPl cnt (-1) qf qt qb qr 0 qhf qht ((2 ^ bn) - 1) 16 (-1) qs), (qf, aN (cT 0) 16 u2.1), (qt, aN (cT 0) 16 u2.2.1), (qb, aI (cT 0) 16 u2.2.2.1), (qr, aI (cT 0) 16 u2.2.2.2.1), (qhf, aN (cT 0) 4 u2.2.2.2.2.1), (qht, aN (cT 0) 4 u2.2.2.2.2.2)]) (wr := [(qs, aI (cT 0) 16 pbs), (sA, cSt fst wid mid las pat bro mov cnt sI sO sB sM sG sW), (sI, aN (cT 0) 16 inp), (sO, aN (cT 0) 16 outs), (sB, aN (cT 0) 16 brd)])  C hA (k_X1_placed l D cT 17 q cnt (-1) qf qt qb qr 0 qhf qht ((2 ^ bn) - 1) 16 (-1) qs u2.1 u2.2.1 u2.2.2.1 u2.2.2.2.1 u2.2.2.2.2.1 u2.2.2.2.2.2 0 bn (by omega) okP (Nat.zero_le _) (fun k => by simp) okI okB (fun j => congrFun (al_bn bn) j) (fun c hc => by rw [(e1 c hc).1]; exact Nat.ne_of_gt (Nat.two_pow_pos _)) (fun i j _ hj _ => (e3 j hj).1)) (va_cwS 2 C.1.2.2.2.2 gX1_wouldDo_X1_placed rfl rfl rfl n_X1_placed ⟨Nat.le_of_ble_eq_true rfl, Nat.le_of_ble_eq_true rfl⟩) [0, 1, 2, 3, 4, 5, 6] [7, 8, 9, 10, 11] rfl rfl ⟨by decide, by decide⟩ (by decide) [5, 6, 7, 8, 9, 10, 11, 0, 1, 2, 3, 4] (fun u4 => [(q, cPl cnt (-1) qf qt qb qr 0 qhf qht ((2 ^ bn) - 1) 16 (-1) qs), (qf, aN (cT 0) 16 u2.1), (qt, aN (cT 0) 16 u2.2.1), (qb, aI (cT 0) 16 u2.2.2.1), (qr, aI (cT 0) 16 u4), (qhf, aN (cT 0) 4 u2.2.2.2.2.1), (qht, aN (cT 0) 4 u2.2.2.2.2.2), (qs, aI (cT 0) 16 pbs), (sA, cSt fst wid mid las pat bro mov cnt sI sO sB sM sG sW), (sI, aN (cT 0) 16 inp), (sO, aN (cT 0) 16 outs), (sB, aN (cT 0) 16 brd)]) (fun _ => rfl) (by decide) rfl rfl (Nat.le_of_ble_eq_true rfl) ⟨Nat.zero_le _, Nat.zero_le _⟩ dX1_wouldDo_14 (fun r14 u4 h3 => ?_)
  obtain ⟨h3, h3t⟩ := h3
  rcases h3 with ⟨rfl, h3⟩ | ⟨rfl, h3⟩
  · have hR := wd_res e1 (Or.inl ⟨rfl, h3⟩)
    subst hQ
    exact e_zW C hr hk rfl (Nat.le_refl _) (Nat.le_refl _) ⟨cnt, (-1), 0, (2 ^ bn) - 1, 16, (-1), u2.1, u2.2.1, u2.2.2.1, u4, u2.2.2.2.2.1, u2.2.2.2.2.2, pbs⟩ rfl (⟨hR, okP.2.2.2.2.1⟩) dX1_wouldDo_17
  · have hR := wd_res e1 (Or.inr ⟨rfl, h3⟩)
    subst hQ
    exact e_zW C hr hk rfl (Nat.le_refl _) (Nat.le_refl _) ⟨cnt, (-1), 0, (2 ^ bn) - 1, 16, (-1), u2.1, u2.2.1, u2.2.2.1, u4, u2.2.2.2.2.1, u2.2.2.2.2.2, pbs⟩ rfl (⟨hR, okP.2.2.2.2.1⟩) dX1_wouldDo_17

