/-! what every state keeps -/
def INVq (fst wid mid las pat bro cnt : Nat) (inp outs brd : Nat → Nat) : Prop :=
  (1 ≤ fst ∧ fst ≤ 4) ∧ (1 ≤ wid ∧ wid ≤ 4) ∧ (1 ≤ mid ∧ mid ≤ 4) ∧ (1 ≤ las ∧ las ≤ 4) ∧ pat ≤ 3 ∧ bro < 2 ^ mid ∧ cnt ≤ 16 ∧
  (∀ c, c < 16 → inp c < 16 ∧ outs c < 65536 ∧ brd c < 4) ∧
  (∀ c, c < cnt → inp c < fst * wid ∧ outs c < 2 ^ (las * wid) ∧ outs c ≠ 0 ∧ brd c < mid ∧ bro.testBit (brd c) = false) ∧
  (∀ c d, c < cnt → d < cnt → c ≠ d → inp c ≠ inp d ∧ outs c &&& outs d = 0) ∧ Ok1 cnt wid inp outs brd
theorem mul16 {a b : Nat} (ha : a ≤ 4) (hb : b ≤ 4) : a * b ≤ 16 := Nat.mul_le_mul ha hb
theorem lbs_bit (wid o i : Nat) : (lbs wid o).testBit i = true ↔ ∃ k, k < 16 ∧ o.testBit k = true ∧ k / wid = i := lbTo_bit wid o i 16
theorem lbs_or {wid o jy : Nat} (h : jy < 16) : lbs wid (o ||| 2 ^ jy) = lbs wid o ||| 2 ^ (jy / wid) := by
  apply Nat.eq_of_testBit_eq
  intro i
  rw [Nat.testBit_or, Bool.eq_iff_iff, lbs_bit, Bool.or_eq_true, lbs_bit, Nat.testBit_two_pow]
  constructor
  · rintro ⟨k, h1, h2, h3⟩
    rw [Nat.testBit_or, Bool.or_eq_true, Nat.testBit_two_pow] at h2
    rcases h2 with h2 | h2
    · exact Or.inl ⟨k, h1, h2, h3⟩
    · have e : jy = k := by simpa using h2
      subst e
      exact Or.inr (by simpa using h3)
  · rintro (⟨k, h1, h2, h3⟩ | h2)
    · exact ⟨k, h1, by rw [Nat.testBit_or, h2]; rfl, h3⟩
    · exact ⟨jy, h, by rw [Nat.testBit_or, Nat.testBit_two_pow]; simp, by simpa using h2⟩
theorem lbs_0 (wid : Nat) : lbs wid 0 = 0 := by
  apply Nat.eq_of_testBit_eq
  intro i
  rw [Bool.eq_iff_iff, lbs_bit]
  simp
theorem lbs_p2 {wid jy : Nat} (h : jy < 16) : lbs wid (2 ^ jy) = 2 ^ (jy / wid) := by
  have := lbs_or (wid := wid) (o := 0) h
  rw [lbs_0, Nat.zero_or, Nat.zero_or] at this
  exact this
theorem lbs_sub {wid o b : Nat} {i : Nat} (h : (lbs wid (wo o b)).testBit i = true) : (lbs wid o).testBit i = true := by
  rw [lbs_bit] at h ⊢
  obtain ⟨k, h1, h2, h3⟩ := h
  rw [wo_bit] at h2
  exact ⟨k, h1, by cases q : o.testBit k <;> simp_all, h3⟩
theorem and0_comm {a b : Nat} (h : a &&& b = 0) : b &&& a = 0 := by rw [Nat.and_comm]; exact h
theorem alM_iff {mid bro j : Nat} : alM mid bro j = true ↔ j < mid ∧ bro.testBit j = false := by
  show (wo (2 ^ mid - 1) bro).testBit j = true ↔ _
  rw [wo_bit, Nat.testBit_two_pow_sub_one]
  cases bro.testBit j <;> simp
/-- the links of a valid plan -/
theorem ok_of_val {n wid : Nat} {al : Nat → Bool} {fr to π inp outs brd : Nat → Nat} (hV : Val n al fr to π) (h1 : ∀ c, c < n → fr c = 2 ^ (inp c / wid)) (h2 : ∀ c, c < n → to c = lbs wid (outs c)) (h3 : ∀ c, c < n → brd c = π c) : Ok1 n wid inp outs brd := by
  have key : ∀ c d, c < n → d < c → brd d = brd c → 2 ^ (inp d / wid) &&& 2 ^ (inp c / wid) = 0 ∧ lbs wid (outs d) &&& lbs wid (outs c) = 0 := by
    intro c d hc hd e
    have := (hV c hc).2.2 d hd (by rw [← h3 c hc, ← h3 d (by omega)]; exact e)
    rw [h1 c hc, h1 d (by omega), h2 c hc, h2 d (by omega)] at this
    exact this
  intro c d hc hd hne e
  rcases Nat.lt_trichotomy c d with g | g | g
  · exact key d c hd g e
  · exact absurd g hne
  · have := key c d hc g e.symm
    exact ⟨and0_comm this.1, and0_comm this.2⟩
section Inv
variable {fst wid mid las pat bro mov cnt : Nat} {inp outs brd mvd got owe : Nat → Nat} {x y r : Int32} {mov' cnt' : Nat} {inp' outs' brd' mvd' got' owe' : Nat → Nat}
theorem inv_ac (hI : INVq fst wid mid las pat bro cnt inp outs brd) (h : ACq fst wid mid las pat bro mov cnt inp outs brd mvd got owe x y r mov' cnt' inp' outs' brd' mvd' got' owe') : INVq fst wid mid las pat bro cnt' inp' outs' brd' := by
  rcases h with ⟨-, -, e⟩ | ⟨-, -, e⟩ | ⟨jx, jy, k, π, brd1, mvd1, -, hjx, -, hjy, hfi, hfo, hc16, -, -, hO, hMO, e1, e2, e3, e4, -⟩
  · obtain ⟨-, rfl, rfl, rfl, rfl, -⟩ := e
    exact hI
  · obtain ⟨-, rfl, rfl, rfl, rfl, -⟩ := e
    exact hI
  · obtain ⟨hF, hW, hM, hL, hP, hB, hC, h16, hc, hcd, -⟩ := hI
    have hx16 : jx < 16 := Nat.lt_of_lt_of_le hjx (mul16 hF.2 hW.2)
    have hy16 : jy < 16 := Nat.lt_of_lt_of_le hjy (mul16 hL.2 hW.2)
    subst e1 e2 e3 e4
    have hV := hO.1
    have hb : ∀ c, c < cnt + 1 → va_up brd1 cnt (π cnt) c = π c := by
      intro c hc
      by_cases e : c = cnt
      · subst e; exact va_up_self _ _ _
      · rw [va_up_ne _ _ e, hMO.1 c (by omega), if_pos (by omega)]
    refine ⟨hF, hW, hM, hL, hP, hB, by omega, fun c hc2 => ?_, fun c hc2 => ?_, fun c d hc2 hd2 hne => ?_, ?_⟩
    · by_cases e : c = cnt
      · subst e
        rw [va_up_self, va_up_self, va_up_self]
        exact ⟨hx16, Nat.pow_lt_pow_right (by decide) hy16, (hV c (by omega)).1⟩
      · rw [va_up_ne _ _ e, va_up_ne _ _ e, va_up_ne _ _ e]
        refine ⟨(h16 c hc2).1, (h16 c hc2).2.1, ?_⟩
        rw [hMO.1 c hc2]
        split
        · exact (hV c (by omega)).1
        · exact (h16 c hc2).2.2
    · have hal := alM_iff.mp (hV c (by omega)).2.1
      rw [hb c hc2]
      by_cases e : c = cnt
      · subst e
        rw [va_up_self, va_up_self]
        exact ⟨hjx, Nat.pow_lt_pow_right (by decide) hjy, Nat.ne_of_gt (Nat.two_pow_pos _), hal.1, hal.2⟩
      · rw [va_up_ne _ _ e, va_up_ne _ _ e]
        have q := hc c (by omega)
        exact ⟨q.1, q.2.1, q.2.2.1, hal.1, hal.2⟩
    · by_cases e : c = cnt
      · subst e
        have hd3 : d < c := by omega
        rw [va_up_self, va_up_self, va_up_ne _ _ (fun q => hne q.symm), va_up_ne _ _ (fun q => hne q.symm)]
        refine ⟨fun q => hfi d hd3 q.symm, and0_comm (and_p2 ?_)⟩
        have := hfo d hd3
        cases q : (outs d).testBit jy
        · rfl
        · exact absurd q this
      · by_cases e2 : d = cnt
        · subst e2
          have hd3 : c < d := by omega
          rw [va_up_self, va_up_self, va_up_ne _ _ e, va_up_ne _ _ e]
          refine ⟨fun q => hfi c hd3 q, and_p2 ?_⟩
          have := hfo c hd3
          cases q : (outs c).testBit jy
          · rfl
          · exact absurd q this
        · rw [va_up_ne _ _ e, va_up_ne _ _ e, va_up_ne _ _ e2, va_up_ne _ _ e2]
          exact hcd c d (by omega) (by omega) hne
    · refine ok_of_val hV (fun c hc2 => ?_) (fun c hc2 => ?_) hb
      · unfold frN
        by_cases e : c = cnt
        · subst e; rw [if_neg (Nat.lt_irrefl _), va_up_self]
        · rw [if_pos (by omega), va_up_ne _ _ e]
      · unfold toN
        by_cases e : c = cnt
        · subst e; rw [if_neg (Nat.lt_irrefl _), va_up_self, lbs_p2 hy16]
        · rw [if_pos (by omega), va_up_ne _ _ e]
theorem inv_ao (hI : INVq fst wid mid las pat bro cnt inp outs brd) (h : AOq wid mid las pat bro mov cnt inp outs brd mvd got owe x y r mov' cnt' inp' outs' brd' mvd' got' owe') : INVq fst wid mid las pat bro cnt' inp' outs' brd' := by
  rcases h with ⟨-, -, e⟩ | ⟨-, -, e⟩ | ⟨ca, jy, k, π, -, hca, -, hjy, hfo, -, -, -, hO, hMO, e1, e2, e3⟩
  · obtain ⟨-, rfl, rfl, rfl, rfl, -⟩ := e
    exact hI
  · obtain ⟨-, rfl, rfl, rfl, rfl, -⟩ := e
    exact hI
  · obtain ⟨hF, hW, hM, hL, hP, hB, hC, h16, hc, hcd, -⟩ := hI
    have hy16 : jy < 16 := Nat.lt_of_lt_of_le hjy (mul16 hL.2 hW.2)
    subst e1 e2 e3
    have hV := hO.1
    have hb : ∀ c, c < cnt' → brd' c = π c := fun c hc => by rw [hMO.1 c (by omega), if_pos hc]
    have hbit : ∀ d, d < cnt' → (outs d).testBit jy = false := fun d hd => by
      have := hfo d hd
      cases q : (outs d).testBit jy
      · rfl
      · exact absurd q this
    refine ⟨hF, hW, hM, hL, hP, hB, hC, fun c hc2 => ⟨(h16 c hc2).1, ?_, ?_⟩, fun c hc2 => ?_, fun c d hc2 hd2 hne => ⟨(hcd c d hc2 hd2 hne).1, ?_⟩, ?_⟩
    · by_cases e : c = ca
      · subst e; rw [va_up_self]; exact lt_2pow16_or (h16 c hc2).2.1 (Nat.pow_lt_pow_right (by decide) hy16)
      · rw [va_up_ne _ _ e]; exact (h16 c hc2).2.1
    · rw [hMO.1 c hc2]
      split
      · exact (hV c (by omega)).1
      · exact (h16 c hc2).2.2
    · have hal := alM_iff.mp (hV c (by omega)).2.1
      rw [hb c hc2]
      have q := hc c hc2
      refine ⟨q.1, ?_, ?_, hal.1, hal.2⟩
      · by_cases e : c = ca
        · subst e; rw [va_up_self]; exact Nat.or_lt_two_pow q.2.1 (Nat.pow_lt_pow_right (by decide) hjy)
        · rw [va_up_ne _ _ e]; exact q.2.1
      · by_cases e : c = ca
        · subst e; rw [va_up_self]
          intro z
          have z1 := congrArg (fun n => n.testBit jy) z
          simp [Nat.testBit_or, Nat.testBit_two_pow] at z1
        · rw [va_up_ne _ _ e]; exact q.2.2.1
    · have h0 := (hcd c d hc2 hd2 hne).2
      by_cases e : c = ca
      · subst e
        rw [va_up_self, va_up_ne _ _ (fun q => hne q.symm), Nat.and_or_distrib_right, h0, Nat.zero_or]
        exact and0_comm (and_p2 (hbit d hd2))
      · by_cases e2 : d = ca
        · subst e2
          rw [va_up_self, va_up_ne _ _ e, Nat.and_or_distrib_left, h0, Nat.zero_or]
          exact and_p2 (hbit c hc2)
        · rw [va_up_ne _ _ e, va_up_ne _ _ e2]; exact h0
    · refine ok_of_val hV (fun c hc2 => rfl) (fun c hc2 => ?_) hb
      unfold toM
      by_cases e : c = ca
      · subst e; rw [if_pos rfl, va_up_self, lbs_or hy16]
      · rw [if_neg e, va_up_ne _ _ e]
theorem inv_hg (hI : INVq fst wid mid las pat bro cnt inp outs brd) (h : HGq cnt inp outs brd mvd x r cnt' inp' outs' brd' mvd') : INVq fst wid mid las pat bro cnt' inp' outs' brd' := by
  rcases h with ⟨-, -, rfl, rfl, rfl, rfl, -⟩ | ⟨ca, -, hca, -, rfl, s1, s2, s3, -⟩
  · exact hI
  · obtain ⟨hF, hW, hM, hL, hP, hB, hC, h16, hc, hcd, hok⟩ := hI
    have hat : ∀ c, c < 16 → ∃ c2, c2 < 16 ∧ inp' c = inp c2 ∧ outs' c = outs c2 ∧ brd' c = brd c2 ∧ (c < cnt - 1 → c2 < cnt ∧ c2 = if ca ≤ c then c + 1 else c) := by
      intro c hc16
      by_cases g : ca ≤ c ∧ c < cnt - 1
      · refine ⟨c + 1, by omega, ?_, ?_, ?_, fun _ => ⟨by omega, by rw [if_pos g.1]⟩⟩
        · rw [s1 c hc16, if_pos g]
        · rw [s2 c hc16, if_pos g]
        · rw [s3 c hc16, if_pos g]
      · refine ⟨c, hc16, ?_, ?_, ?_, fun h => ⟨by omega, by rw [if_neg (by omega)]⟩⟩
        · rw [s1 c hc16, if_neg g]
        · rw [s2 c hc16, if_neg g]
        · rw [s3 c hc16, if_neg g]
    have hne2 : ∀ {c d c2 d2 : Nat}, c ≠ d → (c2 = if ca ≤ c then c + 1 else c) → (d2 = if ca ≤ d then d + 1 else d) → c2 ≠ d2 := by
      intro c d c2 d2 h e1 e2
      split at e1 <;> split at e2 <;> omega
    refine ⟨hF, hW, hM, hL, hP, hB, by omega, fun c hc2 => ?_, fun c hc2 => ?_, fun c d hc2 hd2 hne => ?_, fun c d hc2 hd2 hne he => ?_⟩
    · obtain ⟨c2, g, e1, e2, e3, -⟩ := hat c hc2
      rw [e1, e2, e3]; exact h16 c2 g
    · obtain ⟨c2, g, e1, e2, e3, e4⟩ := hat c (by omega)
      rw [e1, e2, e3]; exact hc c2 (e4 hc2).1
    · obtain ⟨c2, g, e1, e2, e3, e4⟩ := hat c (by omega)
      obtain ⟨d2, g', f1, f2, f3, f4⟩ := hat d (by omega)
      rw [e1, e2, f1, f2]
      exact hcd c2 d2 (e4 hc2).1 (f4 hd2).1 (hne2 hne (e4 hc2).2 (f4 hd2).2)
    · obtain ⟨c2, g, e1, e2, e3, e4⟩ := hat c (by omega)
      obtain ⟨d2, g', f1, f2, f3, f4⟩ := hat d (by omega)
      rw [e3, f3] at he
      rw [e1, e2, f1, f2]
      exact hok c2 d2 (e4 hc2).1 (f4 hd2).1 (hne2 hne (e4 hc2).2 (f4 hd2).2) he
theorem inv_dr (hI : INVq fst wid mid las pat bro cnt inp outs brd) (h : DRq las wid cnt outs y r outs') : INVq fst wid mid las pat bro cnt inp outs' brd := by
  rcases h with ⟨-, -, rfl⟩ | ⟨-, -, rfl⟩ | ⟨jy, ca, -, hjy, hca, hbit, hne1, -, rfl⟩
  · exact hI
  · exact hI
  · obtain ⟨hF, hW, hM, hL, hP, hB, hC, h16, hc, hcd, hok⟩ := hI
    have hsub : ∀ c i, (va_up outs ca (wo (outs ca) (2 ^ jy)) c).testBit i = true → (outs c).testBit i = true := by
      intro c i h
      by_cases e : c = ca
      · subst e; rw [va_up_self, wo_bit] at h
        cases q : (outs c).testBit i <;> simp_all
      · rw [va_up_ne _ _ e] at h; exact h
    have hlt : ∀ c n, outs c < 2 ^ n → va_up outs ca (wo (outs ca) (2 ^ jy)) c < 2 ^ n := by
      intro c n h
      apply Nat.lt_pow_two_of_testBit
      intro i hi
      cases q : (va_up outs ca (wo (outs ca) (2 ^ jy)) c).testBit i
      · rfl
      · have := hsub c i q
        rw [Nat.testBit_lt_two_pow (Nat.lt_of_lt_of_le h (Nat.pow_le_pow_right (by decide) hi))] at this
        cases this
    have hand : ∀ c d, outs c &&& outs d = 0 → va_up outs ca (wo (outs ca) (2 ^ jy)) c &&& va_up outs ca (wo (outs ca) (2 ^ jy)) d = 0 := by
      intro c d h
      rw [and0_iff] at h ⊢
      exact fun i ⟨g1, g2⟩ => h i ⟨hsub c i g1, hsub d i g2⟩
    have hlsub : ∀ c i, (lbs wid (va_up outs ca (wo (outs ca) (2 ^ jy)) c)).testBit i = true → (lbs wid (outs c)).testBit i = true := by
      intro c i h
      by_cases e : c = ca
      · subst e; rw [va_up_self] at h; exact lbs_sub h
      · rw [va_up_ne _ _ e] at h; exact h
    refine ⟨hF, hW, hM, hL, hP, hB, hC, fun c hc2 => ⟨(h16 c hc2).1, hlt c 16 (h16 c hc2).2.1, (h16 c hc2).2.2⟩, fun c hc2 => ⟨(hc c hc2).1, hlt c _ (hc c hc2).2.1, ?_, (hc c hc2).2.2.2⟩, fun c d hc2 hd2 hne => ⟨(hcd c d hc2 hd2 hne).1, hand c d (hcd c d hc2 hd2 hne).2⟩, fun c d hc2 hd2 hne he => ⟨(hok c d hc2 hd2 hne he).1, ?_⟩⟩
    · by_cases e : c = ca
      · subst e
        rw [va_up_self]
        intro z
        refine hne1 (Nat.eq_of_testBit_eq fun i => ?_)
        rw [Nat.testBit_two_pow]
        by_cases q : jy = i
        · subst q; rw [hbit]; simp
        · have z1 := congrArg (fun n => n.testBit i) z
          simp only [wo_bit, Nat.zero_testBit, Nat.testBit_two_pow, q] at z1
          simp only [q, decide_false]
          cases q2 : (outs c).testBit i <;> simp_all
      · rw [va_up_ne _ _ e]; exact (hc c hc2).2.2.1
    · have := (hok c d hc2 hd2 hne he).2
      rw [and0_iff] at this ⊢
      exact fun i ⟨g1, g2⟩ => this i ⟨hlsub c i g1, hlsub d i g2⟩
theorem inv_bk {bro' is : Nat} (hI : INVq fst wid mid las pat bro cnt inp outs brd) (his : is < 2) (h : BKq mid bro cnt brd x is r bro') : INVq fst wid mid las pat bro' cnt inp outs brd := by
  rcases h with ⟨-, -, rfl⟩ | ⟨-, -, rfl⟩ | ⟨mb, -, hmb, hno, hbr, -⟩
  · exact hI
  · exact hI
  · obtain ⟨hF, hW, hM, hL, hP, hB, hC, h16, hc, hcd, hok⟩ := hI
    refine ⟨hF, hW, hM, hL, hP, ?_, hC, h16, fun c hc2 => ⟨(hc c hc2).1, (hc c hc2).2.1, (hc c hc2).2.2.1, (hc c hc2).2.2.2.1, ?_⟩, hcd, hok⟩
    · rw [hbr]
      split
      · apply Nat.lt_pow_two_of_testBit
        intro i hi
        rw [wo_bit, Nat.testBit_lt_two_pow (Nat.lt_of_lt_of_le hB (Nat.pow_le_pow_right (by decide) hi))]
        rfl
      · exact Nat.or_lt_two_pow hB (Nat.pow_lt_pow_right (by decide) hmb)
    · have q := (hc c hc2).2.2.2.2
      rw [hbr]
      split
      · rw [wo_bit, q]; rfl
      · rename_i g
        rw [Nat.testBit_or, q, Nat.testBit_two_pow, Bool.false_or]
        have := hno (by omega) c hc2
        simp
        exact fun e => this e.symm
theorem inv_cm {lt na : Nat} {ro : Int32} {pat' bro' : Nat} (hI : INVq fst wid mid las pat bro cnt inp outs brd) (hna : lt = 112 → na ≤ 3) (h : CMq fst wid mid las pat bro mov cnt inp outs brd mvd got owe lt na ro r pat' bro' mov' cnt' inp' outs' brd' mvd' got' owe') : INVq fst wid mid las pat' bro' cnt' inp' outs' brd' := by
  rcases h with ⟨-, h, rfl, rfl⟩ | ⟨-, h, rfl, rfl⟩ | ⟨-, h, -, -, -, rfl, rfl⟩ | ⟨-, h, e, rfl⟩ | ⟨e0, -, rfl, rfl, e⟩
  · exact inv_ac hI h
  · exact inv_ao hI h
  · exact inv_hg hI h
  · obtain ⟨-, rfl, rfl, rfl, rfl, -⟩ := e
    exact inv_bk hI (by split <;> omega) h
  · obtain ⟨-, rfl, rfl, rfl, rfl, -⟩ := e
    exact ⟨hI.1, hI.2.1, hI.2.2.1, hI.2.2.2.1, hna e0, hI.2.2.2.2.2⟩
end Inv

