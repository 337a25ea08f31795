/-! plans: who goes by which middle board; moves; the best plan -/
theorem lt_trans2 {a : Nat} (h : a < 65536) : a < 2147483648 := Nat.lt_trans h (by decide)
def mv (b : Int32) (p : Nat) : Nat := if b = -1 ∨ b = nI p then 0 else 1
def Mvs (n : Nat) (bf : Nat → Int32) (π : Nat → Nat) : Nat := sumTo (fun c => mv (bf c) (π c)) n
def Val (n : Nat) (al : Nat → Bool) (fr to π : Nat → Nat) : Prop := ∀ c, c < n → π c < 4 ∧ al (π c) = true ∧ ∀ d, d < c → π d = π c → fr d &&& fr c = 0 ∧ to d &&& to c = 0
def lexLt (n : Nat) (ρ π : Nat → Nat) : Prop := ∃ c, c < n ∧ ρ c < π c ∧ ∀ d, d < c → ρ d = π d
def Opt (n : Nat) (al : Nat → Bool) (fr to : Nat → Nat) (bf : Nat → Int32) (π : Nat → Nat) (k : Nat) : Prop :=
  Val n al fr to π ∧ Mvs n bf π = k ∧ ∀ ρ, Val n al fr to ρ → k ≤ Mvs n bf ρ ∧ (Mvs n bf ρ = k → ¬ lexLt n ρ π)
def cdN : Nat → (Nat → Nat) → Nat
  | 0, _ => 0
  | n + 1, π => cdN n π * 4 + π n
theorem cdN_congr : ∀ {n : Nat} {ρ π : Nat → Nat}, (∀ d, d < n → ρ d = π d) → cdN n ρ = cdN n π
  | 0, _, _, _ => rfl
  | n + 1, ρ, π, h => by
    unfold cdN
    rw [cdN_congr (n := n) (fun d hd => h d (by omega)), h n (by omega)]
theorem cdN_lt : ∀ {n : Nat} {ρ π : Nat → Nat}, (∀ d, d < n → ρ d < 4) → lexLt n ρ π → cdN n ρ < cdN n π
  | 0, _, _, _, ⟨c, h, _⟩ => absurd h (Nat.not_lt_zero c)
  | n + 1, ρ, π, hr, ⟨c, h1, h2, h3⟩ => by
    unfold cdN
    by_cases hc : c = n
    · subst hc
      rw [cdN_congr (n := c) h3]; omega
    · have := cdN_lt (n := n) (ρ := ρ) (π := π) (fun d hd => hr d (by omega)) ⟨c, by omega, h2, h3⟩
      have := hr n (by omega)
      omega
theorem first_diff {n : Nat} {ρ π : Nat → Nat} : (∀ d, d < n → ρ d = π d) ∨ lexLt n ρ π ∨ lexLt n π ρ := by
  induction n with
  | zero => exact Or.inl (fun d h => absurd h (Nat.not_lt_zero d))
  | succ n ih =>
    rcases ih with h | ⟨c, h1, h2, h3⟩ | ⟨c, h1, h2, h3⟩
    · rcases Nat.lt_trichotomy (ρ n) (π n) with g | g | g
      · exact Or.inr (Or.inl ⟨n, by omega, g, h⟩)
      · left; intro d hd
        by_cases e : d = n
        · subst e; exact g
        · exact h d (by omega)
      · exact Or.inr (Or.inr ⟨n, by omega, g, fun d hd => (h d hd).symm⟩)
    · exact Or.inr (Or.inl ⟨c, by omega, h2, h3⟩)
    · exact Or.inr (Or.inr ⟨c, by omega, h2, h3⟩)
theorem opt_unique {n : Nat} {al : Nat → Bool} {fr to : Nat → Nat} {bf : Nat → Int32} {π ρ : Nat → Nat} {k j : Nat} (h : Opt n al fr to bf π k) (g : Opt n al fr to bf ρ j) : k = j ∧ ∀ c, c < n → π c = ρ c := by
  have h1 := (h.2.2 ρ g.1).1
  have h2 := (g.2.2 π h.1).1
  rw [g.2.1] at h1
  rw [h.2.1] at h2
  have e : k = j := Nat.le_antisymm h1 h2
  subst e
  refine ⟨rfl, ?_⟩
  rcases first_diff (n := n) (ρ := π) (π := ρ) with q | q | q
  · exact q
  · exact absurd q ((g.2.2 π h.1).2 h.2.1)
  · exact absurd q ((h.2.2 ρ g.1).2 g.2.1)
theorem opt_exists {n : Nat} {al : Nat → Bool} {fr to : Nat → Nat} {bf : Nat → Int32} {ρ : Nat → Nat} (h : Val n al fr to ρ) : ∃ π k, Opt n al fr to bf π k := by
  obtain ⟨k, ⟨π0, hv0, hk0⟩, hmin⟩ := pk_least (fun k => ∃ π, Val n al fr to π ∧ Mvs n bf π = k) ⟨_, ρ, h, rfl⟩
  obtain ⟨cd, ⟨π, hv, hk, hcd⟩, hmin2⟩ := pk_least (fun cd => ∃ π, Val n al fr to π ∧ Mvs n bf π = k ∧ cdN n π = cd) ⟨_, π0, hv0, hk0, rfl⟩
  refine ⟨π, k, hv, hk, fun σ hσ => ⟨?_, fun e hl => ?_⟩⟩
  · rcases Nat.lt_or_ge (Mvs n bf σ) k with g | g
    · exact absurd ⟨σ, hσ, rfl⟩ (hmin _ g)
    · exact g
  · have := cdN_lt (fun d hd => (hσ d hd).1) hl
    rw [hcd] at this
    exact hmin2 _ this ⟨σ, hσ, e, rfl⟩
/-- another way to tell the same problem -/
theorem val_congr {n : Nat} {al al' : Nat → Bool} {fr fr' to to' π π' : Nat → Nat} (ha : ∀ j, j < 4 → al j = al' j) (hf : ∀ c d, c < n → d < n → c ≠ d → ((fr c &&& fr d = 0 ∧ to c &&& to d = 0) ↔ (fr' c &&& fr' d = 0 ∧ to' c &&& to' d = 0))) (hp : ∀ c, c < n → π c = π' c) (h : Val n al fr to π) : Val n al' fr' to' π' := by
  intro c hc
  obtain ⟨h1, h2, h3⟩ := h c hc
  rw [← hp c hc]
  refine ⟨h1, (ha _ h1) ▸ h2, fun d hd e => ?_⟩
  rw [← hp d (by omega)] at e
  exact (hf d c (by omega) hc (by omega)).mp (h3 d hd e)
/-- what is held: which calls, where, and the boards' unions -/
def PI (n : Nat) (a : Int32) (al : Nat → Bool) (fr to : Nat → Nat) (bf : Nat → Int32) (hd : Nat → Bool) (tr : Nat → Int32) (hf ht : Nat → Nat) : Prop :=
  (∀ c, hd c = true → c < n) ∧ (∀ c, hd c = true → ∃ j, j < 4 ∧ tr c = nI j ∧ al j = true) ∧
  (∀ j, j < 4 → ∀ i, (hf j).testBit i = true ↔ ∃ c, hd c = true ∧ tr c = nI j ∧ (fr c).testBit i = true) ∧
  (∀ j, j < 4 → ∀ i, (ht j).testBit i = true ↔ ∃ c, hd c = true ∧ tr c = nI j ∧ (to c).testBit i = true) ∧
  (∀ c d, hd c = true → hd d = true → c ≠ d → tr c = tr d → fr c &&& fr d = 0 ∧ to c &&& to d = 0) ∧
  (∀ c, c < n → hd c = false → nI c ≠ a → tr c = bf c)
/-- where the calls were, but for the one that asks -/
def PB (n : Nat) (a : Int32) (fr to : Nat → Nat) (bf : Nat → Int32) : Prop :=
  (∀ c, c < n → nI c ≠ a → ∃ j, j < 4 ∧ bf c = nI j) ∧ ∀ c d, c < n → d < n → c ≠ d → nI c ≠ a → nI d ≠ a → bf c = bf d → fr c &&& fr d = 0 ∧ to c &&& to d = 0
def Fits (al : Nat → Bool) (fr to hf ht : Nat → Nat) (c : Nat) (m : Int32) : Prop := ∃ j, j < 4 ∧ m = nI j ∧ al j = true ∧ hf j &&& fr c = 0 ∧ ht j &&& to c = 0
def hmv (n : Nat) (bf : Nat → Int32) (hd : Nat → Bool) (tr : Nat → Int32) : Nat := sumTo (fun c => if hd c = true then (if bf c = -1 ∨ bf c = tr c then 0 else 1) else 0) n
def hct (n : Nat) (hd : Nat → Bool) : Nat := sumTo (fun c => (hd c).toNat) n
theorem and0_iff {a b : Nat} : a &&& b = 0 ↔ ∀ i, ¬ (a.testBit i = true ∧ b.testBit i = true) := by
  constructor
  · intro h i ⟨h1, h2⟩
    have : (a &&& b).testBit i = true := by rw [Nat.testBit_and, h1, h2]; rfl
    rw [h] at this; simp at this
  · intro h
    apply Nat.eq_of_testBit_eq
    intro i
    rw [Nat.testBit_and, Nat.zero_testBit]
    have := h i
    cases h1 : a.testBit i <;> cases h2 : b.testBit i <;> simp_all
theorem nI_inj4 {i j : Nat} (hi : i < 2147483648) (hj : j < 2147483648) (h : nI i = nI j) : i = j := (nI_eq hi hj).mp h
theorem and0_c {a b : Nat} (h : a &&& b = 0) : b &&& a = 0 := by rw [Nat.and_comm]; exact h
theorem sumTo_upd {f g : Nat → Nat} {c d : Nat} (hc : ∀ k, k ≠ c → f k = g k) (hd : f c = g c + d) : ∀ {n : Nat}, c < n → sumTo f n = sumTo g n + d
  | 0, h => absurd h (Nat.not_lt_zero c)
  | n + 1, h => by
    show sumTo f n + f n = sumTo g n + g n + d
    by_cases e : c = n
    · subst e
      rw [sumTo_congr (fun k hk => hc k (by omega)), hd]; omega
    · rw [sumTo_upd hc hd (n := n) (by omega), hc n (fun q => e q.symm)]; omega
theorem pi_hold {n : Nat} {a : Int32} {al : Nat → Bool} {fr to : Nat → Nat} {bf : Nat → Int32} {hd : Nat → Bool} {tr : Nat → Int32} {hf ht : Nat → Nat} {c j : Nat} (h : PI n a al fr to bf hd tr hf ht) (hc : c < n) (hn : hd c = false) (hj : j < 4) (hF : Fits al fr to hf ht c (nI j)) :
    PI n a al fr to bf (fun k => hd k || decide (k = c)) (upd tr c (nI j)) (va_up hf j (hf j ||| fr c)) (va_up ht j (ht j ||| to c)) := by
  obtain ⟨h1, h2, h3, h4, h5, h6⟩ := h
  obtain ⟨j', hj', e', ha, hf0, ht0⟩ := hF
  have := nI_inj4 (by omega) (by omega) e'
  subst this
  have hu : ∀ k, k ≠ c → upd tr c (nI j) k = tr k := fun k hk => pk_un hk
  have hs : upd tr c (nI j) c = nI j := pk_us
  have key : ∀ (g : Nat → Nat) (H : Nat → Nat), (∀ j, j < 4 → ∀ i, (H j).testBit i = true ↔ ∃ c, hd c = true ∧ tr c = nI j ∧ (g c).testBit i = true) → ∀ q, q < 4 → ∀ i, (va_up H j (H j ||| g c) q).testBit i = true ↔ ∃ k, (hd k || decide (k = c)) = true ∧ upd tr c (nI j) k = nI q ∧ (g k).testBit i = true := by
    intro g H hH q hq i
    by_cases e : q = j
    · subst e
      rw [va_up_self, Nat.testBit_or, Bool.or_eq_true, hH q hq i]
      constructor
      · rintro (⟨k, k1, k2, k3⟩ | k)
        · have : k ≠ c := fun e => by rw [e, hn] at k1; cases k1
          exact ⟨k, by rw [k1]; rfl, by rw [hu k this]; exact k2, k3⟩
        · exact ⟨c, by simp, hs, k⟩
      · rintro ⟨k, k1, k2, k3⟩
        by_cases e : k = c
        · subst e; exact Or.inr k3
        · left; exact ⟨k, by simpa [e] using k1, by rw [hu k e] at k2; exact k2, k3⟩
    · rw [va_up_ne _ _ e, hH q hq i]
      constructor
      · rintro ⟨k, k1, k2, k3⟩
        have : k ≠ c := fun e => by rw [e, hn] at k1; cases k1
        exact ⟨k, by rw [k1]; rfl, by rw [hu k this]; exact k2, k3⟩
      · rintro ⟨k, k1, k2, k3⟩
        by_cases e2 : k = c
        · subst e2
          rw [hs] at k2
          exact absurd (nI_inj4 (by omega) (by omega) k2).symm e
        · exact ⟨k, by simpa [e2] using k1, by rw [hu k e2] at k2; exact k2, k3⟩
  refine ⟨?_, ?_, key fr hf h3, key to ht h4, ?_, ?_⟩
  · intro k hk
    by_cases e : k = c
    · subst e; exact hc
    · exact h1 k (by simpa [e] using hk)
  · intro k hk
    by_cases e : k = c
    · subst e; exact ⟨j, hj, hs, ha⟩
    · rw [hu k e]; exact h2 k (by simpa [e] using hk)
  · have one : ∀ k, hd k = true → k ≠ c → tr k = nI j → fr k &&& fr c = 0 ∧ to k &&& to c = 0 := by
      intro k hk e ek
      constructor
      · rw [and0_iff]; rintro i ⟨i1, i2⟩
        exact (and0_iff.mp hf0) i ⟨(h3 j hj i).mpr ⟨k, hk, ek, i1⟩, i2⟩
      · rw [and0_iff]; rintro i ⟨i1, i2⟩
        exact (and0_iff.mp ht0) i ⟨(h4 j hj i).mpr ⟨k, hk, ek, i1⟩, i2⟩
    intro k d hk hd' hkd e
    by_cases ek : k = c
    · subst ek
      have ed : d ≠ k := fun q => hkd q.symm
      rw [hs, hu d ed] at e
      have := one d (by simpa [ed] using hd') ed e.symm
      exact ⟨and0_c this.1, and0_c this.2⟩
    · by_cases ed : d = c
      · subst ed
        rw [hs, hu k ek] at e
        exact one k (by simpa [ek] using hk) ek e
      · rw [hu k ek, hu d ed] at e
        exact h5 k d (by simpa [ek] using hk) (by simpa [ed] using hd') hkd e
  · intro k hk hk2 hka
    have e : k ≠ c := fun e => by rw [e] at hk2; simp at hk2
    rw [hu k e]
    exact h6 k hk (by simpa [e] using hk2) hka
theorem hmv_hold {n : Nat} {bf : Nat → Int32} {hd : Nat → Bool} {tr : Nat → Int32} {c j : Nat} (hc : c < n) (hn : hd c = false) : hmv n bf (fun k => hd k || decide (k = c)) (upd tr c (nI j)) = hmv n bf hd tr + mv (bf c) j := by
  unfold hmv
  apply sumTo_upd (c := c) _ _ hc
  · intro k hk
    have e : decide (k = c) = false := by simp [hk]
    simp only [e, Bool.or_false, pk_un hk]
  · simp only [hn, pk_us]
    simp [mv]
theorem hct_hold {n : Nat} {hd : Nat → Bool} {c : Nat} (hc : c < n) (hn : hd c = false) : hct n (fun k => hd k || decide (k = c)) = hct n hd + 1 := by
  unfold hct
  apply sumTo_upd (c := c) _ _ hc
  · intro k hk
    have e : decide (k = c) = false := by simp [hk]
    simp only [e, Bool.or_false]
  · simp [hn]
theorem hct_le (n : Nat) (hd : Nat → Bool) : hct n hd ≤ n := by
  have := sumTo_le (f := fun c => (hd c).toNat) (b := 1) (n := n) (fun k _ => by cases hd k <;> decide)
  unfold hct; omega
theorem hct_lt {n : Nat} {hd : Nat → Bool} {c : Nat} (hc : c < n) (hn : hd c = false) : hct n hd < n := by
  have h1 := hct_hold (n := n) (hd := hd) hc hn
  have h2 := hct_le n (fun k => hd k || decide (k = c))
  omega
/-- every call fits: it is a plan, with as many moves as what is held -/
theorem pi_leaf {n : Nat} {a : Int32} {al : Nat → Bool} {fr to : Nat → Nat} {bf : Nat → Int32} {hd : Nat → Bool} {tr : Nat → Int32} {hf ht : Nat → Nat} (hn : n ≤ 16) (h : PI n a al fr to bf hd tr hf ht) (hb : PB n a fr to bf) (ha : ∀ c, c < n → nI c = a → hd c = true) (hall : ∀ c, c < n → hd c = true ∨ Fits al fr to hf ht c (tr c)) :
    Val n al fr to (fun c => (tr c).toNatClampNeg) ∧ Mvs n bf (fun c => (tr c).toNatClampNeg) = hmv n bf hd tr ∧ ∀ c, c < n → tr c = nI (tr c).toNatClampNeg := by
  obtain ⟨h1, h2, h3, h4, h5, h6⟩ := h
  obtain ⟨b1, b2⟩ := hb
  have at' : ∀ c, c < n → ∃ j, j < 4 ∧ tr c = nI j ∧ al j = true := by
    intro c hc
    rcases hall c hc with g | ⟨j, g1, g2, g3, -⟩
    · exact h2 c g
    · exact ⟨j, g1, g2, g3⟩
  have un : ∀ c, c < n → hd c = false → nI c ≠ a ∧ tr c = bf c := by
    intro c hc g
    have : nI c ≠ a := fun e => by rw [ha c hc e] at g; cases g
    exact ⟨this, h6 c hc g this⟩
  have mix : ∀ c d, c < n → d < n → hd c = true → hd d = false → tr c = tr d → fr c &&& fr d = 0 ∧ to c &&& to d = 0 := by
    intro c d hc hd' g1 g2 e
    rcases hall d hd' with g | ⟨j, q1, q2, -, q4, q5⟩
    · rw [g] at g2; cases g2
    · constructor
      · rw [and0_iff]; rintro i ⟨i1, i2⟩
        exact (and0_iff.mp q4) i ⟨(h3 j q1 i).mpr ⟨c, g1, by rw [e, q2], i1⟩, i2⟩
      · rw [and0_iff]; rintro i ⟨i1, i2⟩
        exact (and0_iff.mp q5) i ⟨(h4 j q1 i).mpr ⟨c, g1, by rw [e, q2], i1⟩, i2⟩
  have eqn : ∀ c, c < n → tr c = nI (tr c).toNatClampNeg := by
    intro c hc
    obtain ⟨j, hj, e, -⟩ := at' c hc
    rw [e, nI_clamp (by omega)]
  refine ⟨?_, ?_, eqn⟩
  · intro c hc
    obtain ⟨j, hj, e, hal⟩ := at' c hc
    have ej : (tr c).toNatClampNeg = j := by rw [e, nI_clamp (by omega)]
    refine ⟨by show (tr c).toNatClampNeg < 4; omega, by show al (tr c).toNatClampNeg = true; rw [ej]; exact hal, fun d hd' ed => ?_⟩
    have e2 : tr d = tr c := by
      have ed' : (tr d).toNatClampNeg = (tr c).toNatClampNeg := ed
      rw [eqn d (by omega), eqn c hc, ed']
    cases gd : hd d <;> cases gc : hd c
    · obtain ⟨u1, u2⟩ := un d (by omega) gd
      obtain ⟨u3, u4⟩ := un c hc gc
      exact b2 d c (by omega) hc (by omega) u1 u3 (by rw [← u2, ← u4, e2])
    · have := mix c d hc (by omega) gc gd e2.symm
      exact ⟨and0_c this.1, and0_c this.2⟩
    · exact mix d c (by omega) hc gd gc e2
    · exact h5 d c gd gc (by omega) e2
  · unfold Mvs hmv
    apply sumTo_congr
    intro c hc
    show mv (bf c) (tr c).toNatClampNeg = _
    unfold mv
    rw [← eqn c hc]
    cases g : hd c
    · have := (un c hc g).2
      simp [this]
    · rw [if_pos rfl]
/-- what a target plan that goes on with what is held tells -/
theorem ag_le {n : Nat} {bf : Nat → Int32} {hd : Nat → Bool} {tr : Nat → Int32} {π : Nat → Nat} (h : ∀ c, c < n → hd c = true → tr c = nI (π c)) : hmv n bf hd tr ≤ Mvs n bf π := by
  have : ∀ m, m ≤ n → hmv m bf hd tr ≤ Mvs m bf π := by
    intro m
    induction m with
    | zero => intro _; exact Nat.le_refl _
    | succ m ih =>
      intro hm
      have h1 := ih (by omega)
      show hmv m bf hd tr + _ ≤ Mvs m bf π + mv (bf m) (π m)
      apply Nat.add_le_add h1
      cases g : hd m
      · simp [g]
      · show (if hd m = true then (if bf m = -1 ∨ bf m = tr m then 0 else 1) else 0) ≤ _
        rw [if_pos g, h m (by omega) g]; exact Nat.le_refl _
  exact this n (Nat.le_refl _)
theorem ag_fits {n : Nat} {a : Int32} {al : Nat → Bool} {fr to : Nat → Nat} {bf : Nat → Int32} {hd : Nat → Bool} {tr : Nat → Int32} {hf ht π : Nat → Nat} {c : Nat} (h : PI n a al fr to bf hd tr hf ht) (hv : Val n al fr to π) (hag : ∀ c, c < n → hd c = true → tr c = nI (π c)) (hc : c < n) (hn : hd c = false) : Fits al fr to hf ht c (nI (π c)) := by
  obtain ⟨h1, h2, h3, h4, h5, h6⟩ := h
  obtain ⟨v1, v2, v3⟩ := hv c hc
  have key : ∀ k, hd k = true → tr k = nI (π c) → fr k &&& fr c = 0 ∧ to k &&& to c = 0 := by
    intro k hk e
    have hkn := h1 k hk
    rw [hag k hkn hk] at e
    have e' := nI_inj4 (by have := (hv k hkn).1; omega) (by omega) e
    have hkc : k ≠ c := fun q => by rw [q, hn] at hk; cases hk
    rcases Nat.lt_or_gt_of_ne hkc with g | g
    · exact v3 k g e'
    · have := (hv k hkn).2.2 c g e'.symm
      exact ⟨and0_c this.1, and0_c this.2⟩
  refine ⟨π c, v1, rfl, v2, ?_, ?_⟩
  · rw [and0_iff]; rintro i ⟨i1, i2⟩
    obtain ⟨k, k1, k2, k3⟩ := (h3 _ v1 i).mp i1
    exact (and0_iff.mp (key k k1 k2).1) i ⟨k3, i2⟩
  · rw [and0_iff]; rintro i ⟨i1, i2⟩
    obtain ⟨k, k1, k2, k3⟩ := (h4 _ v1 i).mp i1
    exact (and0_iff.mp (key k k1 k2).2) i ⟨k3, i2⟩
theorem sumTo_sep {f g : Nat → Nat} : ∀ {n : Nat}, (∀ k, k < n → f k ≤ g k) → sumTo g n ≤ sumTo f n → ∀ k, k < n → f k = g k
  | 0, _, _, k, hk => absurd hk (Nat.not_lt_zero k)
  | n + 1, h, hs, k, hk => by
    have hle : ∀ m, m ≤ n → sumTo f m ≤ sumTo g m := by
      intro m; induction m with
      | zero => intro _; exact Nat.le_refl _
      | succ m ih => intro hm; exact Nat.add_le_add (ih (by omega)) (h m (by omega))
    have h1 := hle n (Nat.le_refl _)
    have h2 := h n (Nat.lt_succ_self n)
    have hs' : sumTo g n + g n ≤ sumTo f n + f n := hs
    by_cases e : k = n
    · subst e; omega
    · exact sumTo_sep (n := n) (fun q hq => h q (by omega)) (by omega) k (by omega)
theorem ag_leaf {n : Nat} {a : Int32} {al : Nat → Bool} {fr to : Nat → Nat} {bf : Nat → Int32} {hd : Nat → Bool} {tr : Nat → Int32} {hf ht π : Nat → Nat} {k : Nat} (hn : n ≤ 16) (h : PI n a al fr to bf hd tr hf ht) (hb : PB n a fr to bf) (ha : ∀ c, c < n → nI c = a → hd c = true) (hall : ∀ c, c < n → hd c = true ∨ Fits al fr to hf ht c (tr c)) (ho : Opt n al fr to bf π k) (hag : ∀ c, c < n → hd c = true → tr c = nI (π c)) : hmv n bf hd tr = k ∧ ∀ c, c < n → tr c = nI (π c) := by
  obtain ⟨l1, l2, l3⟩ := pi_leaf hn h hb ha hall
  have h1 := (ho.2.2 _ l1).1
  rw [l2] at h1
  have h2 := ag_le (bf := bf) hag
  rw [ho.2.1] at h2
  have e : hmv n bf hd tr = k := Nat.le_antisymm h2 h1
  refine ⟨e, fun c hc => ?_⟩
  cases g : hd c
  · have hna : nI c ≠ a := fun q => by rw [ha c hc q] at g; cases g
    have e1 := h.2.2.2.2.2 c hc g hna
    have hle : ∀ q, q < n → (if hd q = true then (if bf q = -1 ∨ bf q = tr q then 0 else 1) else 0) ≤ mv (bf q) (π q) := by
      intro q hq
      cases gq : hd q
      · simp
      · rw [if_pos rfl, hag q hq gq]; exact Nat.le_refl _
    have hs := sumTo_sep hle (by show Mvs n bf π ≤ hmv n bf hd tr; rw [ho.2.1, e]; exact Nat.le_refl _) c hc
    rw [g] at hs
    have hs' : mv (bf c) (π c) = 0 := hs.symm
    obtain ⟨j, hj, ej⟩ := hb.1 c hc hna
    unfold mv at hs'
    rw [e1]
    by_cases q : bf c = -1 ∨ bf c = nI (π c)
    · rcases q with q | q
      · rw [ej] at q; exact absurd q (nI_m1 (by omega))
      · exact q
    · rw [if_neg q] at hs'; cases hs'
  · exact hag c hc g
/-- the best plan so far -/
def JB (n : Nat) (al : Nat → Bool) (fr to : Nat → Nat) (bf : Nat → Int32) (lim0 lim : Nat) (bm : Int32) (bs : Nat → Int32) : Prop :=
  (bm = -1 ∧ lim = lim0) ∨ ∃ (k : Nat) (π : Nat → Nat), bm = nI k ∧ lim = k ∧ k ≤ lim0 ∧ Val n al fr to π ∧ Mvs n bf π = k ∧ ∀ c, c < n → bs c = nI (π c)
def Hit (n : Nat) (π : Nat → Nat) (k : Nat) (bm : Int32) (bs : Nat → Int32) : Prop := bm = nI k ∧ ∀ c, c < n → bs c = nI (π c)
def Low (n : Nat) (tr bs : Nat → Int32) : Prop := ∃ c, c < n ∧ tr c < bs c ∧ ∀ d, d < c → tr d = bs d
theorem Mvs_le (n : Nat) (bf : Nat → Int32) (π : Nat → Nat) : Mvs n bf π ≤ n := by
  have := sumTo_le (f := fun c => mv (bf c) (π c)) (b := 1) (n := n) (fun k _ => by unfold mv; split <;> decide)
  unfold Mvs; omega
theorem jb_lim {n : Nat} {al : Nat → Bool} {fr to : Nat → Nat} {bf : Nat → Int32} {lim0 lim k : Nat} {bm : Int32} {bs : Nat → Int32} {π : Nat → Nat} (h : JB n al fr to bf lim0 lim bm bs) (ho : Opt n al fr to bf π k) (hk : k ≤ lim0) : k ≤ lim := by
  rcases h with ⟨-, e⟩ | ⟨j, ρ, -, e, -, hv, hm, -⟩
  · rw [e]; exact hk
  · have := (ho.2.2 ρ hv).1; omega
theorem jb_le {n : Nat} {al : Nat → Bool} {fr to : Nat → Nat} {bf : Nat → Int32} {lim0 lim : Nat} {bm : Int32} {bs : Nat → Int32} (h : JB n al fr to bf lim0 lim bm bs) : lim ≤ lim0 := by
  rcases h with ⟨-, e⟩ | ⟨j, ρ, -, e, hj, -⟩ <;> omega
theorem low_lex {n : Nat} {π ρ : Nat → Nat} {tr bs : Nat → Int32} (h1 : ∀ c, c < n → tr c = nI (π c) ∧ π c < 4) (h2 : ∀ c, c < n → bs c = nI (ρ c) ∧ ρ c < 4) : Low n tr bs ↔ lexLt n π ρ := by
  constructor
  · rintro ⟨c, c1, c2, c3⟩
    rw [(h1 c c1).1, (h2 c c1).1] at c2
    refine ⟨c, c1, (nI_ltI (by have := (h1 c c1).2; omega) (by have := (h2 c c1).2; omega)).mp c2, fun d hd => ?_⟩
    have := c3 d hd
    rw [(h1 d (by omega)).1, (h2 d (by omega)).1] at this
    exact nI_inj4 (by have := (h1 d (by omega)).2; omega) (by have := (h2 d (by omega)).2; omega) this
  · rintro ⟨c, c1, c2, c3⟩
    refine ⟨c, c1, ?_, fun d hd => ?_⟩
    · rw [(h1 c c1).1, (h2 c c1).1]
      exact (nI_ltI (by have := (h1 c c1).2; omega) (by have := (h2 c c1).2; omega)).mpr c2
    · rw [(h1 d (by omega)).1, (h2 d (by omega)).1, c3 d hd]
theorem keep_ok {n : Nat} {a : Int32} {al : Nat → Bool} {fr to : Nat → Nat} {bf : Nat → Int32} {hd : Nat → Bool} {tr : Nat → Int32} {hf ht : Nat → Nat} {lim0 lim lim' mo : Nat} {bm bm' : Int32} {bs bs' : Nat → Int32} (hn : n ≤ 16) (h : PI n a al fr to bf hd tr hf ht) (hb : PB n a fr to bf) (ha : ∀ c, c < n → nI c = a → hd c = true) (hall : ∀ c, c < n → hd c = true ∨ Fits al fr to hf ht c (tr c))
    (hj : JB n al fr to bf lim0 lim bm bs) (hm : mo = hmv n bf hd tr) (hl : mo ≤ lim)
    (hk : ((bm = -1 ∨ nI mo < bm ∨ Low n tr bs) ∧ bm' = nI mo ∧ lim' = mo ∧ ∀ k, k < 16 → bs' k = tr k) ∨ (¬ (bm = -1 ∨ nI mo < bm ∨ Low n tr bs) ∧ bm' = bm ∧ lim' = lim ∧ bs' = bs)) :
    JB n al fr to bf lim0 lim' bm' bs' ∧ ∀ π k, Opt n al fr to bf π k → k ≤ lim0 → (Hit n π k bm bs ∨ ∀ c, c < n → hd c = true → tr c = nI (π c)) → Hit n π k bm' bs' := by
  obtain ⟨l1, l2, l3⟩ := pi_leaf hn h hb ha hall
  rw [← hm] at l2
  have hmo : mo < 2147483648 := by have := Mvs_le n bf (fun c => (tr c).toNatClampNeg); omega
  have T : ∀ c, c < n → tr c = nI (tr c).toNatClampNeg ∧ (tr c).toNatClampNeg < 4 := fun c hc => ⟨l3 c hc, (l1 c hc).1⟩
  rcases hk with ⟨hp, rfl, rfl, hbs⟩ | ⟨hp, rfl, rfl, rfl⟩
  · refine ⟨Or.inr ⟨_, _, rfl, rfl, Nat.le_trans hl (jb_le hj), l1, l2, fun c hc => (hbs c (by omega)).trans (l3 c hc)⟩, ?_⟩
    intro π k ho hk0 hor
    rcases hor with ⟨e1, e2⟩ | hag
    · exfalso
      have hk1 := (ho.2.2 _ l1).1
      rw [l2] at hk1
      have hkn : k < 2147483648 := by omega
      rcases hj with ⟨g, -⟩ | ⟨j, ρ, g1, g2, -, -, g5, -⟩
      · rw [e1] at g; exact nI_m1 hkn g
      · have ejk : j = k := by
          rw [g1] at e1
          have := Mvs_le n bf ρ
          exact nI_inj4 (by omega) hkn e1
        subst ejk
        rcases hp with q | q | q
        · rw [e1] at q; exact nI_m1 hkn q
        · rw [e1] at q
          have := (nI_ltI hmo hkn).mp q; omega
        · have hlt := (low_lex T (fun c hc => ⟨e2 c hc, (ho.1 c hc).1⟩)).mp q
          exact (ho.2.2 _ l1).2 (by omega) hlt
    · obtain ⟨e1, e2⟩ := ag_leaf hn h hb ha hall ho hag
      exact ⟨by rw [hm, e1], fun c hc => (hbs c (by omega)).trans (e2 c hc)⟩
  · refine ⟨hj, ?_⟩
    intro π k ho hk0 hor
    rcases hor with g | hag
    · exact g
    · obtain ⟨e1, e2⟩ := ag_leaf hn h hb ha hall ho hag
      rcases hj with ⟨g, -⟩ | ⟨j, ρ, g1, g2, g3, hv, hm2, hbs⟩
      · exact absurd (Or.inl g) hp
      · have hj2 : j < 2147483648 := by have := Mvs_le n bf ρ; omega
        have h1 : ¬ mo < j := fun q => hp (Or.inr (Or.inl (by rw [g1]; exact (nI_ltI hmo hj2).mpr q)))
        have ejk : j = k := by omega
        subst ejk
        have hb2 : ∀ c, c < n → bs' c = nI (ρ c) ∧ ρ c < 4 := fun c hc => ⟨hbs c hc, (hv c hc).1⟩
        have ht2 : ∀ c, c < n → tr c = nI (π c) ∧ π c < 4 := fun c hc => ⟨e2 c hc, (ho.1 c hc).1⟩
        refine ⟨g1, fun c hc => ?_⟩
        rcases first_diff (n := n) (ρ := π) (π := ρ) with q | q | q
        · rw [hbs c hc, q c hc]
        · exact absurd (Or.inr (Or.inr ((low_lex ht2 hb2).mpr q))) hp
        · exact absurd q ((ho.2.2 ρ hv).2 hm2)
theorem hd_or (ph c : Nat) : (fun k => (ph ||| 2 ^ c).testBit k) = fun k => ph.testBit k || decide (k = c) := by
  funext k
  rw [Nat.testBit_or, Nat.testBit_two_pow]
  congr 1
  by_cases e : k = c
  · simp [e]
  · have e2 : ¬ c = k := fun q => e q.symm
    simp [e, e2]
theorem wo_or {ph b : Nat} (h : ph &&& b = 0) : wo (ph ||| b) b = ph := by
  apply Nat.eq_of_testBit_eq
  intro i
  rw [wo_bit, Nat.testBit_or]
  have := and0_iff.mp h i
  cases h1 : ph.testBit i <;> cases h2 : b.testBit i <;> simp_all
theorem and_p2 {ph c : Nat} (h : ph.testBit c = false) : ph &&& 2 ^ c = 0 := by
  rw [and0_iff]
  rintro i ⟨h1, h2⟩
  rw [Nat.testBit_two_pow] at h2
  have : c = i := by simpa using h2
  subst this
  rw [h] at h1; cases h1
theorem up_wo {hf : Nat → Nat} {j b : Nat} (h : hf j &&& b = 0) : va_up (va_up hf j (hf j ||| b)) j (wo (va_up hf j (hf j ||| b) j) b) = hf := by
  funext k
  unfold va_up
  by_cases e : k = j
  · subst e; simp [wo_or h]
  · simp [e]
theorem and_lt31 {a b : Nat} (h : a < 65536) : a &&& b < 2147483648 := Nat.lt_of_le_of_lt Nat.and_le_left (by omega)
def PQ (pn ph pl pm : Nat) (pfr pto phf pht : Nat → Nat) : Prop := pn ≤ 16 ∧ ph < 65536 ∧ pl < 65536 ∧ pm ≤ 16 ∧ (∀ c, c < 16 → pfr c < 65536 ∧ pto c < 65536) ∧ ∀ j, j < 4 → phf j < 65536 ∧ pht j < 65536
theorem i_nlt {a b : Int32} (h : b ≤ a) : ¬ a < b := by
  rw [Int32.lt_iff_toInt_lt]; rw [Int32.le_iff_toInt_le] at h; omega
theorem i_lt_of {a b : Int32} (h : ¬ b ≤ a) : a < b := by
  rw [Int32.lt_iff_toInt_lt]; rw [Int32.le_iff_toInt_le] at h; omega
theorem i_le_of {a b : Int32} (h : ¬ a < b) : b ≤ a := by
  rw [Int32.le_iff_toInt_le]; rw [Int32.lt_iff_toInt_lt] at h; omega
theorem low_no {n i : Nat} {tr bs : Nat → Int32} (hq : ∀ d, d < i → tr d = bs d) (h1 : ¬ tr i = bs i) (h2 : bs i ≤ tr i) : ¬ Low n tr bs := by
  rintro ⟨c, -, c2, c3⟩
  rcases Nat.lt_trichotomy c i with g | g | g
  · rw [hq c g] at c2; exact i_nlt (Int32.le_refl _) c2
  · subst g; exact i_nlt h2 c2
  · exact h1 (c3 i g)
theorem low_no2 {n : Nat} {tr bs : Nat → Int32} (hq : ∀ d, d < n → tr d = bs d) : ¬ Low n tr bs := by
  rintro ⟨c, c1, c2, -⟩
  rw [hq c c1] at c2; exact i_nlt (Int32.le_refl _) c2
def Ag (n ph : Nat) (tr : Nat → Int32) (π : Nat → Nat) : Prop := ∀ c, c < n → ph.testBit c = true → tr c = nI (π c)
/-- what one search does: the best so far stays one, a target that goes on with what is held is hit, the trial is as before -/
def SP (n : Nat) (a : Int32) (al : Nat → Bool) (fr to : Nat → Nat) (bf : Nat → Int32) (ph : Nat) (tr : Nat → Int32) (lim0 : Nat) (pb : Int32) (pbs : Nat → Int32) (tr' : Nat → Int32) (pm' : Nat) (pb' : Int32) (pbs' : Nat → Int32) : Prop :=
  JB n al fr to bf lim0 pm' pb' pbs' ∧ (∀ π k, Opt n al fr to bf π k → k ≤ lim0 → (Hit n π k pb pbs ∨ Ag n ph tr π) → Hit n π k pb' pbs') ∧ (∀ c, c < n → ph.testBit c = true → tr' c = tr c) ∧ ∀ c, c < n → ph.testBit c = false → nI c ≠ a → tr' c = bf c
def SL (n : Nat) (a : Int32) (al : Nat → Bool) (fr to : Nat → Nat) (bf : Nat → Int32) (ph : Nat) (tr : Nat → Int32) (lim0 : Nat) (pb : Int32) (pbs : Nat → Int32) (kk mb : Nat) (tr' : Nat → Int32) (pm' : Nat) (pb' : Int32) (pbs' : Nat → Int32) : Prop :=
  JB n al fr to bf lim0 pm' pb' pbs' ∧ (∀ π k, Opt n al fr to bf π k → k ≤ lim0 → (Hit n π k pb pbs ∨ (Ag n ph tr π ∧ π kk < mb)) → Hit n π k pb' pbs') ∧ (∀ c, c < n → ph.testBit c = true → tr' c = tr c) ∧ ∀ c, c < n → ph.testBit c = false → nI c ≠ a → tr' c = bf c
abbrev HD (ph : Nat) : Nat → Bool := fun k => ph.testBit k
section Settle
variable {n : Nat} {a : Int32} {al : Nat → Bool} {fr to : Nat → Nat} {bf : Nat → Int32} {ph : Nat} {tr tr1 tr2 : Nat → Int32} {hf ht : Nat → Nat} {lim0 lim pm1 mo kk mb : Nat} {pb pb1 : Int32} {pbs pbs1 : Nat → Int32}
theorem sp_stop (hI : PI n a al fr to bf (HD ph) tr hf ht) (hJ : JB n al fr to bf lim0 lim pb pbs) (hm : mo = hmv n bf (HD ph) tr) (h : lim < mo) : SP n a al fr to bf ph tr lim0 pb pbs tr lim pb pbs := by
  refine ⟨hJ, fun π k ho hk hor => ?_, fun _ _ _ => rfl, fun c hc h1 h2 => hI.2.2.2.2.2 c hc h1 h2⟩
  rcases hor with g | g
  · exact g
  · have h1 := ag_le (n := n) (bf := bf) (hd := HD ph) (tr := tr) (π := π) (fun c hc hh => g c hc hh)
    have h2 := jb_lim hJ ho hk
    rw [ho.2.1] at h1
    omega
theorem sp_keep {lim' : Nat} {pb' : Int32} {pbs' : Nat → Int32} (hn : n ≤ 16) (hI : PI n a al fr to bf (HD ph) tr hf ht) (hB : PB n a fr to bf) (ha : ∀ c, c < n → nI c = a → ph.testBit c = true) (hall : ∀ c, c < n → ph.testBit c = true ∨ Fits al fr to hf ht c (tr c)) (hJ : JB n al fr to bf lim0 lim pb pbs) (hm : mo = hmv n bf (HD ph) tr) (hl : mo ≤ lim)
    (hk : ((pb = -1 ∨ nI mo < pb ∨ Low n tr pbs) ∧ pb' = nI mo ∧ lim' = mo ∧ ∀ k, k < 16 → pbs' k = tr k) ∨ (¬ (pb = -1 ∨ nI mo < pb ∨ Low n tr pbs) ∧ pb' = pb ∧ lim' = lim ∧ pbs' = pbs)) : SP n a al fr to bf ph tr lim0 pb pbs tr lim' pb' pbs' := by
  obtain ⟨h1, h2⟩ := keep_ok (hd := HD ph) hn hI hB ha hall hJ hm hl hk
  exact ⟨h1, fun π k ho hk0 hor => h2 π k ho hk0 hor, fun _ _ _ => rfl, fun c hc g1 g2 => hI.2.2.2.2.2 c hc g1 g2⟩
theorem sl_0 (hI : PI n a al fr to bf (HD ph) tr hf ht) (hJ : JB n al fr to bf lim0 lim pb pbs) : SL n a al fr to bf ph tr lim0 pb pbs kk 0 tr lim pb pbs :=
  ⟨hJ, fun π k _ _ hor => hor.elim id (fun g => absurd g.2 (Nat.not_lt_zero _)), fun _ _ _ => rfl, fun c hc g1 g2 => hI.2.2.2.2.2 c hc g1 g2⟩
theorem sl_end (hkk : kk < n) (h4 : 4 ≤ mb) (h : SL n a al fr to bf ph tr lim0 pb pbs kk mb tr1 pm1 pb1 pbs1) : SP n a al fr to bf ph tr lim0 pb pbs tr1 pm1 pb1 pbs1 :=
  ⟨h.1, fun π k ho hk hor => h.2.1 π k ho hk (hor.imp id (fun g => ⟨g, Nat.lt_of_lt_of_le (ho.1 kk hkk).1 h4⟩)), h.2.2.1, h.2.2.2⟩
theorem sl_skip (hI : PI n a al fr to bf (HD ph) tr hf ht) (hkk : kk < n) (hun : ph.testBit kk = false) (hmb : mb < 4) (hno : ¬ Fits al fr to hf ht kk (nI mb)) (h : SL n a al fr to bf ph tr lim0 pb pbs kk mb tr1 pm1 pb1 pbs1) : SL n a al fr to bf ph tr lim0 pb pbs kk (mb + 1) tr1 pm1 pb1 pbs1 := by
  refine ⟨h.1, fun π k ho hk hor => h.2.1 π k ho hk (hor.imp id (fun g => ⟨g.1, ?_⟩)), h.2.2.1, h.2.2.2⟩
  have h1 := ag_fits (hd := HD ph) hI ho.1 (fun c hc hh => g.1 c hc hh) hkk hun
  rcases Nat.lt_or_ge (π kk) mb with q | q
  · exact q
  · have : π kk = mb := by omega
    rw [this] at h1; exact absurd h1 hno
/-- with another trial that is the same where it matters -/
theorem pi_same (hI : PI n a al fr to bf (HD ph) tr hf ht) (h1 : ∀ c, c < n → ph.testBit c = true → tr1 c = tr c) (h2 : ∀ c, c < n → ph.testBit c = false → nI c ≠ a → tr1 c = bf c) : PI n a al fr to bf (HD ph) tr1 hf ht := by
  obtain ⟨i1, i2, i3, i4, i5, i6⟩ := hI
  have e : ∀ c, HD ph c = true → tr1 c = tr c := fun c hc => h1 c (i1 c hc) hc
  refine ⟨i1, fun c hc => by rw [e c hc]; exact i2 c hc, fun j hj i => ?_, fun j hj i => ?_, fun c d hc hd hcd heq => ?_, fun c hc g1 g2 => h2 c hc g1 g2⟩
  · rw [i3 j hj i]
    exact ⟨fun ⟨c, c1, c2, c3⟩ => ⟨c, c1, by rw [e c c1]; exact c2, c3⟩, fun ⟨c, c1, c2, c3⟩ => ⟨c, c1, by rw [← e c c1]; exact c2, c3⟩⟩
  · rw [i4 j hj i]
    exact ⟨fun ⟨c, c1, c2, c3⟩ => ⟨c, c1, by rw [e c c1]; exact c2, c3⟩, fun ⟨c, c1, c2, c3⟩ => ⟨c, c1, by rw [← e c c1]; exact c2, c3⟩⟩
  · rw [e c hc, e d hd] at heq; exact i5 c d hc hd hcd heq
theorem hmv_same (h1 : ∀ c, c < n → ph.testBit c = true → tr1 c = tr c) : hmv n bf (HD ph) tr1 = hmv n bf (HD ph) tr := by
  unfold hmv
  apply sumTo_congr
  intro c hc
  cases g : HD ph c
  · rfl
  · rw [h1 c hc g]
theorem pi_child (hI : PI n a al fr to bf (HD ph) tr hf ht) (hkk : kk < n) (hun : ph.testBit kk = false) (hmb : mb < 4) (hF : Fits al fr to hf ht kk (nI mb)) : PI n a al fr to bf (HD (ph ||| 2 ^ kk)) (upd tr kk (nI mb)) (va_up hf mb (hf mb ||| fr kk)) (va_up ht mb (ht mb ||| to kk)) := by
  have h := pi_hold hI hkk hun hmb hF
  rw [← hd_or] at h
  exact h
theorem hmv_child (hkk : kk < n) (hun : ph.testBit kk = false) : hmv n bf (HD (ph ||| 2 ^ kk)) (upd tr kk (nI mb)) = hmv n bf (HD ph) tr + mv (bf kk) mb := by
  have h := hmv_hold (bf := bf) (tr := tr) (j := mb) (hd := HD ph) hkk hun
  rw [← hd_or] at h
  exact h
theorem hct_child (hkk : kk < n) (hun : ph.testBit kk = false) : hct n (HD (ph ||| 2 ^ kk)) = hct n (HD ph) + 1 := by
  have h := hct_hold (hd := HD ph) hkk hun
  rw [← hd_or] at h
  exact h
theorem sl_step {tr3 : Nat → Int32} {pm2 : Nat} {pb2 : Int32} {pbs2 : Nat → Int32} (hkk : kk < n) (hun : ph.testBit kk = false) (h : SL n a al fr to bf ph tr lim0 pb pbs kk mb tr1 pm1 pb1 pbs1) (g : SP n a al fr to bf (ph ||| 2 ^ kk) (upd tr1 kk (nI mb)) lim0 pb1 pbs1 tr3 pm2 pb2 pbs2) : SL n a al fr to bf ph tr lim0 pb pbs kk (mb + 1) (upd tr3 kk (bf kk)) pm2 pb2 pbs2 := by
  have b1 : ∀ c, (ph ||| 2 ^ kk).testBit c = (ph.testBit c || decide (c = kk)) := fun c => congrFun (hd_or ph kk) c
  refine ⟨g.1, fun π k ho hk hor => ?_, fun c hc hh => ?_, fun c hc hh ha => ?_⟩
  · by_cases q : Hit n π k pb1 pbs1
    · exact g.2.1 π k ho hk (Or.inl q)
    · rcases hor with w | ⟨w1, w2⟩
      · exact absurd (h.2.1 π k ho hk (Or.inl w)) q
      · rcases Nat.lt_or_ge (π kk) mb with z | z
        · exact absurd (h.2.1 π k ho hk (Or.inr ⟨w1, z⟩)) q
        · have e : π kk = mb := by omega
          refine g.2.1 π k ho hk (Or.inr (fun c hc hh => ?_))
          by_cases ec : c = kk
          · subst ec; rw [pk_us, e]
          · rw [pk_un ec]
            rw [b1 c] at hh
            have hh' : ph.testBit c = true := by simpa [ec] using hh
            rw [h.2.2.1 c hc hh']
            exact w1 c hc hh'
  · have ec : c ≠ kk := fun e => by rw [e, hun] at hh; cases hh
    rw [pk_un ec, g.2.2.1 c hc (by rw [b1 c, hh]; rfl), pk_un ec]
    exact h.2.2.1 c hc hh
  · by_cases ec : c = kk
    · subst ec; exact pk_us
    · rw [pk_un ec]
      exact g.2.2.2 c hc (by rw [b1 c, hh]; simp [ec]) ha
end Settle
theorem hmv_le (n : Nat) (bf : Nat → Int32) (hd : Nat → Bool) (tr : Nat → Int32) : hmv n bf hd tr ≤ n := by
  have := sumTo_le (f := fun c => if hd c = true then (if bf c = -1 ∨ bf c = tr c then 0 else 1) else 0) (b := 1) (n := n) (fun k _ => by
    split
    · split <;> decide
    · decide)
  unfold hmv; omega
theorem fit_f {al : Nat → Bool} {fr to hf ht : Nat → Nat} {c j : Nat} (h : Fits al fr to hf ht c (nI j)) (hj : j < 4) : hf j &&& fr c = 0 := by
  obtain ⟨k, k1, k2, _, k4, _⟩ := h
  rw [nI_inj4 (by omega) (by omega) k2]; exact k4
theorem fit_t {al : Nat → Bool} {fr to hf ht : Nat → Nat} {c j : Nat} (h : Fits al fr to hf ht c (nI j)) (hj : j < 4) : ht j &&& to c = 0 := by
  obtain ⟨k, k1, k2, _, _, k5⟩ := h
  rw [nI_inj4 (by omega) (by omega) k2]; exact k5
theorem pq_lim {pn ph pl pm pm1 : Nat} {pfr pto phf pht : Nat → Nat} (h : PQ pn ph pl pm pfr pto phf pht) (h1 : pm1 ≤ 16) : PQ pn ph pl pm1 pfr pto phf pht := ⟨h.1, h.2.1, h.2.2.1, h1, h.2.2.2.2⟩
theorem pq_hold {pn ph pl pm c j : Nat} {pfr pto phf pht : Nat → Nat} (h : PQ pn ph pl pm pfr pto phf pht) (hc : c < 16) (hj : j < 4) : PQ pn (ph ||| 2 ^ c) pl pm pfr pto (va_up phf j (phf j ||| pfr c)) (va_up pht j (pht j ||| pto c)) := by
  obtain ⟨h1, h2, h3, h4, h5, h6⟩ := h
  refine ⟨h1, lt_2pow16_or h2 (p2_lt hc), h3, h4, h5, fun k hk => ?_⟩
  unfold va_up
  constructor
  · split
    · exact lt_2pow16_or (h6 j hj).1 (h5 c hc).1
    · exact (h6 k hk).1
  · split
    · exact lt_2pow16_or (h6 j hj).2 (h5 c hc).2
    · exact (h6 k hk).2
/-- the end of a search that began with nothing held -/
theorem plan_res {n : Nat} {a : Int32} {al : Nat → Bool} {fr to : Nat → Nat} {bf : Nat → Int32} {tr tr' pbs pbs' : Nat → Int32} {lim0 pm' : Nat} {pb' : Int32} (hn : n ≤ 16) (h : SP n a al fr to bf 0 tr lim0 (-1) pbs tr' pm' pb' pbs') :
    (pb' = -1 ∧ ∀ π, Val n al fr to π → lim0 < Mvs n bf π) ∨ ∃ k π, pb' = nI k ∧ k ≤ lim0 ∧ Opt n al fr to bf π k ∧ ∀ c, c < n → pbs' c = nI (π c) := by
  have ag : ∀ π, Ag n 0 tr π := fun π c _ hh => by simp at hh
  rcases h.1 with ⟨e, -⟩ | ⟨k, π, e1, -, hk, hv, hm, hb⟩
  · refine Or.inl ⟨e, fun π hv => ?_⟩
    rcases Nat.lt_or_ge lim0 (Mvs n bf π) with q | q
    · exact q
    · obtain ⟨σ, j, ho⟩ := opt_exists (bf := bf) hv
      have hj := (ho.2.2 π hv).1
      have hi := h.2.1 σ j ho (by omega) (Or.inr (ag σ))
      rw [hi.1] at e
      have h3 := Mvs_le n bf σ
      rw [ho.2.1] at h3
      exact absurd e (nI_m1 (by omega))
  · obtain ⟨σ, j, ho⟩ := opt_exists (bf := bf) hv
    have hj := (ho.2.2 π hv).1
    have hi := h.2.1 σ j ho (by omega) (Or.inr (ag σ))
    exact Or.inr ⟨j, σ, hi.1, by omega, ho, hi.2⟩
theorem hct_0 (n : Nat) : hct n (HD 0) = 0 := by
  have : ∀ m, hct m (HD 0) = 0 := by
    intro m; induction m with
    | zero => rfl
    | succ m ih => show hct m (HD 0) + (Nat.testBit 0 m).toNat = 0; rw [ih]; simp
  exact this n
theorem hmv_0 (n : Nat) (bf tr : Nat → Int32) : hmv n bf (HD 0) tr = 0 := by
  have : ∀ m, hmv m bf (HD 0) tr = 0 := by
    intro m; induction m with
    | zero => rfl
    | succ m ih => show hmv m bf (HD 0) tr + _ = 0; rw [ih]; simp [HD]
  exact this n
theorem pi_0 {n : Nat} {a : Int32} {al : Nat → Bool} {fr to : Nat → Nat} {bf tr : Nat → Int32} {hf ht : Nat → Nat} (h1 : ∀ j, j < 4 → hf j = 0 ∧ ht j = 0) (h2 : ∀ c, c < n → nI c ≠ a → tr c = bf c) : PI n a al fr to bf (HD 0) tr hf ht := by
  refine ⟨fun c h => by simp [HD] at h, fun c h => by simp [HD] at h, fun j hj i => ?_, fun j hj i => ?_, fun c d h => by simp [HD] at h, fun c hc _ hn => h2 c hc hn⟩
  · rw [(h1 j hj).1]; simp [HD]
  · rw [(h1 j hj).2]; simp [HD]
theorem opt_congr {n : Nat} {al : Nat → Bool} {fr fr' to to' : Nat → Nat} {bf bf' : Nat → Int32} {π : Nat → Nat} {k : Nat} (h1 : ∀ c, c < n → fr c = fr' c) (h2 : ∀ c, c < n → to c = to' c) (h3 : ∀ c, c < n → bf c = bf' c) (h : Opt n al fr to bf π k) : Opt n al fr' to' bf' π k := by
  have hv : ∀ ρ, Val n al fr to ρ ↔ Val n al fr' to' ρ := by
    intro ρ
    constructor
    · intro g c hc
      obtain ⟨g1, g2, g3⟩ := g c hc
      exact ⟨g1, g2, fun d hd e => by rw [← h1 d (by omega), ← h1 c hc, ← h2 d (by omega), ← h2 c hc]; exact g3 d hd e⟩
    · intro g c hc
      obtain ⟨g1, g2, g3⟩ := g c hc
      exact ⟨g1, g2, fun d hd e => by rw [h1 d (by omega), h1 c hc, h2 d (by omega), h2 c hc]; exact g3 d hd e⟩
  have hm : ∀ ρ, Mvs n bf ρ = Mvs n bf' ρ := fun ρ => sumTo_congr (fun c hc => by rw [h3 c hc])
  exact ⟨(hv π).mp h.1, by rw [← hm]; exact h.2.1, fun ρ hρ => by rw [← hm]; exact h.2.2 ρ ((hv ρ).mpr hρ)⟩
theorem val_eq {n : Nat} {al : Nat → Bool} {fr fr' to to' : Nat → Nat} {ρ : Nat → Nat} (h1 : ∀ c, c < n → fr c = fr' c) (h2 : ∀ c, c < n → to c = to' c) (g : Val n al fr to ρ) : Val n al fr' to' ρ := by
  intro c hc
  obtain ⟨g1, g2, g3⟩ := g c hc
  exact ⟨g1, g2, fun d hd e => by rw [← h1 d (by omega), ← h1 c hc, ← h2 d (by omega), ← h2 c hc]; exact g3 d hd e⟩
/-- what a search answers: nothing within the limit, or the best plan -/
def PlanR (n : Nat) (al : Nat → Bool) (fr to : Nat → Nat) (bf : Nat → Int32) (lim : Nat) (r : Int32) (bs : Nat → Int32) : Prop :=
  (r = -1 ∧ ∀ π, Val n al fr to π → lim < Mvs n bf π) ∨ ∃ k π, r = nI k ∧ k ≤ lim ∧ Opt n al fr to bf π k ∧ ∀ c, c < n → bs c = nI (π c)
theorem planR_congr {n : Nat} {al : Nat → Bool} {fr fr' to to' : Nat → Nat} {bf bf' : Nat → Int32} {lim : Nat} {r : Int32} {bs : Nat → Int32} (h1 : ∀ c, c < n → fr c = fr' c) (h2 : ∀ c, c < n → to c = to' c) (h3 : ∀ c, c < n → bf c = bf' c) (h : PlanR n al fr to bf lim r bs) : PlanR n al fr' to' bf' lim r bs := by
  rcases h with ⟨e, g⟩ | ⟨k, π, e, hk, ho, hb⟩
  · refine Or.inl ⟨e, fun π hv => ?_⟩
    have := g π (val_eq (fun c hc => (h1 c hc).symm) (fun c hc => (h2 c hc).symm) hv)
    rwa [show Mvs n bf π = Mvs n bf' π from sumTo_congr (fun c hc => by rw [h3 c hc])] at this
  · exact Or.inr ⟨k, π, e, hk, opt_congr h1 h2 h3 ho, hb⟩
/-- the calls as they are, with no link of two calls: what the searches start from -/
def Ok1 (cnt wid : Nat) (inp outs brd : Nat → Nat) : Prop := ∀ c d, c < cnt → d < cnt → c ≠ d → brd c = brd d → 2 ^ (inp c / wid) &&& 2 ^ (inp d / wid) = 0 ∧ lbs wid (outs c) &&& lbs wid (outs d) = 0
theorem st_step {i wid : Nat} {inp outs brd f1 t1 : Nat → Nat} {b1 r1 : Nat → Int32} (hq : ∀ c, c < i → f1 c = 2 ^ (inp c / wid) ∧ t1 c = lbs wid (outs c) ∧ b1 c = nI (brd c) ∧ r1 c = nI (brd c)) : ∀ c, c < i + 1 → va_up f1 i (2 ^ (inp i / wid)) c = 2 ^ (inp c / wid) ∧ va_up t1 i (lbs wid (outs i)) c = lbs wid (outs c) ∧ upd b1 i (nI (brd i)) c = nI (brd c) ∧ upd r1 i (nI (brd i)) c = nI (brd c) := by
  intro c hc
  by_cases e : c = i
  · subst e; exact ⟨va_up_self _ _ _, va_up_self _ _ _, pk_us, pk_us⟩
  · rw [va_up_ne _ _ e, va_up_ne _ _ e, pk_un e, pk_un e]; exact hq c (by omega)
theorem st_bd {i x y : Nat} {f1 t1 : Nat → Nat} (hq : ∀ c, c < 16 → f1 c < 65536 ∧ t1 c < 65536) (hx : x < 65536) (hy : y < 65536) : ∀ c, c < 16 → va_up f1 i x c < 65536 ∧ va_up t1 i y c < 65536 := by
  intro c hc
  unfold va_up
  split
  · exact ⟨hx, hy⟩
  · exact hq c hc
theorem z_step {j : Nat} {f g : Nat → Nat} (h : ∀ k, k < j → f k = 0 ∧ g k = 0) : ∀ k, k < j + 1 → va_up f j 0 k = 0 ∧ va_up g j 0 k = 0 := by
  intro k hk
  unfold va_up
  split
  · exact ⟨rfl, rfl⟩
  · exact h k (by omega)
def frN (cnt wid : Nat) (inp : Nat → Nat) (fb : Nat) : Nat → Nat := fun c => if c < cnt then 2 ^ (inp c / wid) else 2 ^ fb
def toN (cnt wid : Nat) (outs : Nat → Nat) (lb : Nat) : Nat → Nat := fun c => if c < cnt then lbs wid (outs c) else 2 ^ lb
def bfN (cnt : Nat) (brd : Nat → Nat) : Nat → Int32 := fun c => if c < cnt then nI (brd c) else -1
def toM (wid : Nat) (outs : Nat → Nat) (ca lb : Nat) : Nat → Nat := fun c => if c = ca then lbs wid (outs c) ||| 2 ^ lb else lbs wid (outs c)
section Starts
variable {cnt wid fb lb al pat ca : Nat} {inp outs brd F0 T0 HF HT : Nat → Nat} {B0 R0 : Nat → Int32}
theorem new_ok (hc : cnt < 16) (hBo : ∀ c, c < 16 → brd c < 4) (hok : Ok1 cnt wid inp outs brd) (hal : al < 65536) (hp : pat ≤ 16) (hfb : fb < 4) (hlb : lb < 4) (e1 : ∀ c, c < cnt → F0 c = 2 ^ (inp c / wid) ∧ T0 c = lbs wid (outs c) ∧ B0 c = nI (brd c) ∧ R0 c = nI (brd c)) (e2 : ∀ c, c < 16 → F0 c < 65536 ∧ T0 c < 65536) (e3 : ∀ j, j < 4 → HF j = 0 ∧ HT j = 0) :
    PQ (cnt + 1) 0 al pat (va_up F0 cnt (2 ^ fb)) (va_up T0 cnt (2 ^ lb)) HF HT ∧ PI (cnt + 1) (nI cnt) (fun j => al.testBit j) (va_up F0 cnt (2 ^ fb)) (va_up T0 cnt (2 ^ lb)) (upd B0 cnt (-1)) (HD 0) R0 HF HT ∧ PB (cnt + 1) (nI cnt) (va_up F0 cnt (2 ^ fb)) (va_up T0 cnt (2 ^ lb)) (upd B0 cnt (-1)) := by
  have ne : ∀ c, c < cnt + 1 → nI c ≠ nI cnt → c ≠ cnt ∧ c < cnt := fun c h1 h2 => by
    have : c ≠ cnt := fun e => h2 (by rw [e])
    exact ⟨this, by omega⟩
  refine ⟨⟨by omega, by decide, hal, hp, fun c h => st_bd e2 (p2_lt (by omega)) (p2_lt (by omega)) c h, fun j h => by rw [(e3 j h).1, (e3 j h).2]; decide⟩, pi_0 e3 (fun c h1 h2 => ?_), fun c h1 h2 => ?_, fun c d h1 h2 h3 h4 h5 h6 => ?_⟩
  · obtain ⟨q1, q2⟩ := ne c h1 h2
    rw [pk_un q1, (e1 c q2).2.2.1, (e1 c q2).2.2.2]
  · obtain ⟨q1, q2⟩ := ne c h1 h2
    exact ⟨brd c, hBo c (by omega), by rw [pk_un q1, (e1 c q2).2.2.1]⟩
  · obtain ⟨q1, q2⟩ := ne c h1 h4
    obtain ⟨q3, q4⟩ := ne d h2 h5
    rw [pk_un q1, pk_un q3, (e1 c q2).2.2.1, (e1 d q4).2.2.1] at h6
    rw [va_up_ne _ _ q1, va_up_ne _ _ q3, va_up_ne _ _ q1, va_up_ne _ _ q3, (e1 c q2).1, (e1 d q4).1, (e1 c q2).2.1, (e1 d q4).2.1]
    exact hok c d q2 q4 h3 (nI_inj4 (by have := hBo c (by omega); omega) (by have := hBo d (by omega); omega) h6)
theorem new_res {lim : Nat} {r : Int32} {bs : Nat → Int32} {alf : Nat → Bool} (e1 : ∀ c, c < cnt → F0 c = 2 ^ (inp c / wid) ∧ T0 c = lbs wid (outs c) ∧ B0 c = nI (brd c) ∧ R0 c = nI (brd c)) (h : PlanR (cnt + 1) alf (va_up F0 cnt (2 ^ fb)) (va_up T0 cnt (2 ^ lb)) (upd B0 cnt (-1)) lim r bs) : PlanR (cnt + 1) alf (frN cnt wid inp fb) (toN cnt wid outs lb) (bfN cnt brd) lim r bs := by
  have cs : ∀ c, c < cnt + 1 → c = cnt ∨ (c ≠ cnt ∧ c < cnt) := fun c h => by omega
  refine planR_congr (fun c hc => ?_) (fun c hc => ?_) (fun c hc => ?_) h
  · rcases cs c hc with e | ⟨e, g⟩
    · subst e; rw [va_up_self]; simp [frN]
    · rw [va_up_ne _ _ e, (e1 c g).1]; simp [frN, g]
  · rcases cs c hc with e | ⟨e, g⟩
    · subst e; rw [va_up_self]; simp [toN]
    · rw [va_up_ne _ _ e, (e1 c g).2.1]; simp [toN, g]
  · rcases cs c hc with e | ⟨e, g⟩
    · subst e; rw [pk_us]; simp [bfN]
    · rw [pk_un e, (e1 c g).2.2.1]; simp [bfN, g]
theorem more_ok (hc : cnt ≤ 16) (hca : ca < cnt) (hBo : ∀ c, c < 16 → brd c < 4) (hok : Ok1 cnt wid inp outs brd) (hal : al < 65536) (hp : pat ≤ 16) (hlb : lb < 4) (e1 : ∀ c, c < cnt → F0 c = 2 ^ (inp c / wid) ∧ T0 c = lbs wid (outs c) ∧ B0 c = nI (brd c) ∧ R0 c = nI (brd c)) (e2 : ∀ c, c < 16 → F0 c < 65536 ∧ T0 c < 65536) (e3 : ∀ j, j < 4 → HF j = 0 ∧ HT j = 0) :
    PQ cnt 0 al pat F0 (va_up T0 ca (T0 ca ||| 2 ^ lb)) HF HT ∧ PI cnt (nI ca) (fun j => al.testBit j) F0 (va_up T0 ca (T0 ca ||| 2 ^ lb)) B0 (HD 0) R0 HF HT ∧ PB cnt (nI ca) F0 (va_up T0 ca (T0 ca ||| 2 ^ lb)) B0 := by
  have ne : ∀ c, nI c ≠ nI ca → c ≠ ca := fun c h2 e => h2 (by rw [e])
  refine ⟨⟨hc, by decide, hal, hp, fun c h => ⟨(e2 c h).1, by unfold va_up; split; exact lt_2pow16_or (e2 ca (by omega)).2 (p2_lt (by omega)); exact (e2 c h).2⟩, fun j h => by rw [(e3 j h).1, (e3 j h).2]; decide⟩, pi_0 e3 (fun c h1 h2 => ?_), fun c h1 h2 => ?_, fun c d h1 h2 h3 h4 h5 h6 => ?_⟩
  · rw [(e1 c h1).2.2.1, (e1 c h1).2.2.2]
  · exact ⟨brd c, hBo c (by omega), (e1 c h1).2.2.1⟩
  · have q1 := ne c h4
    have q3 := ne d h5
    rw [(e1 c h1).2.2.1, (e1 d h2).2.2.1] at h6
    rw [va_up_ne _ _ q1, va_up_ne _ _ q3, (e1 c h1).1, (e1 d h2).1, (e1 c h1).2.1, (e1 d h2).2.1]
    exact hok c d h1 h2 h3 (nI_inj4 (by have := hBo c (by omega); omega) (by have := hBo d (by omega); omega) h6)
theorem more_res {lim : Nat} {r : Int32} {bs : Nat → Int32} {alf : Nat → Bool} (e1 : ∀ c, c < cnt → F0 c = 2 ^ (inp c / wid) ∧ T0 c = lbs wid (outs c) ∧ B0 c = nI (brd c) ∧ R0 c = nI (brd c)) (hca : ca < cnt) (h : PlanR cnt alf F0 (va_up T0 ca (T0 ca ||| 2 ^ lb)) B0 lim r bs) : PlanR cnt alf (fun c => 2 ^ (inp c / wid)) (toM wid outs ca lb) (fun c => nI (brd c)) lim r bs := by
  refine planR_congr (fun c hc => (e1 c hc).1) (fun c hc => ?_) (fun c hc => (e1 c hc).2.2.1) h
  by_cases e : c = ca
  · subst e; rw [va_up_self, (e1 c hc).2.1]; simp [toM]
  · rw [va_up_ne _ _ e, (e1 c hc).2.1]; simp [toM, e]
theorem los_ok (hc : cnt ≤ 16) (hBo : ∀ c, c < 16 → brd c < 4) (hok : Ok1 cnt wid inp outs brd) (hal : al < 65536) (hp : pat ≤ 16) (e1 : ∀ c, c < cnt → F0 c = 2 ^ (inp c / wid) ∧ T0 c = lbs wid (outs c) ∧ B0 c = nI (brd c) ∧ R0 c = nI (brd c)) (e2 : ∀ c, c < 16 → F0 c < 65536 ∧ T0 c < 65536) (e3 : ∀ j, j < 4 → HF j = 0 ∧ HT j = 0) :
    PQ cnt 0 al pat F0 T0 HF HT ∧ PI cnt (-1) (fun j => al.testBit j) F0 T0 B0 (HD 0) R0 HF HT ∧ PB cnt (-1) F0 T0 B0 := by
  refine ⟨⟨hc, by decide, hal, hp, e2, fun j h => by rw [(e3 j h).1, (e3 j h).2]; decide⟩, pi_0 e3 (fun c h1 h2 => ?_), fun c h1 h2 => ?_, fun c d h1 h2 h3 h4 h5 h6 => ?_⟩
  · rw [(e1 c h1).2.2.1, (e1 c h1).2.2.2]
  · exact ⟨brd c, hBo c (by omega), (e1 c h1).2.2.1⟩
  · rw [(e1 c h1).2.2.1, (e1 d h2).2.2.1] at h6
    rw [(e1 c h1).1, (e1 d h2).1, (e1 c h1).2.1, (e1 d h2).2.1]
    exact hok c d h1 h2 h3 (nI_inj4 (by have := hBo c (by omega); omega) (by have := hBo d (by omega); omega) h6)
theorem los_res {lim : Nat} {r : Int32} {bs : Nat → Int32} {alf : Nat → Bool} (e1 : ∀ c, c < cnt → F0 c = 2 ^ (inp c / wid) ∧ T0 c = lbs wid (outs c) ∧ B0 c = nI (brd c) ∧ R0 c = nI (brd c)) (h : PlanR cnt alf F0 T0 B0 lim r bs) : PlanR cnt alf (fun c => 2 ^ (inp c / wid)) (fun c => lbs wid (outs c)) (fun c => nI (brd c)) lim r bs :=
  planR_congr (fun c hc => (e1 c hc).1) (fun c hc => (e1 c hc).2.1) (fun c hc => (e1 c hc).2.2.1) h
end Starts
theorem wo_lt {a b : Nat} (h : a < 65536) : wo a b < 65536 := by
  apply Nat.lt_pow_two_of_testBit (n := 16)
  intro i hi
  rw [wo_bit, Nat.testBit_lt_two_pow (Nat.lt_of_lt_of_le h (Nat.pow_le_pow_right (n := 2) (by decide) hi))]
  rfl
theorem m1_lt {k : Nat} (h : k ≤ 4) : 2 ^ k - 1 < 65536 := by
  have : 2 ^ k ≤ 2 ^ 4 := Nat.pow_le_pow_right (by decide) h
  omega
