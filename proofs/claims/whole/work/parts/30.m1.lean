/-! the model's row of numbers, and its search for a plan -/
def RowQ (f : Nat → Int32) (u : SS) : Prop :=
  (f 0 = nI u.fst ∧ f 1 = nI u.wid ∧ f 2 = nI u.mid ∧ f 3 = nI u.las ∧ f 4 = nI u.cnt ∧ f 5 = nI u.pat ∧ f 6 = nI u.mov ∧ f 7 = nI u.bro) ∧
  (∀ c, c < u.cnt → f (8 + 4 * c + 0) = nI (u.inp c) ∧ f (8 + 4 * c + 1) = nI (u.outs c) ∧ f (8 + 4 * c + 2) = nI (u.brd c) ∧ f (8 + 4 * c + 3) = nI (u.mvd c)) ∧
  ∀ x, x < 16 → f (72 + x) = nI (u.owe x) ∧ f (88 + x) = nI (u.got x)
def BDq (u : SS) : Prop := (1 ≤ u.fst ∧ u.fst ≤ 4) ∧ (1 ≤ u.wid ∧ u.wid ≤ 4) ∧ (1 ≤ u.mid ∧ u.mid ≤ 4) ∧ (1 ≤ u.las ∧ u.las ≤ 4) ∧ u.pat ≤ 3 ∧ u.bro < 16 ∧ u.cnt ≤ 16 ∧ (u.fst * u.wid ≤ 16 ∧ u.las * u.wid ≤ 16) ∧ ∀ c, c < u.cnt → u.inp c < 16 ∧ u.outs c < 2 ^ (u.las * u.wid) ∧ u.outs c < 65536 ∧ (u.brd c < 4 ∨ u.brd c = 4294967295)
theorem tb_ge {o L k : Nat} (ho : o < 2 ^ L) (h : L ≤ k) : o.testBit k = false := Nat.testBit_lt_two_pow (Nat.lt_of_lt_of_le ho (Nat.pow_le_pow_right (by decide) h))
theorem lb_full {wid o L : Nat} (ho : o < 2 ^ L) : ∀ {k}, L ≤ k → lbTo wid o k = lbTo wid o L := by
  intro k hk
  induction k with
  | zero => rw [show L = 0 by omega]
  | succ k ih =>
    rcases Nat.lt_or_ge k L with g | g
    · rw [show L = k + 1 by omega]
    · rw [← ih g]
      exact if_neg (by rw [tb_ge ho g]; decide)
theorem lb_full2 {wid o L k : Nat} (e : L ≤ k) (e2 : k ≤ L) (ho : o < 2 ^ L) (hL : L ≤ 16) : lbTo wid o k = lbs wid o := by
  rw [show k = L by omega]; exact (lb_full ho hL).symm
theorem bool1 {b : Bool} : b.toNat = 1 ↔ b = true := by cases b <;> decide
theorem bool1n {b : Bool} : ¬ b.toNat = 1 ↔ b = false := by cases b <;> decide
def lxQ (n : Nat) (P : Nat → Prop) (r : Int32) : Prop := (r = -1 ∧ ∀ k, k < n → ¬ P k) ∨ ∃ k, r = nI k ∧ k < n ∧ P k ∧ ∀ d, k < d → d < n → ¬ P d
theorem lx_0 {P : Nat → Prop} : lxQ 0 P (-1) := Or.inl ⟨rfl, fun k hk => absurd hk (Nat.not_lt_zero _)⟩
theorem lx_hit {P : Nat → Prop} {i : Nat} (h : P i) : lxQ (i + 1) P (nI i) := Or.inr ⟨i, rfl, Nat.lt_succ_self _, h, fun d h1 h2 => by omega⟩
theorem lx_no {P : Nat → Prop} {i : Nat} {r : Int32} (h : lxQ i P r) (hn : ¬ P i) : lxQ (i + 1) P r := by
  rcases h with ⟨e, h⟩ | ⟨k, e, h1, h2, h3⟩
  · exact Or.inl ⟨e, fun k hk => by rcases Nat.lt_succ_iff_lt_or_eq.mp hk with g | g; exact h k g; subst g; exact hn⟩
  · exact Or.inr ⟨k, e, by omega, h2, fun d g1 g2 => by rcases Nat.lt_succ_iff_lt_or_eq.mp g2 with g | g; exact h3 d g1 g; subst g; exact hn⟩
theorem lx_e {P : Nat → Prop} {i n : Nat} {r : Int32} (h : lxQ i P r) (h1 : i ≤ n) (h2 : n ≤ i) : lxQ n P r := by rw [show n = i by omega]; exact h
/-- two calls that cannot go by one board -/
def CLq (u : SS) (c d : Nat) : Prop := u.inp c / u.wid = u.inp d / u.wid ∨ 0 < lbs u.wid (u.outs c) &&& lbs u.wid (u.outs d)
theorem p2_and {a b : Nat} : 2 ^ a &&& 2 ^ b = 0 ↔ a ≠ b := by
  rw [and0_iff]
  constructor
  · intro h e
    subst e
    exact h a ⟨by simp, by simp⟩
  · intro h i ⟨h1, h2⟩
    rw [Nat.testBit_two_pow] at h1 h2
    simp at h1 h2
    exact h (h1.trans h2.symm)
abbrev alm (u : SS) (gone : Nat) : Nat → Bool := fun j => (wo (wo (2 ^ u.mid - 1) u.bro) gone).testBit j
theorem alm_iff {u : SS} {gone j : Nat} : alm u gone j = true ↔ j < u.mid ∧ u.bro.testBit j = false ∧ gone.testBit j = false := by
  show (wo (wo (2 ^ u.mid - 1) u.bro) gone).testBit j = true ↔ _
  rw [wo_bit, Bool.and_eq_true, Bool.not_eq_true', show (wo (2 ^ u.mid - 1) u.bro).testBit j = true ↔ j < u.mid ∧ u.bro.testBit j = false from alM_iff, and_assoc]
abbrev frm (u : SS) : Nat → Nat := fun c => 2 ^ (u.inp c / u.wid)
abbrev tom (u : SS) : Nat → Nat := fun c => lbs u.wid (u.outs c)
abbrev bfm (u : SS) : Nat → Int32 := fun c => nI (u.brd c)
abbrev VAL (u : SS) (gone : Nat) (π : Nat → Nat) : Prop := Val u.cnt (alm u gone) (frm u) (tom u) π
abbrev MVS (u : SS) (π : Nat → Nat) : Nat := Mvs u.cnt (bfm u) π
abbrev MS (u : SS) (π : Nat → Nat) (c : Nat) : Nat := sumTo (fun d => mv (bfm u d) (π d)) c
def OKp (u : SS) (gone : Nat) (π : Nat → Nat) (c : Nat) : Prop := alm u gone (π c) = true ∧ ∀ d, d < c → π d = π c → frm u d &&& frm u c = 0 ∧ tom u d &&& tom u c = 0
def FTq (u : SS) (gone : Nat) (π : Nat → Nat) (c : Nat) : Prop := (u.bro.testBit (π c) = false ∧ gone.testBit (π c) = false) ∧ ∀ d, d < c → π d = π c → ¬ CLq u c d
theorem cl_iff {u : SS} {c d : Nat} : ¬ CLq u c d ↔ (frm u d &&& frm u c = 0 ∧ tom u d &&& tom u c = 0) := by
  unfold CLq
  rw [p2_and, Nat.and_comm (tom u d)]
  constructor
  · intro h
    exact ⟨fun e => h (Or.inl e.symm), Nat.eq_zero_of_not_pos (fun g => h (Or.inr g))⟩
  · rintro ⟨h1, h2⟩ (g | g)
    · exact h1 g.symm
    · rw [h2] at g; exact absurd g (Nat.lt_irrefl _)
theorem ft_ok {u : SS} {gone : Nat} {π : Nat → Nat} {c : Nat} (hm : π c < u.mid) : FTq u gone π c ↔ OKp u gone π c := by
  unfold FTq OKp
  rw [alm_iff]
  constructor
  · rintro ⟨h1, h2⟩; exact ⟨⟨hm, h1⟩, fun d hd e => cl_iff.mp (h2 d hd e)⟩
  · rintro ⟨⟨-, h1⟩, h2⟩; exact ⟨h1, fun d hd e => cl_iff.mpr (h2 d hd e)⟩
theorem okp_congr {u : SS} {gone : Nat} {π ρ : Nat → Nat} {c : Nat} (h : ∀ d, d ≤ c → ρ d = π d) (g : OKp u gone π c) : OKp u gone ρ c := by
  refine ⟨by rw [h c (Nat.le_refl _)]; exact g.1, fun d hd e => g.2 d hd ?_⟩
  rw [h d (by omega), h c (Nat.le_refl _)] at e; exact e
def plv (q : Nat) : Int32 := if q = 0 then -1 else nI (q - 1)
theorem plv_add {q : Nat} : plv q + nI 1 = nI q := by
  unfold plv
  by_cases h : q = 0
  · rw [if_pos h, h]; decide
  · rw [if_neg h]; conv => rhs; rw [show q = (q - 1) + 1 by omega, nI_succ]
    rfl
theorem plv_m1 {q : Nat} (h : q < 2147483648) : plv q = -1 ↔ q = 0 := by
  unfold plv
  by_cases g : q = 0
  · rw [if_pos g]; exact ⟨fun _ => g, fun _ => rfl⟩
  · rw [if_neg g]; exact ⟨fun e => absurd e (nI_m1 (by omega)), fun e => absurd e g⟩
theorem nI_m11 {c : Nat} : nI (c + 1) + (-1) = nI c := by
  rw [nI_succ, Int32.add_assoc, show (1 : Int32) + -1 = 0 by decide, Int32.add_zero]
def Wk (mid : Nat) : Nat → Nat
  | 0 => 1
  | k + 1 => mid * (1 + Wk mid k) + 1
def MEA (u : SS) (c q : Nat) (π : Nat → Nat) : Nat := (if c < u.cnt then (u.mid - q) * (1 + Wk u.mid (u.cnt - c - 1)) + 1 else 1) + sumTo (fun d => (u.mid - (π d + 1)) * (1 + Wk u.mid (u.cnt - d - 1)) + 1) c
def HPA (u : SS) (gone most c q : Nat) (π : Nat → Nat) (pl : Nat → Int32) (mo R : Nat) : Prop :=
  c ≤ u.cnt ∧ q ≤ u.mid ∧ (c = u.cnt → q = 0) ∧
  (∀ d, d < c → pl d = nI (π d) ∧ π d < u.mid ∧ OKp u gone π d) ∧
  (c < u.cnt → pl c = plv q) ∧ (∀ d, c < d → d < 16 → pl d = -1) ∧
  mo = MS u π c + (if q = 0 then 0 else mv (bfm u c) (q - 1)) ∧ MS u π c ≤ most ∧
  (∀ ρ, VAL u gone ρ → MVS u ρ ≤ most → ∃ d, d ≤ c ∧ (∀ e, e < d → ρ e = π e) ∧ ((d < c ∧ π d < ρ d) ∨ (d = c ∧ q ≤ ρ c))) ∧
  MEA u c q π ≤ R
def HPI (u : SS) (gone most : Nat) (cI : Int32) (pl : Nat → Int32) (mo R : Nat) : Prop :=
  (cI = -1 ∧ ∀ ρ, VAL u gone ρ → most < MVS u ρ) ∨ ∃ c q π, cI = nI c ∧ HPA u gone most c q π pl mo R
theorem hpi_0 {u : SS} {gone most : Nat} {pl : Nat → Int32} (hn : u.cnt ≤ 16) (h : ∀ d, d < 16 → pl d = -1) : HPI u gone most (nI 0) pl 0 (MEA u 0 0 (fun _ => 0)) := by
  refine Or.inr ⟨0, 0, fun _ => 0, rfl, Nat.zero_le _, Nat.zero_le _, fun _ => rfl, fun d hd => absurd hd (Nat.not_lt_zero _), fun hc => ?_, fun d _ hd => h d hd, rfl, Nat.zero_le _, fun ρ _ _ => ⟨0, Nat.le_refl _, fun e he => absurd he (Nat.not_lt_zero _), Or.inr ⟨rfl, Nat.zero_le _⟩⟩, Nat.le_refl _⟩
  rw [h 0 (by omega)]; rfl
theorem hpi_pos {u : SS} {gone most c : Nat} {pl : Nat → Int32} {mo R : Nat} (hn : u.cnt ≤ 16) (hc : c < 2147483648) (h : HPI u gone most (nI c) pl mo R) : ∃ q π, HPA u gone most c q π pl mo R := by
  rcases h with ⟨e, -⟩ | ⟨c', q, π, e, h⟩
  · exact absurd e (nI_m1 hc)
  · have := nI_inj4 hc (by have := h.1; omega) e
    subst this
    exact ⟨q, π, h⟩
theorem hpi_neg {u : SS} {gone most : Nat} {cI : Int32} {pl : Nat → Int32} {mo R : Nat} (hn : u.cnt ≤ 16) (h : HPI u gone most cI pl mo R) (hc : cI < 0) : ∀ ρ, VAL u gone ρ → most < MVS u ρ := by
  rcases h with ⟨-, h⟩ | ⟨c', q, π, e, h⟩
  · exact h
  · rw [e] at hc
    exact absurd hc (nI_pos (by have := h.1; omega))
theorem ms_le {u : SS} {π : Nat → Nat} {c : Nat} (hc : c ≤ u.cnt) : MS u π c ≤ MVS u π := by
  have : ∀ n, c ≤ n → sumTo (fun d => mv (bfm u d) (π d)) c ≤ sumTo (fun d => mv (bfm u d) (π d)) n := by
    intro n hn
    induction n with
    | zero => rw [show c = 0 by omega]; exact Nat.le_refl _
    | succ n ih =>
      rcases Nat.lt_or_ge n c with g | g
      · rw [show c = n + 1 by omega]; exact Nat.le_refl _
      · exact Nat.le_trans (ih g) (Nat.le_add_right _ _)
  exact this _ hc
theorem ms_congr {u : SS} {π ρ : Nat → Nat} {c : Nat} (h : ∀ d, d < c → ρ d = π d) : MS u ρ c = MS u π c := sumTo_congr (fun d hd => by rw [h d hd])
theorem ms_up {u : SS} {π : Nat → Nat} {c q : Nat} : MS u (va_up π c q) (c + 1) = MS u π c + mv (bfm u c) q := by
  show MS u (va_up π c q) c + mv (bfm u c) (va_up π c q c) = _
  rw [va_up_self, ms_congr (fun d hd => va_up_ne _ _ (by omega))]
theorem mea_tail {u : SS} {π ρ : Nat → Nat} {c : Nat} (h : ∀ d, d < c → ρ d = π d) : sumTo (fun d => (u.mid - (ρ d + 1)) * (1 + Wk u.mid (u.cnt - d - 1)) + 1) c = sumTo (fun d => (u.mid - (π d + 1)) * (1 + Wk u.mid (u.cnt - d - 1)) + 1) c := sumTo_congr (fun d hd => by rw [h d hd])
theorem mea_next {u : SS} {π : Nat → Nat} {c q : Nat} (hc : c < u.cnt) (hq : q < u.mid) : MEA u c (q + 1) π < MEA u c q π := by
  unfold MEA
  rw [if_pos hc, if_pos hc]
  have : (u.mid - (q + 1)) * (1 + Wk u.mid (u.cnt - c - 1)) < (u.mid - q) * (1 + Wk u.mid (u.cnt - c - 1)) := Nat.mul_lt_mul_of_pos_right (by omega) (by omega)
  omega
theorem mea_ex {u : SS} {π : Nat → Nat} {c : Nat} (hc : c + 1 < u.cnt) : MEA u c (π c + 1) π < MEA u (c + 1) u.mid π := by
  unfold MEA
  rw [if_pos (by omega), if_pos hc]
  show _ < _ + (sumTo _ c + _)
  simp only [Nat.sub_self, Nat.zero_mul]
  omega
theorem mea_adv {u : SS} {π : Nat → Nat} {c q : Nat} (hc : c < u.cnt) (hq : q < u.mid) : MEA u (c + 1) 0 (va_up π c q) < MEA u c q π := by
  have e1 : sumTo (fun d => (u.mid - (va_up π c q d + 1)) * (1 + Wk u.mid (u.cnt - d - 1)) + 1) (c + 1) = sumTo (fun d => (u.mid - (π d + 1)) * (1 + Wk u.mid (u.cnt - d - 1)) + 1) c + ((u.mid - (q + 1)) * (1 + Wk u.mid (u.cnt - c - 1)) + 1) := by
    show sumTo _ c + ((u.mid - (va_up π c q c + 1)) * (1 + Wk u.mid (u.cnt - c - 1)) + 1) = _
    rw [va_up_self, mea_tail (ρ := va_up π c q) (π := π) (fun d hd => va_up_ne _ _ (by omega))]
  unfold MEA
  rw [if_pos hc, e1]
  have e2 : (u.mid - q) * (1 + Wk u.mid (u.cnt - c - 1)) = (u.mid - (q + 1)) * (1 + Wk u.mid (u.cnt - c - 1)) + (1 + Wk u.mid (u.cnt - c - 1)) := by
    conv => lhs; rw [show u.mid - q = (u.mid - (q + 1)) + 1 by omega, Nat.succ_mul]
  rw [e2]
  by_cases g : c + 1 < u.cnt
  · rw [if_pos g]
    have e3 : Wk u.mid (u.cnt - c - 1) = (u.mid - 0) * (1 + Wk u.mid (u.cnt - (c + 1) - 1)) + 1 := by
      rw [show u.cnt - c - 1 = (u.cnt - (c + 1) - 1) + 1 by omega]; rfl
    rw [← e3]; omega
  · rw [if_neg g]
    have e3 : Wk u.mid (u.cnt - c - 1) = 1 := by
      rw [show u.cnt - c - 1 = 0 by omega]; rfl
    rw [e3]; omega
theorem upd_m1 {pl : Nat → Int32} {c : Nat} {x : Int32} {d : Nat} (hp : ∀ d, c < d → d < 16 → pl d = -1) (h1 : c < d) (h2 : d < 16) : upd pl c x d = -1 := by rw [pk_un (by omega)]; exact hp d h1 h2
theorem hpa_ex {u : SS} {gone most c q : Nat} {π : Nat → Nat} {pl : Nat → Int32} {mo R : Nat} (h : HPA u gone most c q π pl mo R) (hc : c < u.cnt) (hq : q = u.mid) (hn : u.cnt ≤ 16) : ∃ R', R' < R ∧ HPI u gone most (nI c + (-1)) (upd (upd pl c (nI q)) c (-1)) (MS u π c) R' := by
  obtain ⟨h1, h2, h3, h4, h5, h6, h7, h8, h9, h10⟩ := h
  subst hq
  have hVm : ∀ ρ, VAL u gone ρ → ρ c < u.mid := fun ρ hV => (alm_iff.mp (hV c hc).2.1).1
  match c, h1, h3, h4, h5, h6, h7, h8, h9, h10, hc, hVm with
  | 0, h1, h3, h4, h5, h6, h7, h8, h9, h10, hc, hVm =>
    refine ⟨0, ?_, Or.inl ⟨by decide, fun ρ hV => ?_⟩⟩
    · unfold MEA at h10; rw [if_pos hc] at h10; omega
    · rcases Nat.lt_or_ge most (MVS u ρ) with g | g
      · exact g
      · obtain ⟨d, hd, -, g2 | g2⟩ := h9 ρ hV g
        · omega
        · have := hVm ρ hV; omega
  | k + 1, h1, h3, h4, h5, h6, h7, h8, h9, h10, hc, hVm =>
    obtain ⟨p1, p2, p3⟩ := h4 k (Nat.lt_succ_self _)
    refine ⟨MEA u k (π k + 1) π, Nat.lt_of_lt_of_le (mea_ex hc) h10, Or.inr ⟨k, π k + 1, π, nI_m11, by omega, by omega, by omega, fun d hd => ?_, fun _ => ?_, fun d d1 d2 => ?_, ?_, ?_, fun ρ hV hm => ?_, Nat.le_refl _⟩⟩
    · rw [pk_un (by omega), pk_un (by omega)]; exact h4 d (by omega)
    · rw [pk_un (by omega), pk_un (by omega), p1]
      show _ = if π k + 1 = 0 then _ else _
      rw [if_neg (by omega)]; rfl
    · by_cases e : d = k + 1
      · subst e; rw [pk_us]
      · rw [pk_un e, pk_un e]; exact h6 d (by omega) d2
    · rw [if_neg (by omega)]; rfl
    · exact Nat.le_trans (Nat.le_add_right _ _) h8
    · obtain ⟨d, hd, g1, g2 | g2⟩ := h9 ρ hV hm
      · by_cases e : d = k
        · subst e; exact ⟨d, Nat.le_refl _, g1, Or.inr ⟨rfl, g2.2⟩⟩
        · exact ⟨d, by omega, g1, Or.inl ⟨by omega, g2.2⟩⟩
      · have := hVm ρ hV; have := g2.2; omega
theorem hpa_next {u : SS} {gone most c q : Nat} {π : Nat → Nat} {pl : Nat → Int32} {mo R : Nat} (h : HPA u gone most c q π pl mo R) (hc : c < u.cnt) (hq : ¬ q = u.mid) (hf : most < MS u π c + mv (bfm u c) q ∨ ¬ OKp u gone (va_up π c q) c) : ∃ R', R' < R ∧ HPI u gone most (nI c) (upd pl c (nI q)) (MS u π c + mv (bfm u c) q) R' := by
  obtain ⟨h1, h2, h3, h4, h5, h6, h7, h8, h9, h10⟩ := h
  refine ⟨MEA u c (q + 1) π, Nat.lt_of_lt_of_le (mea_next hc (by omega)) h10, Or.inr ⟨c, q + 1, π, rfl, h1, by omega, by omega, fun d hd => ?_, fun _ => ?_, fun d d1 d2 => upd_m1 h6 d1 d2, ?_, h8, fun ρ hV hm => ?_, Nat.le_refl _⟩⟩
  · rw [pk_un (by omega)]; exact h4 d hd
  · rw [pk_us]; show _ = if q + 1 = 0 then _ else _; rw [if_neg (by omega)]; rfl
  · rw [if_neg (by omega)]; rfl
  · obtain ⟨d, hd, g1, g2 | ⟨rfl, g2⟩⟩ := h9 ρ hV hm
    · exact ⟨d, hd, g1, Or.inl g2⟩
    · refine ⟨d, Nat.le_refl _, g1, Or.inr ⟨rfl, ?_⟩⟩
      rcases Nat.lt_or_ge q (ρ d) with g | g
      · exact g
      · have e : ρ d = q := by omega
        exfalso
        have ex : ∀ j, j ≤ d → va_up π d q j = ρ j := fun j hj => by
          by_cases ej : j = d
          · subst ej; rw [va_up_self, e]
          · rw [va_up_ne _ _ ej, g1 j (by omega)]
        rcases hf with hf | hf
        · have q1 := ms_le (u := u) (π := ρ) (c := d + 1) hc
          have q2 : MS u ρ (d + 1) = MS u π d + mv (bfm u d) q := by
            rw [← ms_up]; exact ms_congr (fun j hj => (ex j (by omega)).symm)
          omega
        · exact hf (okp_congr ex ⟨(hV d hc).2.1, (hV d hc).2.2⟩)
theorem hpa_adv {u : SS} {gone most c q : Nat} {π : Nat → Nat} {pl : Nat → Int32} {mo R : Nat} (h : HPA u gone most c q π pl mo R) (hc : c < u.cnt) (hn : u.cnt ≤ 16) (hq : ¬ q = u.mid) (hm : MS u π c + mv (bfm u c) q ≤ most) (hf : OKp u gone (va_up π c q) c) : ∃ R', R' < R ∧ HPI u gone most (nI (c + 1)) (upd pl c (nI q)) (MS u π c + mv (bfm u c) q) R' := by
  obtain ⟨h1, h2, h3, h4, h5, h6, h7, h8, h9, h10⟩ := h
  refine ⟨MEA u (c + 1) 0 (va_up π c q), Nat.lt_of_lt_of_le (mea_adv hc (by omega)) h10, Or.inr ⟨c + 1, 0, va_up π c q, rfl, hc, Nat.zero_le _, fun _ => rfl, fun d hd => ?_, fun g => ?_, fun d d1 d2 => upd_m1 h6 (by omega) d2, ?_, ?_, fun ρ hV hm2 => ?_, Nat.le_refl _⟩⟩
  · by_cases e : d = c
    · subst e; rw [pk_us, va_up_self]; exact ⟨rfl, by omega, hf⟩
    · obtain ⟨a1, a2, a3⟩ := h4 d (by omega)
      rw [pk_un e, va_up_ne _ _ e]; exact ⟨a1, a2, okp_congr (fun j hj => va_up_ne _ _ (by omega)) a3⟩
  · rw [pk_un (by omega), h6 (c + 1) (by omega) (by omega)]; rfl
  · rw [if_pos rfl, ms_up]; rfl
  · rw [ms_up]; exact hm
  · obtain ⟨d, hd, g1, g2 | ⟨rfl, g2⟩⟩ := h9 ρ hV hm2
    · refine ⟨d, by omega, fun e he => by rw [va_up_ne _ _ (by omega)]; exact g1 e he, Or.inl ⟨by omega, ?_⟩⟩
      rw [va_up_ne _ _ (by omega)]; exact g2.2
    · rcases Nat.lt_or_ge q (ρ d) with g | g
      · refine ⟨d, by omega, fun e he => by rw [va_up_ne _ _ (by omega)]; exact g1 e he, Or.inl ⟨by omega, ?_⟩⟩
        rw [va_up_self]; exact g
      · refine ⟨d + 1, Nat.le_refl _, fun e he => ?_, Or.inr ⟨rfl, Nat.zero_le _⟩⟩
        by_cases ee : e = d
        · subst ee; rw [va_up_self]; omega
        · rw [va_up_ne _ _ ee]; exact g1 e (by omega)
/-- what the search answers: the first plan with so many moves at most, or that there is none -/
def HPP (u : SS) (gone most : Nat) (r : Int32) (pl : Nat → Int32) : Prop :=
  (r = nI 1 ∧ ∃ π, (∀ c, c < u.cnt → pl c = nI (π c)) ∧ VAL u gone π ∧ MVS u π ≤ most ∧ ∀ ρ, VAL u gone ρ → MVS u ρ ≤ most → ¬ lexLt u.cnt ρ π) ∨ (r = nI 0 ∧ ∀ ρ, VAL u gone ρ → most < MVS u ρ)
theorem hpa_end {u : SS} {gone most c q : Nat} {π : Nat → Nat} {pl : Nat → Int32} {mo R : Nat} (h4m : u.mid ≤ 4) (h : HPA u gone most c q π pl mo R) (hc : u.cnt ≤ c) : HPP u gone most (nI 1) pl := by
  obtain ⟨h1, h2, h3, h4, h5, h6, h7, h8, h9, h10⟩ := h
  have e : c = u.cnt := by omega
  subst e
  refine Or.inl ⟨rfl, π, fun c hc => (h4 c hc).1, fun c hc => ?_, h8, fun ρ hV hm => ?_⟩
  · obtain ⟨a1, a2, a3⟩ := h4 c hc
    exact ⟨by omega, a3.1, a3.2⟩
  · rintro ⟨e, he, g1, g2⟩
    obtain ⟨d, hd, k1, k2 | ⟨k2, -⟩⟩ := h9 ρ hV hm
    · rcases Nat.lt_trichotomy d e with t | t | t
      · have := g2 d t; omega
      · subst t; omega
      · have := k1 e t; omega
    · have := k1 e (by omega); omega
/-- the fewest moves, from none up -/
def BSq (u : SS) (gone mo : Nat) : Prop := ∀ ρ, VAL u gone ρ → mo ≤ MVS u ρ
theorem bs_hit {u : SS} {gone mo most : Nat} {pl : Nat → Int32} (h : BSq u gone mo) (hm : mo ≤ most) {r : Int32} (g : HPP u gone mo r pl) (hr : r = nI 1) : PlanR u.cnt (alm u gone) (frm u) (tom u) (bfm u) most (nI mo) pl := by
  rcases g with ⟨-, π, g1, g2, g3, g4⟩ | ⟨e, -⟩
  · have e := h π g2
    refine Or.inr ⟨mo, π, rfl, hm, ⟨g2, Nat.le_antisymm g3 e, fun ρ hV => ⟨h ρ hV, fun e2 => g4 ρ hV (Nat.le_of_eq e2)⟩⟩, g1⟩
  · rw [hr] at e; exact absurd e (by decide)
theorem bs_no {u : SS} {gone mo : Nat} (g : ∀ ρ, VAL u gone ρ → mo < MVS u ρ) : BSq u gone (mo + 1) := fun ρ hV => g ρ hV
theorem mv_1 {b : Int32} {p : Nat} (h : ¬ (b = -1 ∨ b = nI p)) : mv b p = 1 := if_neg h
theorem mv_0 {b : Int32} {p : Nat} (h : b = -1 ∨ b = nI p) : mv b p = 0 := if_pos h
theorem plv_p {q : Nat} (h : ¬ q = 0) : plv q = nI (q - 1) := if_neg h
theorem hpl_up {u : SS} {gone most c q : Nat} {π : Nat → Nat} {pl : Nat → Int32} {mo R : Nat} (h : HPA u gone most c q π pl mo R) (h4 : u.mid ≤ 4) (hq : ¬ q = u.mid) : ∀ d, d ≤ c → upd pl c (nI q) d = nI (va_up π c q d) ∧ va_up π c q d < 4 := by
  intro d hd
  by_cases e : d = c
  · subst e; rw [pk_us, va_up_self]; exact ⟨rfl, by have := h.2.1; omega⟩
  · rw [pk_un e, va_up_ne _ _ e]; obtain ⟨a1, a2, -⟩ := h.2.2.2.1 d (by omega); exact ⟨a1, by omega⟩
/-- so many numbers from one row into another -/
def cpF (f g : Nat → Int32) (fi ti m : Nat) : Nat → Int32 := fun k => if ti ≤ k ∧ k < ti + m then f (k - ti + fi) else g k
theorem cp_0 {f g : Nat → Int32} {fi ti : Nat} : g = cpF f g fi ti 0 := by
  funext k; unfold cpF; rw [if_neg (by omega)]
theorem cp_step {f g : Nat → Int32} {fi ti m : Nat} : upd (cpF f g fi ti m) (ti + m) (f (fi + m)) = cpF f g fi ti (m + 1) := by
  funext k
  by_cases e : k = ti + m
  · subst e; rw [pk_us]; unfold cpF; rw [if_pos (by omega)]; congr 1; omega
  · rw [pk_un e]; unfold cpF
    by_cases g : ti ≤ k ∧ k < ti + m
    · rw [if_pos g, if_pos (by omega)]
    · rw [if_neg g, if_neg (by omega)]
theorem cp_at {f : Nat → Int32} {fi ti m : Nat} (h : ti ≤ fi) : cpF f f fi ti m (fi + m) = f (fi + m) := by unfold cpF; rw [if_neg (by omega)]
theorem cp_in {f g : Nat → Int32} {fi ti m k : Nat} (h : k < m) : cpF f g fi ti m (ti + k) = f (fi + k) := by unfold cpF; rw [if_pos (by omega)]; congr 1; omega
theorem cp_out {f g : Nat → Int32} {fi ti m k : Nat} (h : k < ti ∨ ti + m ≤ k) : cpF f g fi ti m k = g k := by unfold cpF; rw [if_neg (by omega)]
theorem rq_of {f g : Nat → Int32} {u : SS} (hn : u.cnt ≤ 16) (h : RowQ f u) (e : ∀ k, k < 104 → g k = f k) : RowQ g u := by
  obtain ⟨⟨a0, a1, a2, a3, a4, a5, a6, a7⟩, h2, h3⟩ := h
  refine ⟨⟨?_, ?_, ?_, ?_, ?_, ?_, ?_, ?_⟩, fun c hc => ?_, fun x hx => ?_⟩
  · rw [e _ (by decide)]; exact a0
  · rw [e _ (by decide)]; exact a1
  · rw [e _ (by decide)]; exact a2
  · rw [e _ (by decide)]; exact a3
  · rw [e _ (by decide)]; exact a4
  · rw [e _ (by decide)]; exact a5
  · rw [e _ (by decide)]; exact a6
  · rw [e _ (by decide)]; exact a7
  · rw [e _ (by omega), e _ (by omega), e _ (by omega), e _ (by omega)]; exact h2 c hc
  · rw [e _ (by omega), e _ (by omega)]; exact h3 x hx
abbrev z0 : Nat → Nat := fun _ => 0
def newS (a b c d : Nat) : SS := SS.mk a b c d 2 0 0 0 z0 z0 z0 z0 z0 z0
theorem rq_clean {f : Nat → Int32} {a b c d : Nat} (h : ∀ k, k < 104 → f k = nI 0) : RowQ (upd (upd (upd (upd (upd f 0 (nI a)) 1 (nI b)) 2 (nI c)) 3 (nI d)) 5 (nI 2)) (newS a b c d) := by
  refine ⟨⟨rfl, rfl, rfl, rfl, ?_, rfl, ?_, ?_⟩, fun k hk => absurd hk (Nat.not_lt_zero _), fun x hx => ⟨?_, ?_⟩⟩
  · exact h 4 (by decide)
  · exact h 6 (by decide)
  · exact h 7 (by decide)
  · rw [pk_un (by omega), pk_un (by omega), pk_un (by omega), pk_un (by omega), pk_un (by omega)]; exact h _ (by omega)
  · rw [pk_un (by omega), pk_un (by omega), pk_un (by omega), pk_un (by omega), pk_un (by omega)]; exact h _ (by omega)
theorem jN_mul10 {k : Nat} : jN (10 ^ k) * 10 = jN (10 ^ (k + 1)) := by
  show Int64.ofNat (10 ^ k) * Int64.ofNat 10 = Int64.ofNat (10 ^ (k + 1))
  rw [← Int64.ofNat_mul, Nat.pow_succ]
def InQ (v lo hi : Int64) : Prop := lo.toInt ≤ v.toInt ∧ v.toInt ≤ hi.toInt
theorem lg_gt {x y : Int64} (h : 0 < lg_cmp x y) : y < x := by
  unfold lg_cmp at h
  split at h
  · assumption
  · split at h
    · exact absurd h (by decide)
    · exact absurd h (by decide)
theorem lg_ngt {x y : Int64} (h : ¬ 0 < lg_cmp x y) : ¬ y < x := by
  intro g
  apply h
  unfold lg_cmp
  rw [if_pos (show x > y from g)]
  decide
theorem nar_b {v : Nat} (h : v < 2) : narrow FieldType.boolean (Value.int (nI v)) = Value.int (nI v) := by
  rcases (show v = 0 ∨ v = 1 by omega) with e | e <;> rw [e] <;> rfl

abbrev rmX5_callAt : Room := { frames := 0, cells := 0, slots := 0, locals := 0 }
theorem n_X5_callAt : yX5_callAt.cls ≠ "java/lang/invoke/MethodHandle" ∧ yX5_callAt.cls ≠ "java/lang/invoke/VarHandle" ∧ (parseMethodDescriptor yX5_callAt.desc).map (fun d => d.parameters.length) = some 2 := by decide +kernel
set_option maxHeartbeats 4000000 in
set_option maxRecDepth 100000 in
theorem k_X5_callAt (l : Launch) (D : va_G) (cT : Nat → ClassId) (ca w : Nat)  : MR l D cT yX5_callAt wsX5_callAt rmX5_callAt [.int (nI ca), .int (nI w)] [] (fun r => r = nI (8 + 4 * ca + w)) := by
  refine m_R [(0, .int (nI ca)), (1, .int (nI w))] (by decide +kernel) rfl (Nat.le_of_ble_eq_true rfl) rfl ?_
  intro p e s m args below meth c C hr hk
  generalize hQ : MQ below (vp_Si _) args s 0 0 (fun _ => False) = Q
  refine r_bi (pc := 0) (v := nI 8) C rfl dX5_callAt_0 ?_
  refine r_ic (pc := 2) (v := nI 4) C rfl dX5_callAt_2 ?_
  refine r_iln (pc := 3) C 0 rfl dX5_callAt_3 ?_
  refine r_imulN (pc := 4) C dX5_callAt_4 ?_
  refine r_iaddN (pc := 5) C dX5_callAt_5 ?_
  refine r_iln (pc := 6) C 1 rfl dX5_callAt_6 ?_
  refine r_iaddN (pc := 7) C dX5_callAt_7 ?_
  subst hQ
  exact e_iR C hr hk rfl dX5_callAt_8

abbrev rmX5_inputs : Room := { frames := 0, cells := 0, slots := 0, locals := 0 }
theorem n_X5_inputs : yX5_inputs.cls ≠ "java/lang/invoke/MethodHandle" ∧ yX5_inputs.cls ≠ "java/lang/invoke/VarHandle" ∧ (parseMethodDescriptor yX5_inputs.desc).map (fun d => d.parameters.length) = some 1 := by decide +kernel
set_option maxHeartbeats 4000000 in
set_option maxRecDepth 100000 in
theorem k_X5_inputs (l : Launch) (D : va_G) (cT : Nat → ClassId) (ra : Nat) (f : Nat → Int32) (u : SS) (hR : RowQ f u) (hB : BDq u) : MR l D cT yX5_inputs wsX5_inputs rmX5_inputs [.ref ra] [(ra, aI (cT 0) 104 f)] (fun r => r = nI (u.fst * u.wid)) := by
  refine m_R [(0, .ref ra)] (by decide +kernel) rfl (Nat.le_of_ble_eq_true rfl) rfl ?_
  intro p e s m args below meth c C hr hk
  generalize hQ : MQ below (vp_Si _) args s 0 0 (fun _ => False) = Q
  obtain ⟨hF, hW, hM, hL, hPa, hBr, hCn, hFL, hE⟩ := id hB
  refine r_aln (pc := 0) C 0 rfl dX5_inputs_0 ?_
  refine r_ic (pc := 1) (v := nI 0) C rfl dX5_inputs_1 ?_
  refine r_ialI (pc := 2) C 0 rfl (by omega) (by decide) dX5_inputs_2 ?_
  refine r_v (y := nI u.fst) hR.1.1 ?_
  refine r_aln (pc := 3) C 0 rfl dX5_inputs_3 ?_
  refine r_ic (pc := 4) (v := nI 1) C rfl dX5_inputs_4 ?_
  refine r_ialI (pc := 5) C 0 rfl (by omega) (by decide) dX5_inputs_5 ?_
  refine r_v (y := nI u.wid) hR.1.2.1 ?_
  refine r_imulN (pc := 6) C dX5_inputs_6 ?_
  subst hQ
  exact e_iR C hr hk rfl dX5_inputs_7

abbrev rmX5_outputs : Room := { frames := 0, cells := 0, slots := 0, locals := 0 }
theorem n_X5_outputs : yX5_outputs.cls ≠ "java/lang/invoke/MethodHandle" ∧ yX5_outputs.cls ≠ "java/lang/invoke/VarHandle" ∧ (parseMethodDescriptor yX5_outputs.desc).map (fun d => d.parameters.length) = some 1 := by decide +kernel
set_option maxHeartbeats 4000000 in
set_option maxRecDepth 100000 in
theorem k_X5_outputs (l : Launch) (D : va_G) (cT : Nat → ClassId) (ra : Nat) (f : Nat → Int32) (u : SS) (hR : RowQ f u) (hB : BDq u) : MR l D cT yX5_outputs wsX5_outputs rmX5_outputs [.ref ra] [(ra, aI (cT 0) 104 f)] (fun r => r = nI (u.las * u.wid)) := by
  refine m_R [(0, .ref ra)] (by decide +kernel) rfl (Nat.le_of_ble_eq_true rfl) rfl ?_
  intro p e s m args below meth c C hr hk
  generalize hQ : MQ below (vp_Si _) args s 0 0 (fun _ => False) = Q
  obtain ⟨hF, hW, hM, hL, hPa, hBr, hCn, hFL, hE⟩ := id hB
  refine r_aln (pc := 0) C 0 rfl dX5_outputs_0 ?_
  refine r_ic (pc := 1) (v := nI 3) C rfl dX5_outputs_1 ?_
  refine r_ialI (pc := 2) C 0 rfl (by omega) (by decide) dX5_outputs_2 ?_
  refine r_v (y := nI u.las) hR.1.2.2.2.1 ?_
  refine r_aln (pc := 3) C 0 rfl dX5_outputs_3 ?_
  refine r_ic (pc := 4) (v := nI 1) C rfl dX5_outputs_4 ?_
  refine r_ialI (pc := 5) C 0 rfl (by omega) (by decide) dX5_outputs_5 ?_
  refine r_v (y := nI u.wid) hR.1.2.1 ?_
  refine r_imulN (pc := 6) C dX5_outputs_6 ?_
  subst hQ
  exact e_iR C hr hk rfl dX5_outputs_7

abbrev rmX5_bits : Room := { frames := 0, cells := 0, slots := 0, locals := 0 }
theorem n_X5_bits : yX5_bits.cls ≠ "java/lang/invoke/MethodHandle" ∧ yX5_bits.cls ≠ "java/lang/invoke/VarHandle" ∧ (parseMethodDescriptor yX5_bits.desc).map (fun d => d.parameters.length) = some 1 := by decide +kernel
set_option maxHeartbeats 4000000 in
set_option maxRecDepth 100000 in
theorem k_X5_bits (l : Launch) (D : va_G) (cT : Nat → ClassId) (x : Nat) (hx : x < 65536) : MR l D cT yX5_bits wsX5_bits rmX5_bits [.int (nI x)] [] (fun r => r = nI (pcn x)) := by
  refine m_R [(0, .int (nI x))] (by decide +kernel) rfl (Nat.le_of_ble_eq_true rfl) rfl ?_
  intro p e s m args below meth c C hr hk
  generalize hQ : MQ below (vp_Si _) args s 0 0 (fun _ => False) = Q
  refine r_ic (pc := 0) (v := nI 0) C rfl dX5_bits_0 ?_
  refine r_isn (pc := 1) C [1, 0] [(0, .int (nI x)), (1, .int (nI 0))] rfl (by decide) rfl dX5_bits_1 ?_
  refine r_ic (pc := 2) (v := nI 0) C rfl dX5_bits_2 ?_
  refine r_isn (pc := 3) C [1, 2, 0] [(0, .int (nI x)), (1, .int (nI 0)), (2, .int (nI 0))] rfl (by decide) rfl dX5_bits_3 ?_
  have L4 : ∀ (n4 : Nat) (k : Nat) (hkk : k ≤ 16), 16 - k < n4 → RW p l e (headSpec wsX5_bits rmX5_bits).room s m args below meth c (IR s D) 3 0 0 Q [] 4 [(0, .int (nI x)), (1, .int (nI (pcTo x k))), (2, .int (nI k))] [] := by
    intro n4
    induction n4 with
    | zero => intro k hkk hn4; exact absurd hn4 (Nat.not_lt_zero _)
    | succ n4 ih4 =>
      intro k hkk hn4
      refine r_iln (pc := 4) C 2 rfl dX5_bits_4 ?_
      refine r_bi (pc := 5) (v := nI 16) C rfl dX5_bits_5 ?_
      refine r_cgeN (pc := 7) (tgt := 24) C (by first | omega) (by first | omega) dX5_bits_7 (by decide) (fun c7 => ?_) (fun c7 => ?_)
      · refine r_iln (pc := 24) C 1 rfl dX5_bits_24 ?_
        subst hQ
        exact e_iR C hr hk (congrArg (fun k => nI (pcTo x k)) (by omega)) dX5_bits_25
      · refine r_iln (pc := 10) C 1 rfl dX5_bits_10 ?_
        refine r_iln (pc := 11) C 0 rfl dX5_bits_11 ?_
        refine r_iln (pc := 12) C 2 rfl dX5_bits_12 ?_
        refine r_ishrN (pc := 13) C (by omega) (by first | omega) dX5_bits_13 ?_
        refine r_ic (pc := 14) (v := nI 1) C rfl dX5_bits_14 ?_
        refine r_iandN (pc := 15) C dX5_bits_15 ?_
        refine r_v (y := nI (x.testBit k).toNat) (congrArg nI (rw_bit _ _)) ?_
        refine r_iaddN (pc := 16) C dX5_bits_16 ?_
        refine r_isn (pc := 17) C [1, 0, 2] [(0, .int (nI x)), (1, .int (nI ((pcTo x k) + ((x.testBit k).toNat)))), (2, .int (nI k))] rfl (by decide) rfl dX5_bits_17 ?_
        refine r_incN (pc := 18) C 2 [1, 2, 0] [(0, .int (nI x)), (1, .int (nI ((pcTo x k) + ((x.testBit k).toNat)))), (2, .int (nI (k + 1)))] rfl (by decide) rfl dX5_bits_18 ?_
        refine r_goto (pc := 21) (tgt := 4) C dX5_bits_21 (by decide) ?_
        exact ih4 (k + 1) (by omega) (by omega)
  exact L4 _ 0 (by omega) (Nat.lt_succ_self _)

abbrev rmX5_boards : Room := { frames := 1, cells := 0, slots := 0, locals := 21 }
theorem n_X5_boards : yX5_boards.cls ≠ "java/lang/invoke/MethodHandle" ∧ yX5_boards.cls ≠ "java/lang/invoke/VarHandle" ∧ (parseMethodDescriptor yX5_boards.desc).map (fun d => d.parameters.length) = some 2 := by decide +kernel
set_option maxHeartbeats 4000000 in
set_option maxRecDepth 100000 in
theorem k_X5_boards (l : Launch) (D : va_G) (cT : Nat → ClassId) (ra : Nat) (f : Nat → Int32) (ca : Nat) (u : SS) (hR : RowQ f u) (hB : BDq u) (hca : ca < u.cnt) : MR l D cT yX5_boards wsX5_boards rmX5_boards [.ref ra, .int (nI ca)] [(ra, aI (cT 0) 104 f)] (fun r => r = nI (lbs u.wid (u.outs ca))) := by
  refine m_R [(0, .ref ra), (1, .int (nI ca))] (by decide +kernel) rfl (Nat.le_of_ble_eq_true rfl) rfl ?_
  intro p e s m args below meth c C hr hk
  generalize hQ : MQ below (vp_Si _) args s 0 0 (fun _ => False) = Q
  obtain ⟨hF, hW, hM, hL, hPa, hBr, hCn, hFL, hE⟩ := id hB
  have hc1 := hE ca hca
  refine r_ic (pc := 0) (v := nI 0) C rfl dX5_boards_0 ?_
  refine r_isn (pc := 1) C [1, 2, 0] [(0, .ref ra), (1, .int (nI ca)), (2, .int (nI 0))] rfl (by decide) rfl dX5_boards_1 ?_
  refine r_ic (pc := 2) (v := nI 0) C rfl dX5_boards_2 ?_
  refine r_isn (pc := 3) C [1, 2, 3, 0] [(0, .ref ra), (1, .int (nI ca)), (2, .int (nI 0)), (3, .int (nI 0))] rfl (by decide) rfl dX5_boards_3 ?_
  have L4 : ∀ (n4 : Nat) (o : Nat) (ho : o ≤ u.las * u.wid), u.las * u.wid - o < n4 → RW p l e (headSpec wsX5_boards rmX5_boards).room s m args below meth c (IR s D) 4 0 0 Q [(ra, aI (cT 0) 104 f)] 4 [(0, .ref ra), (1, .int (nI ca)), (2, .int (nI (lbTo u.wid (u.outs ca) o))), (3, .int (nI o))] [] := by
    intro n4
    induction n4 with
    | zero => intro o ho hn4; exact absurd hn4 (Nat.not_lt_zero _)
    | succ n4 ih4 =>
      intro o ho hn4
      refine r_iln (pc := 4) C 3 rfl dX5_boards_4 ?_
      refine r_aln (pc := 5) C 0 rfl dX5_boards_5 ?_
      refine c_RS (pc := 6) (As := [.ref ra]) (wc := [(ra, aI (cT 0) 104 f)])  C (k_X5_outputs l D cT ra f u (by first | assumption | omega) (by first | assumption | omega)) (va_cwS 1 C.1.2.2.2.2 gX5_boards_X5_outputs rfl rfl rfl n_X5_outputs ⟨Nat.le_of_ble_eq_true rfl, Nat.le_of_ble_eq_true rfl⟩) [0] rfl rfl rfl (Nat.le_of_ble_eq_true rfl) ⟨Nat.zero_le _, Nat.zero_le _⟩ dX5_boards_6 (fun r6 h1 => ?_)
      subst h1
      refine r_cgeN (pc := 9) (tgt := 47) C (by first | omega | (have := Nat.div_le_self o u.wid; omega) | exact lt_trans2 (lbTo_lt u.wid (u.outs ca) o (by omega))) (by first | omega | (have := Nat.div_le_self o u.wid; omega) | exact lt_trans2 (lbTo_lt u.wid (u.outs ca) o (by omega))) dX5_boards_9 (by decide) (fun c9 => ?_) (fun c9 => ?_)
      · refine r_iln (pc := 47) C 2 rfl dX5_boards_47 ?_
        subst hQ
        exact e_iR C hr hk (congrArg nI (lb_full2 (by omega) ho hc1.2.1 hFL.2)) dX5_boards_48
      · refine r_iln (pc := 12) C 2 rfl dX5_boards_12 ?_
        refine r_aln (pc := 13) C 0 rfl dX5_boards_13 ?_
        refine r_iln (pc := 14) C 1 rfl dX5_boards_14 ?_
        refine r_ic (pc := 15) (v := nI 1) C rfl dX5_boards_15 ?_
        refine c_RS (pc := 16) (As := [.int (nI ca), .int (nI 1)]) (wc := [])  C (k_X5_callAt l D cT ca 1) (va_cwS 2 C.1.2.2.2.2 gX5_boards_X5_callAt rfl rfl rfl n_X5_callAt ⟨Nat.le_of_ble_eq_true rfl, Nat.le_of_ble_eq_true rfl⟩) [] rfl rfl rfl (Nat.le_of_ble_eq_true rfl) ⟨Nat.zero_le _, Nat.zero_le _⟩ dX5_boards_16 (fun r16 h2 => ?_)
        subst h2
        refine r_ialI (pc := 19) C 0 rfl (by first | omega | (have := Nat.div_le_self o u.wid; omega) | exact lt_trans2 (lbTo_lt u.wid (u.outs ca) o (by omega))) (by decide) dX5_boards_19 ?_
        refine r_v (y := nI (u.outs ca)) ((hR.2.1 ca (by first | omega | (have := Nat.div_le_self o u.wid; omega) | exact lt_trans2 (lbTo_lt u.wid (u.outs ca) o (by omega)))).2.1) ?_
        refine r_iln (pc := 20) C 3 rfl dX5_boards_20 ?_
        refine r_ishrN (pc := 21) C (by omega) (by first | omega | (have := Nat.div_le_self o u.wid; omega) | exact lt_trans2 (lbTo_lt u.wid (u.outs ca) o (by omega))) dX5_boards_21 ?_
        refine r_ic (pc := 22) (v := nI 1) C rfl dX5_boards_22 ?_
        refine r_iandN (pc := 23) C dX5_boards_23 ?_
        refine r_v (y := nI ((u.outs ca).testBit o).toNat) (congrArg nI (rw_bit _ _)) ?_
        refine r_ic (pc := 24) (v := nI 1) C rfl dX5_boards_24 ?_
        refine r_cneN (pc := 25) (tgt := 38) C bool_lt (by decide) dX5_boards_25 (by decide) (fun c25 => ?_) (fun c25 => ?_)
        · have c25 := bool1n.mp c25
          refine r_ic (pc := 38) (v := nI 0) C rfl dX5_boards_38 ?_
          refine r_iorN (pc := 39) C dX5_boards_39 ?_
          refine r_isn (pc := 40) C [1, 2, 0, 3] [(0, .ref ra), (1, .int (nI ca)), (2, .int (nI ((lbTo u.wid (u.outs ca) o) ||| 0))), (3, .int (nI o))] rfl (by decide) rfl dX5_boards_40 ?_
          refine r_incN (pc := 41) C 3 [1, 2, 3, 0] [(0, .ref ra), (1, .int (nI ca)), (2, .int (nI ((lbTo u.wid (u.outs ca) o) ||| 0))), (3, .int (nI (o + 1)))] rfl (by decide) rfl dX5_boards_41 ?_
          refine r_goto (pc := 44) (tgt := 4) C dX5_boards_44 (by decide) ?_
          rw [show lbTo u.wid (u.outs ca) o ||| 0 = lbTo u.wid (u.outs ca) (o + 1) from (Nat.or_zero _).trans (if_neg (by rw [c25]; decide)).symm]
          exact ih4 (o + 1) (by omega) (by omega)
        · have c25 := bool1.mp c25
          refine r_ic (pc := 28) (v := nI 1) C rfl dX5_boards_28 ?_
          refine r_iln (pc := 29) C 3 rfl dX5_boards_29 ?_
          refine r_aln (pc := 30) C 0 rfl dX5_boards_30 ?_
          refine r_ic (pc := 31) (v := nI 1) C rfl dX5_boards_31 ?_
          refine r_ialI (pc := 32) C 0 rfl (by first | omega | (have := Nat.div_le_self o u.wid; omega) | exact lt_trans2 (lbTo_lt u.wid (u.outs ca) o (by omega))) (by decide) dX5_boards_32 ?_
          refine r_v (y := nI u.wid) hR.1.2.1 ?_
          refine r_idivN (pc := 33) C (by first | omega | (have := Nat.div_le_self o u.wid; omega) | exact lt_trans2 (lbTo_lt u.wid (u.outs ca) o (by omega))) (by omega) (by omega) dX5_boards_33 ?_
          refine r_ishlN (pc := 34) C (by first | omega | (have := Nat.div_le_self o u.wid; omega) | exact lt_trans2 (lbTo_lt u.wid (u.outs ca) o (by omega))) (by rw [Nat.one_mul]; exact p2_lt31 (by first | omega | (have := Nat.div_le_self o u.wid; omega) | exact lt_trans2 (lbTo_lt u.wid (u.outs ca) o (by omega)))) dX5_boards_34 ?_
          refine r_v (y := nI (2 ^ (o / u.wid))) (congrArg nI (Nat.one_mul _)) ?_
          refine r_goto (pc := 35) (tgt := 39) C dX5_boards_35 (by decide) ?_
          refine r_iorN (pc := 39) C dX5_boards_39 ?_
          refine r_isn (pc := 40) C [1, 2, 0, 3] [(0, .ref ra), (1, .int (nI ca)), (2, .int (nI ((lbTo u.wid (u.outs ca) o) ||| (2 ^ (o / u.wid))))), (3, .int (nI o))] rfl (by decide) rfl dX5_boards_40 ?_
          refine r_incN (pc := 41) C 3 [1, 2, 3, 0] [(0, .ref ra), (1, .int (nI ca)), (2, .int (nI ((lbTo u.wid (u.outs ca) o) ||| (2 ^ (o / u.wid))))), (3, .int (nI (o + 1)))] rfl (by decide) rfl dX5_boards_41 ?_
          refine r_goto (pc := 44) (tgt := 4) C dX5_boards_44 (by decide) ?_
          rw [show lbTo u.wid (u.outs ca) o ||| 2 ^ (o / u.wid) = lbTo u.wid (u.outs ca) (o + 1) from (if_pos c25).symm]
          exact ih4 (o + 1) (by omega) (by omega)
  exact L4 _ 0 (Nat.zero_le _) (Nat.lt_succ_self _)

abbrev rmX5_firstOf : Room := { frames := 1, cells := 0, slots := 0, locals := 21 }
theorem n_X5_firstOf : yX5_firstOf.cls ≠ "java/lang/invoke/MethodHandle" ∧ yX5_firstOf.cls ≠ "java/lang/invoke/VarHandle" ∧ (parseMethodDescriptor yX5_firstOf.desc).map (fun d => d.parameters.length) = some 2 := by decide +kernel
set_option maxHeartbeats 4000000 in
set_option maxRecDepth 100000 in
theorem k_X5_firstOf (l : Launch) (D : va_G) (cT : Nat → ClassId) (ra : Nat) (f : Nat → Int32) (ca : Nat) (u : SS) (hR : RowQ f u) (hB : BDq u) (hca : ca < u.cnt) : MR l D cT yX5_firstOf wsX5_firstOf rmX5_firstOf [.ref ra, .int (nI ca)] [(ra, aI (cT 0) 104 f)] (fun r => r = nI (u.inp ca / u.wid)) := by
  refine m_R [(0, .ref ra), (1, .int (nI ca))] (by decide +kernel) rfl (Nat.le_of_ble_eq_true rfl) rfl ?_
  intro p e s m args below meth c C hr hk
  generalize hQ : MQ below (vp_Si _) args s 0 0 (fun _ => False) = Q
  obtain ⟨hF, hW, hM, hL, hPa, hBr, hCn, hFL, hE⟩ := id hB
  have hc1 := hE ca hca
  refine r_aln (pc := 0) C 0 rfl dX5_firstOf_0 ?_
  refine r_iln (pc := 1) C 1 rfl dX5_firstOf_1 ?_
  refine r_ic (pc := 2) (v := nI 0) C rfl dX5_firstOf_2 ?_
  refine c_RS (pc := 3) (As := [.int (nI ca), .int (nI 0)]) (wc := [])  C (k_X5_callAt l D cT ca 0) (va_cwS 2 C.1.2.2.2.2 gX5_firstOf_X5_callAt rfl rfl rfl n_X5_callAt ⟨Nat.le_of_ble_eq_true rfl, Nat.le_of_ble_eq_true rfl⟩) [] rfl rfl rfl (Nat.le_of_ble_eq_true rfl) ⟨Nat.zero_le _, Nat.zero_le _⟩ dX5_firstOf_3 (fun r3 h1 => ?_)
  subst h1
  refine r_ialI (pc := 6) C 0 rfl (by omega) (by decide) dX5_firstOf_6 ?_
  refine r_v (y := nI (u.inp ca)) ((hR.2.1 ca (by omega)).1) ?_
  refine r_aln (pc := 7) C 0 rfl dX5_firstOf_7 ?_
  refine r_ic (pc := 8) (v := nI 1) C rfl dX5_firstOf_8 ?_
  refine r_ialI (pc := 9) C 0 rfl (by omega) (by decide) dX5_firstOf_9 ?_
  refine r_v (y := nI u.wid) hR.1.2.1 ?_
  refine r_idivN (pc := 10) C (by omega) (by omega) (by omega) dX5_firstOf_10 ?_
  subst hQ
  exact e_iR C hr hk rfl dX5_firstOf_11

abbrev rmX5_clash : Room := { frames := 2, cells := 0, slots := 0, locals := 44 }
theorem n_X5_clash : yX5_clash.cls ≠ "java/lang/invoke/MethodHandle" ∧ yX5_clash.cls ≠ "java/lang/invoke/VarHandle" ∧ (parseMethodDescriptor yX5_clash.desc).map (fun d => d.parameters.length) = some 3 := by decide +kernel
set_option maxHeartbeats 4000000 in
set_option maxRecDepth 100000 in
theorem k_X5_clash (l : Launch) (D : va_G) (cT : Nat → ClassId) (ra : Nat) (f : Nat → Int32) (ca da : Nat) (u : SS) (hR : RowQ f u) (hB : BDq u) (hca : ca < u.cnt) (hda : da < u.cnt) : MR l D cT yX5_clash wsX5_clash rmX5_clash [.ref ra, .int (nI ca), .int (nI da)] [(ra, aI (cT 0) 104 f)] (fun r => (r = nI 1 ∧ CLq u ca da) ∨ (r = nI 0 ∧ ¬ CLq u ca da)) := by
  refine m_R [(0, .ref ra), (1, .int (nI ca)), (2, .int (nI da))] (by decide +kernel) rfl (Nat.le_of_ble_eq_true rfl) rfl ?_
  intro p e s m args below meth c C hr hk
  generalize hQ : MQ below (vp_Si _) args s 0 0 (fun _ => False) = Q
  obtain ⟨hF, hW, hM, hL, hPa, hBr, hCn, hFL, hE⟩ := id hB
  have hc1 := hE ca hca
  have hd1 := hE da hda
  refine r_aln (pc := 0) C 0 rfl dX5_clash_0 ?_
  refine r_iln (pc := 1) C 1 rfl dX5_clash_1 ?_
  refine c_RS (pc := 2) (As := [.ref ra, .int (nI ca)]) (wc := [(ra, aI (cT 0) 104 f)])  C (k_X5_firstOf l D cT ra f ca u (by first | assumption | omega) (by first | assumption | omega) (by first | assumption | omega)) (va_cwS 2 C.1.2.2.2.2 gX5_clash_X5_firstOf rfl rfl rfl n_X5_firstOf ⟨Nat.le_of_ble_eq_true rfl, Nat.le_of_ble_eq_true rfl⟩) [0] rfl rfl rfl (Nat.le_of_ble_eq_true rfl) ⟨Nat.zero_le _, Nat.zero_le _⟩ dX5_clash_2 (fun r2 h1 => ?_)
  subst h1
  refine r_aln (pc := 5) C 0 rfl dX5_clash_5 ?_
  refine r_iln (pc := 6) C 2 rfl dX5_clash_6 ?_
  refine c_RS (pc := 7) (As := [.ref ra, .int (nI da)]) (wc := [(ra, aI (cT 0) 104 f)])  C (k_X5_firstOf l D cT ra f da u (by first | assumption | omega) (by first | assumption | omega) (by first | assumption | omega)) (va_cwS 2 C.1.2.2.2.2 gX5_clash_X5_firstOf rfl rfl rfl n_X5_firstOf ⟨Nat.le_of_ble_eq_true rfl, Nat.le_of_ble_eq_true rfl⟩) [0] rfl rfl rfl (Nat.le_of_ble_eq_true rfl) ⟨Nat.zero_le _, Nat.zero_le _⟩ dX5_clash_7 (fun r7 h2 => ?_)
  subst h2
  refine r_ceqN (pc := 10) (tgt := 27) C (by first | omega | (have := Nat.div_le_self (u.inp ca) u.wid; omega) | (have := Nat.div_le_self (u.inp da) u.wid; omega) | exact and_lt31 (lbTo_lt _ _ 16 (by omega))) (by first | omega | (have := Nat.div_le_self (u.inp ca) u.wid; omega) | (have := Nat.div_le_self (u.inp da) u.wid; omega) | exact and_lt31 (lbTo_lt _ _ 16 (by omega))) dX5_clash_10 (by decide) (fun c10 => ?_) (fun c10 => ?_)
  · refine r_ic (pc := 27) (v := nI 1) C rfl dX5_clash_27 ?_
    refine r_goto (pc := 28) (tgt := 32) C dX5_clash_28 (by decide) ?_
    subst hQ
    exact e_zR C hr hk rfl (Or.inl ⟨rfl, Or.inl c10⟩) dX5_clash_32
  · refine r_aln (pc := 13) C 0 rfl dX5_clash_13 ?_
    refine r_iln (pc := 14) C 1 rfl dX5_clash_14 ?_
    refine c_RS (pc := 15) (As := [.ref ra, .int (nI ca)]) (wc := [(ra, aI (cT 0) 104 f)])  C (k_X5_boards l D cT ra f ca u (by first | assumption | omega) (by first | assumption | omega) (by first | assumption | omega)) (va_cwS 2 C.1.2.2.2.2 gX5_clash_X5_boards rfl rfl rfl n_X5_boards ⟨Nat.le_of_ble_eq_true rfl, Nat.le_of_ble_eq_true rfl⟩) [0] rfl rfl rfl (Nat.le_of_ble_eq_true rfl) ⟨Nat.zero_le _, Nat.zero_le _⟩ dX5_clash_15 (fun r15 h3 => ?_)
    subst h3
    refine r_aln (pc := 18) C 0 rfl dX5_clash_18 ?_
    refine r_iln (pc := 19) C 2 rfl dX5_clash_19 ?_
    refine c_RS (pc := 20) (As := [.ref ra, .int (nI da)]) (wc := [(ra, aI (cT 0) 104 f)])  C (k_X5_boards l D cT ra f da u (by first | assumption | omega) (by first | assumption | omega) (by first | assumption | omega)) (va_cwS 2 C.1.2.2.2.2 gX5_clash_X5_boards rfl rfl rfl n_X5_boards ⟨Nat.le_of_ble_eq_true rfl, Nat.le_of_ble_eq_true rfl⟩) [0] rfl rfl rfl (Nat.le_of_ble_eq_true rfl) ⟨Nat.zero_le _, Nat.zero_le _⟩ dX5_clash_20 (fun r20 h4 => ?_)
    subst h4
    refine r_iandN (pc := 23) C dX5_clash_23 ?_
    refine r_zeqN (pc := 24) (tgt := 31) C (by first | omega | (have := Nat.div_le_self (u.inp ca) u.wid; omega) | (have := Nat.div_le_self (u.inp da) u.wid; omega) | exact and_lt31 (lbTo_lt _ _ 16 (by omega))) dX5_clash_24 (by decide) (fun c24 => ?_) (fun c24 => ?_)
    · refine r_ic (pc := 31) (v := nI 0) C rfl dX5_clash_31 ?_
      subst hQ
      exact e_zR C hr hk rfl (Or.inr ⟨rfl, fun g => g.elim c10 (fun g => by omega)⟩) dX5_clash_32
    · refine r_ic (pc := 27) (v := nI 1) C rfl dX5_clash_27 ?_
      refine r_goto (pc := 28) (tgt := 32) C dX5_clash_28 (by decide) ?_
      subst hQ
      exact e_zR C hr hk rfl (Or.inl ⟨rfl, Or.inr c24⟩) dX5_clash_32

abbrev rmX5_byInput : Room := { frames := 1, cells := 0, slots := 0, locals := 21 }
theorem n_X5_byInput : yX5_byInput.cls ≠ "java/lang/invoke/MethodHandle" ∧ yX5_byInput.cls ≠ "java/lang/invoke/VarHandle" ∧ (parseMethodDescriptor yX5_byInput.desc).map (fun d => d.parameters.length) = some 2 := by decide +kernel
set_option maxHeartbeats 4000000 in
set_option maxRecDepth 100000 in
theorem k_X5_byInput (l : Launch) (D : va_G) (cT : Nat → ClassId) (ra : Nat) (f : Nat → Int32) (x : Nat) (u : SS) (hR : RowQ f u) (hB : BDq u) (hx : x < 16) : MR l D cT yX5_byInput wsX5_byInput rmX5_byInput [.ref ra, .int (nI x)] [(ra, aI (cT 0) 104 f)] (fun r => lxQ u.cnt (fun k => u.inp k = x) r) := by
  refine m_R [(0, .ref ra), (1, .int (nI x))] (by decide +kernel) rfl (Nat.le_of_ble_eq_true rfl) rfl ?_
  intro p e s m args below meth c C hr hk
  generalize hQ : MQ below (vp_Si _) args s 0 0 (fun _ => False) = Q
  obtain ⟨hF, hW, hM, hL, hPa, hBr, hCn, hFL, hE⟩ := id hB
  refine r_ic (pc := 0) (v := (-1)) C rfl dX5_byInput_0 ?_
  refine r_isn (pc := 1) C [1, 2, 0] [(0, .ref ra), (1, .int (nI x)), (2, .int (-1))] rfl (by decide) rfl dX5_byInput_1 ?_
  refine r_ic (pc := 2) (v := nI 0) C rfl dX5_byInput_2 ?_
  refine r_isn (pc := 3) C [1, 2, 3, 0] [(0, .ref ra), (1, .int (nI x)), (2, .int (-1)), (3, .int (nI 0))] rfl (by decide) rfl dX5_byInput_3 ?_
  have L4 : ∀ (n4 : Nat) (i : Nat) (fd : Int32) (hi : i ≤ u.cnt) (hq : lxQ i (fun k => u.inp k = x) fd), u.cnt - i < n4 → RW p l e (headSpec wsX5_byInput rmX5_byInput).room s m args below meth c (IR s D) 4 0 0 Q [(ra, aI (cT 0) 104 f)] 4 [(0, .ref ra), (1, .int (nI x)), (2, .int fd), (3, .int (nI i))] [] := by
    intro n4
    induction n4 with
    | zero => intro i fd hi hq hn4; exact absurd hn4 (Nat.not_lt_zero _)
    | succ n4 ih4 =>
      intro i fd hi hq hn4
      refine r_iln (pc := 4) C 3 rfl dX5_byInput_4 ?_
      refine r_aln (pc := 5) C 0 rfl dX5_byInput_5 ?_
      refine r_ic (pc := 6) (v := nI 4) C rfl dX5_byInput_6 ?_
      refine r_ialI (pc := 7) C 0 rfl (by first | omega | (have := hE i (by omega); omega)) (by decide) dX5_byInput_7 ?_
      refine r_v (y := nI u.cnt) hR.1.2.2.2.2.1 ?_
      refine r_cgeN (pc := 8) (tgt := 34) C (by first | omega | (have := hE i (by omega); omega)) (by first | omega | (have := hE i (by omega); omega)) dX5_byInput_8 (by decide) (fun c8 => ?_) (fun c8 => ?_)
      · refine r_iln (pc := 34) C 2 rfl dX5_byInput_34 ?_
        subst hQ
        exact e_iR C hr hk (lx_e hq (by omega) (by omega)) dX5_byInput_35
      · refine r_aln (pc := 11) C 0 rfl dX5_byInput_11 ?_
        refine r_iln (pc := 12) C 3 rfl dX5_byInput_12 ?_
        refine r_ic (pc := 13) (v := nI 0) C rfl dX5_byInput_13 ?_
        refine c_RS (pc := 14) (As := [.int (nI i), .int (nI 0)]) (wc := [])  C (k_X5_callAt l D cT i 0) (va_cwS 2 C.1.2.2.2.2 gX5_byInput_X5_callAt rfl rfl rfl n_X5_callAt ⟨Nat.le_of_ble_eq_true rfl, Nat.le_of_ble_eq_true rfl⟩) [] rfl rfl rfl (Nat.le_of_ble_eq_true rfl) ⟨Nat.zero_le _, Nat.zero_le _⟩ dX5_byInput_14 (fun r14 h1 => ?_)
        subst h1
        refine r_ialI (pc := 17) C 0 rfl (by first | omega | (have := hE i (by omega); omega)) (by decide) dX5_byInput_17 ?_
        refine r_v (y := nI (u.inp i)) ((hR.2.1 i (by first | omega | (have := hE i (by omega); omega))).1) ?_
        refine r_iln (pc := 18) C 1 rfl dX5_byInput_18 ?_
        refine r_cneN (pc := 19) (tgt := 26) C (by first | omega | (have := hE i (by omega); omega)) (by first | omega | (have := hE i (by omega); omega)) dX5_byInput_19 (by decide) (fun c19 => ?_) (fun c19 => ?_)
        · refine r_iln (pc := 26) C 2 rfl dX5_byInput_26 ?_
          refine r_isn (pc := 27) C [1, 2, 0, 3] [(0, .ref ra), (1, .int (nI x)), (2, .int fd), (3, .int (nI i))] rfl (by decide) rfl dX5_byInput_27 ?_
          refine r_incN (pc := 28) C 3 [1, 2, 3, 0] [(0, .ref ra), (1, .int (nI x)), (2, .int fd), (3, .int (nI (i + 1)))] rfl (by decide) rfl dX5_byInput_28 ?_
          refine r_goto (pc := 31) (tgt := 4) C dX5_byInput_31 (by decide) ?_
          exact ih4 (i + 1) fd (by omega) (lx_no hq c19) (by omega)
        · refine r_iln (pc := 22) C 3 rfl dX5_byInput_22 ?_
          refine r_goto (pc := 23) (tgt := 27) C dX5_byInput_23 (by decide) ?_
          refine r_isn (pc := 27) C [1, 2, 0, 3] [(0, .ref ra), (1, .int (nI x)), (2, .int (nI i)), (3, .int (nI i))] rfl (by decide) rfl dX5_byInput_27 ?_
          refine r_incN (pc := 28) C 3 [1, 2, 3, 0] [(0, .ref ra), (1, .int (nI x)), (2, .int (nI i)), (3, .int (nI (i + 1)))] rfl (by decide) rfl dX5_byInput_28 ?_
          refine r_goto (pc := 31) (tgt := 4) C dX5_byInput_31 (by decide) ?_
          exact ih4 (i + 1) (nI i) (by omega) (lx_hit (P := (fun k => u.inp k = x)) c19) (by omega)
  exact L4 _ 0 (-1) (Nat.zero_le _) lx_0 (Nat.lt_succ_self _)

abbrev rmX5_byOutput : Room := { frames := 1, cells := 0, slots := 0, locals := 21 }
theorem n_X5_byOutput : yX5_byOutput.cls ≠ "java/lang/invoke/MethodHandle" ∧ yX5_byOutput.cls ≠ "java/lang/invoke/VarHandle" ∧ (parseMethodDescriptor yX5_byOutput.desc).map (fun d => d.parameters.length) = some 2 := by decide +kernel
set_option maxHeartbeats 4000000 in
set_option maxRecDepth 100000 in
theorem k_X5_byOutput (l : Launch) (D : va_G) (cT : Nat → ClassId) (ra : Nat) (f : Nat → Int32) (y : Nat) (u : SS) (hR : RowQ f u) (hB : BDq u) (hy : y < 16) : MR l D cT yX5_byOutput wsX5_byOutput rmX5_byOutput [.ref ra, .int (nI y)] [(ra, aI (cT 0) 104 f)] (fun r => lxQ u.cnt (fun k => (u.outs k).testBit y = true) r) := by
  refine m_R [(0, .ref ra), (1, .int (nI y))] (by decide +kernel) rfl (Nat.le_of_ble_eq_true rfl) rfl ?_
  intro p e s m args below meth c C hr hk
  generalize hQ : MQ below (vp_Si _) args s 0 0 (fun _ => False) = Q
  obtain ⟨hF, hW, hM, hL, hPa, hBr, hCn, hFL, hE⟩ := id hB
  refine r_ic (pc := 0) (v := (-1)) C rfl dX5_byOutput_0 ?_
  refine r_isn (pc := 1) C [1, 2, 0] [(0, .ref ra), (1, .int (nI y)), (2, .int (-1))] rfl (by decide) rfl dX5_byOutput_1 ?_
  refine r_ic (pc := 2) (v := nI 0) C rfl dX5_byOutput_2 ?_
  refine r_isn (pc := 3) C [1, 2, 3, 0] [(0, .ref ra), (1, .int (nI y)), (2, .int (-1)), (3, .int (nI 0))] rfl (by decide) rfl dX5_byOutput_3 ?_
  have L4 : ∀ (n4 : Nat) (i : Nat) (fd : Int32) (hi : i ≤ u.cnt) (hq : lxQ i (fun k => (u.outs k).testBit y = true) fd), u.cnt - i < n4 → RW p l e (headSpec wsX5_byOutput rmX5_byOutput).room s m args below meth c (IR s D) 4 0 0 Q [(ra, aI (cT 0) 104 f)] 4 [(0, .ref ra), (1, .int (nI y)), (2, .int fd), (3, .int (nI i))] [] := by
    intro n4
    induction n4 with
    | zero => intro i fd hi hq hn4; exact absurd hn4 (Nat.not_lt_zero _)
    | succ n4 ih4 =>
      intro i fd hi hq hn4
      refine r_iln (pc := 4) C 3 rfl dX5_byOutput_4 ?_
      refine r_aln (pc := 5) C 0 rfl dX5_byOutput_5 ?_
      refine r_ic (pc := 6) (v := nI 4) C rfl dX5_byOutput_6 ?_
      refine r_ialI (pc := 7) C 0 rfl (by first | omega | (have := hE i (by omega); omega)) (by decide) dX5_byOutput_7 ?_
      refine r_v (y := nI u.cnt) hR.1.2.2.2.2.1 ?_
      refine r_cgeN (pc := 8) (tgt := 38) C (by first | omega | (have := hE i (by omega); omega)) (by first | omega | (have := hE i (by omega); omega)) dX5_byOutput_8 (by decide) (fun c8 => ?_) (fun c8 => ?_)
      · refine r_iln (pc := 38) C 2 rfl dX5_byOutput_38 ?_
        subst hQ
        exact e_iR C hr hk (lx_e hq (by omega) (by omega)) dX5_byOutput_39
      · refine r_aln (pc := 11) C 0 rfl dX5_byOutput_11 ?_
        refine r_iln (pc := 12) C 3 rfl dX5_byOutput_12 ?_
        refine r_ic (pc := 13) (v := nI 1) C rfl dX5_byOutput_13 ?_
        refine c_RS (pc := 14) (As := [.int (nI i), .int (nI 1)]) (wc := [])  C (k_X5_callAt l D cT i 1) (va_cwS 2 C.1.2.2.2.2 gX5_byOutput_X5_callAt rfl rfl rfl n_X5_callAt ⟨Nat.le_of_ble_eq_true rfl, Nat.le_of_ble_eq_true rfl⟩) [] rfl rfl rfl (Nat.le_of_ble_eq_true rfl) ⟨Nat.zero_le _, Nat.zero_le _⟩ dX5_byOutput_14 (fun r14 h1 => ?_)
        subst h1
        refine r_ialI (pc := 17) C 0 rfl (by first | omega | (have := hE i (by omega); omega)) (by decide) dX5_byOutput_17 ?_
        refine r_v (y := nI (u.outs i)) ((hR.2.1 i (by first | omega | (have := hE i (by omega); omega))).2.1) ?_
        refine r_iln (pc := 18) C 1 rfl dX5_byOutput_18 ?_
        refine r_ishrN (pc := 19) C (by omega) (by first | omega | (have := hE i (by omega); omega)) dX5_byOutput_19 ?_
        refine r_ic (pc := 20) (v := nI 1) C rfl dX5_byOutput_20 ?_
        refine r_iandN (pc := 21) C dX5_byOutput_21 ?_
        refine r_v (y := nI ((u.outs i).testBit y).toNat) (congrArg nI (rw_bit _ _)) ?_
        refine r_ic (pc := 22) (v := nI 1) C rfl dX5_byOutput_22 ?_
        refine r_cneN (pc := 23) (tgt := 30) C bool_lt (by decide) dX5_byOutput_23 (by decide) (fun c23 => ?_) (fun c23 => ?_)
        · have c23 := bool1n.mp c23
          refine r_iln (pc := 30) C 2 rfl dX5_byOutput_30 ?_
          refine r_isn (pc := 31) C [1, 2, 0, 3] [(0, .ref ra), (1, .int (nI y)), (2, .int fd), (3, .int (nI i))] rfl (by decide) rfl dX5_byOutput_31 ?_
          refine r_incN (pc := 32) C 3 [1, 2, 3, 0] [(0, .ref ra), (1, .int (nI y)), (2, .int fd), (3, .int (nI (i + 1)))] rfl (by decide) rfl dX5_byOutput_32 ?_
          refine r_goto (pc := 35) (tgt := 4) C dX5_byOutput_35 (by decide) ?_
          exact ih4 (i + 1) fd (by omega) (lx_no hq (by show ¬ (u.outs i).testBit y = true; rw [c23]; decide)) (by omega)
        · have c23 := bool1.mp c23
          refine r_iln (pc := 26) C 3 rfl dX5_byOutput_26 ?_
          refine r_goto (pc := 27) (tgt := 31) C dX5_byOutput_27 (by decide) ?_
          refine r_isn (pc := 31) C [1, 2, 0, 3] [(0, .ref ra), (1, .int (nI y)), (2, .int (nI i)), (3, .int (nI i))] rfl (by decide) rfl dX5_byOutput_31 ?_
          refine r_incN (pc := 32) C 3 [1, 2, 3, 0] [(0, .ref ra), (1, .int (nI y)), (2, .int (nI i)), (3, .int (nI (i + 1)))] rfl (by decide) rfl dX5_byOutput_32 ?_
          refine r_goto (pc := 35) (tgt := 4) C dX5_byOutput_35 (by decide) ?_
          exact ih4 (i + 1) (nI i) (by omega) (lx_hit (P := (fun k => (u.outs k).testBit y = true)) c23) (by omega)
  exact L4 _ 0 (-1) (Nat.zero_le _) lx_0 (Nat.lt_succ_self _)

abbrev rmX5_links : Room := { frames := 2, cells := 0, slots := 0, locals := 44 }
theorem n_X5_links : yX5_links.cls ≠ "java/lang/invoke/MethodHandle" ∧ yX5_links.cls ≠ "java/lang/invoke/VarHandle" ∧ (parseMethodDescriptor yX5_links.desc).map (fun d => d.parameters.length) = some 1 := by decide +kernel
set_option maxHeartbeats 4000000 in
set_option maxRecDepth 100000 in
theorem k_X5_links (l : Launch) (D : va_G) (cT : Nat → ClassId) (ra : Nat) (f : Nat → Int32) (u : SS) (hR : RowQ f u) (hB : BDq u) : MR l D cT yX5_links wsX5_links rmX5_links [.ref ra] [(ra, aI (cT 0) 104 f)] (fun r => r = nI (sumTo (fun c => 1 + pcn (lbs u.wid (u.outs c))) u.cnt)) := by
  refine m_R [(0, .ref ra)] (by decide +kernel) rfl (Nat.le_of_ble_eq_true rfl) rfl ?_
  intro p e s m args below meth c C hr hk
  generalize hQ : MQ below (vp_Si _) args s 0 0 (fun _ => False) = Q
  obtain ⟨hF, hW, hM, hL, hPa, hBr, hCn, hFL, hE⟩ := id hB
  refine r_ic (pc := 0) (v := nI 0) C rfl dX5_links_0 ?_
  refine r_isn (pc := 1) C [1, 0] [(0, .ref ra), (1, .int (nI 0))] rfl (by decide) rfl dX5_links_1 ?_
  refine r_ic (pc := 2) (v := nI 0) C rfl dX5_links_2 ?_
  refine r_isn (pc := 3) C [1, 2, 0] [(0, .ref ra), (1, .int (nI 0)), (2, .int (nI 0))] rfl (by decide) rfl dX5_links_3 ?_
  have L4 : ∀ (n4 : Nat) (i : Nat) (hi : i ≤ u.cnt), u.cnt - i < n4 → RW p l e (headSpec wsX5_links rmX5_links).room s m args below meth c (IR s D) 3 0 0 Q [(ra, aI (cT 0) 104 f)] 4 [(0, .ref ra), (1, .int (nI (sumTo (fun c => 1 + pcn (lbs u.wid (u.outs c))) i))), (2, .int (nI i))] [] := by
    intro n4
    induction n4 with
    | zero => intro i hi hn4; exact absurd hn4 (Nat.not_lt_zero _)
    | succ n4 ih4 =>
      intro i hi hn4
      refine r_iln (pc := 4) C 2 rfl dX5_links_4 ?_
      refine r_aln (pc := 5) C 0 rfl dX5_links_5 ?_
      refine r_ic (pc := 6) (v := nI 4) C rfl dX5_links_6 ?_
      refine r_ialI (pc := 7) C 0 rfl (by first | omega | (have := hE i (by omega); omega) | exact lbTo_lt _ _ 16 (by omega)) (by decide) dX5_links_7 ?_
      refine r_v (y := nI u.cnt) hR.1.2.2.2.2.1 ?_
      refine r_cgeN (pc := 8) (tgt := 30) C (by first | omega | (have := hE i (by omega); omega) | exact lbTo_lt _ _ 16 (by omega)) (by first | omega | (have := hE i (by omega); omega) | exact lbTo_lt _ _ 16 (by omega)) dX5_links_8 (by decide) (fun c8 => ?_) (fun c8 => ?_)
      · refine r_iln (pc := 30) C 1 rfl dX5_links_30 ?_
        subst hQ
        exact e_iR C hr hk (congrArg (fun k => nI (sumTo _ k)) (by omega)) dX5_links_31
      · refine r_iln (pc := 11) C 1 rfl dX5_links_11 ?_
        refine r_ic (pc := 12) (v := nI 1) C rfl dX5_links_12 ?_
        refine r_aln (pc := 13) C 0 rfl dX5_links_13 ?_
        refine r_iln (pc := 14) C 2 rfl dX5_links_14 ?_
        refine c_RS (pc := 15) (As := [.ref ra, .int (nI i)]) (wc := [(ra, aI (cT 0) 104 f)])  C (k_X5_boards l D cT ra f i u (by first | assumption | omega) (by first | assumption | omega) (by first | assumption | omega)) (va_cwS 2 C.1.2.2.2.2 gX5_links_X5_boards rfl rfl rfl n_X5_boards ⟨Nat.le_of_ble_eq_true rfl, Nat.le_of_ble_eq_true rfl⟩) [0] rfl rfl rfl (Nat.le_of_ble_eq_true rfl) ⟨Nat.zero_le _, Nat.zero_le _⟩ dX5_links_15 (fun r15 h1 => ?_)
        subst h1
        refine c_RS (pc := 18) (As := [.int (nI (lbs u.wid (u.outs i)))]) (wc := [])  C (k_X5_bits l D cT (lbs u.wid (u.outs i)) (lbTo_lt _ _ 16 (by omega))) (va_cwS 1 C.1.2.2.2.2 gX5_links_X5_bits rfl rfl rfl n_X5_bits ⟨Nat.le_of_ble_eq_true rfl, Nat.le_of_ble_eq_true rfl⟩) [] rfl rfl rfl (Nat.le_of_ble_eq_true rfl) ⟨Nat.zero_le _, Nat.zero_le _⟩ dX5_links_18 (fun r18 h2 => ?_)
        subst h2
        refine r_iaddN (pc := 21) C dX5_links_21 ?_
        refine r_iaddN (pc := 22) C dX5_links_22 ?_
        refine r_isn (pc := 23) C [1, 0, 2] [(0, .ref ra), (1, .int (nI ((sumTo (fun c => 1 + pcn (lbs u.wid (u.outs c))) i) + (1 + (pcn (lbs u.wid (u.outs i))))))), (2, .int (nI i))] rfl (by decide) rfl dX5_links_23 ?_
        refine r_incN (pc := 24) C 2 [1, 2, 0] [(0, .ref ra), (1, .int (nI ((sumTo (fun c => 1 + pcn (lbs u.wid (u.outs c))) i) + (1 + (pcn (lbs u.wid (u.outs i))))))), (2, .int (nI (i + 1)))] rfl (by decide) rfl dX5_links_24 ?_
        refine r_goto (pc := 27) (tgt := 4) C dX5_links_27 (by decide) ?_
        exact ih4 (i + 1) (by omega) (by omega)
  exact L4 _ 0 (Nat.zero_le _) (Nat.lt_succ_self _)

theorem iX5_fits_X5 : ∀ w ∈ u_ws RX5 TX5 14, w ∈ wsX5_fits := by decide +kernel
abbrev rmX5_fits : Room := { frames := 3, cells := 0, slots := 0, locals := 66 }
theorem n_X5_fits : yX5_fits.cls = RX5 ∧ yX5_fits.cls ≠ "java/lang/invoke/MethodHandle" ∧ yX5_fits.cls ≠ "java/lang/invoke/VarHandle" ∧ (parseMethodDescriptor yX5_fits.desc).map (fun d => d.parameters.length) = some 3 := by decide +kernel
set_option maxHeartbeats 4000000 in
set_option maxRecDepth 100000 in
theorem k_X5_fits (l : Launch) (D : va_G) (cT : Nat → ClassId) (mA mref mscr msz mspot mgood mleft mread mnow mtri mdia macts mkept misk qp : Nat) (pl : Nat → Int32) (ra : Nat) (f : Nat → Int32) (ca gone : Nat) (u : SS) (π : Nat → Nat) (hR : RowQ f u) (hB : BDq u) (hca : ca < u.cnt) (hg : gone < 16) (hpl : ∀ d, d ≤ ca → pl d = nI (π d) ∧ π d < 4) : MR l D cT yX5_fits wsX5_fits rmX5_fits [.ref mA, .ref ra, .int (nI ca), .int (nI gone)] [(mA, cMo mref mscr msz mspot mgood mleft mread mnow mtri mdia macts mkept misk qp), (qp, aI (cT 0) 16 pl), (ra, aI (cT 0) 104 f)] (fun r => (r = nI 1 ∧ FTq u gone π ca) ∨ (r = nI 0 ∧ ¬ FTq u gone π ca)) := by
  refine m_R [(0, .ref mA), (1, .ref ra), (2, .int (nI ca)), (3, .int (nI gone))] (by decide +kernel) rfl (Nat.le_of_ble_eq_true rfl) rfl ?_
  intro p e s m args below meth c C hr hk
  generalize hQ : MQ below (vp_Si _) args s 0 0 (fun _ => False) = Q
  obtain ⟨hF, hW, hM, hL, hPa, hBr, hCn, hFL, hE⟩ := id hB
  have hm := (hpl ca (Nat.le_refl _)).2
  refine r_aln (pc := 0) C 0 rfl dX5_fits_0 ?_
  refine r_get (pc := 1) C iX5_fits_X5 0 rfl rfl 13 (by decide) (mw 1 rfl) rfl rfl dX5_fits_1 ?_
  refine r_iln (pc := 4) C 2 rfl dX5_fits_4 ?_
  refine r_ialI (pc := 5) C 1 rfl (by first | omega | (have := (hpl d (by omega)).2; omega)) (by decide) dX5_fits_5 ?_
  refine r_v (y := nI (π ca)) ((hpl ca (Nat.le_refl _)).1) ?_
  refine r_is (pc := 6) C [1, 2, 3, 4, 0] [(0, .ref mA), (1, .ref ra), (2, .int (nI ca)), (3, .int (nI gone)), (4, .int (nI (π ca)))] (by decide) rfl dX5_fits_6 ?_
  refine r_aln (pc := 8) C 1 rfl dX5_fits_8 ?_
  refine r_bi (pc := 9) (v := nI 7) C rfl dX5_fits_9 ?_
  refine r_ialI (pc := 11) C 2 rfl (by first | omega | (have := (hpl d (by omega)).2; omega)) (by decide) dX5_fits_11 ?_
  refine r_v (y := nI u.bro) hR.1.2.2.2.2.2.2.2 ?_
  refine r_il (pc := 12) C 4 rfl dX5_fits_12 ?_
  refine r_ishrN (pc := 14) C (by omega) (by first | omega | (have := (hpl d (by omega)).2; omega)) dX5_fits_14 ?_
  refine r_ic (pc := 15) (v := nI 1) C rfl dX5_fits_15 ?_
  refine r_iandN (pc := 16) C dX5_fits_16 ?_
  refine r_v (y := nI (u.bro.testBit (π ca)).toNat) (congrArg nI (rw_bit _ _)) ?_
  refine r_zneN (pc := 17) (tgt := 33) C bool_lt dX5_fits_17 (by decide) (fun c17 => ?_) (fun c17 => ?_)
  · have c17 := bool_1.mp c17
    refine r_ic (pc := 33) (v := nI 0) C rfl dX5_fits_33 ?_
    refine r_is (pc := 34) C [1, 2, 3, 4, 5, 0] [(0, .ref mA), (1, .ref ra), (2, .int (nI ca)), (3, .int (nI gone)), (4, .int (nI (π ca))), (5, .int (nI 0))] (by decide) rfl dX5_fits_34 ?_
    refine r_ic (pc := 36) (v := nI 0) C rfl dX5_fits_36 ?_
    refine r_is (pc := 37) C [1, 2, 3, 4, 5, 6, 0] [(0, .ref mA), (1, .ref ra), (2, .int (nI ca)), (3, .int (nI gone)), (4, .int (nI (π ca))), (5, .int (nI 0)), (6, .int (nI 0))] (by decide) rfl dX5_fits_37 ?_
    have L39 : ∀ (n39 : Nat) (d : Nat) (iv : Nat) (hd : d ≤ ca) (hiv : iv < 2) (hq : (iv = 1 ∧ (u.bro.testBit (π ca) = false ∧ gone.testBit (π ca) = false) ∧ ∀ e, e < d → π e = π ca → ¬ CLq u ca e) ∨ (iv = 0 ∧ ¬ FTq u gone π ca)), ca - d < n39 → RW p l e (headSpec wsX5_fits rmX5_fits).room s m args below meth c (IR s D) 7 0 0 Q [(mA, cMo mref mscr msz mspot mgood mleft mread mnow mtri mdia macts mkept misk qp), (qp, aI (cT 0) 16 pl), (ra, aI (cT 0) 104 f)] 39 [(0, .ref mA), (1, .ref ra), (2, .int (nI ca)), (3, .int (nI gone)), (4, .int (nI (π ca))), (5, .int (nI iv)), (6, .int (nI d))] [] := by
      intro n39
      induction n39 with
      | zero => intro d iv hd hiv hq hn39; exact absurd hn39 (Nat.not_lt_zero _)
      | succ n39 ih39 =>
        intro d iv hd hiv hq hn39
        refine r_il (pc := 39) C 6 rfl dX5_fits_39 ?_
        refine r_iln (pc := 41) C 2 rfl dX5_fits_41 ?_
        refine r_cgeN (pc := 42) (tgt := 85) C (by first | omega | (have := (hpl d (by omega)).2; omega)) (by first | omega | (have := (hpl d (by omega)).2; omega)) dX5_fits_42 (by decide) (fun c42 => ?_) (fun c42 => ?_)
        · refine r_il (pc := 85) C 5 rfl dX5_fits_85 ?_
          subst hQ
          exact e_zR C hr hk (nar_b (by first | omega | (have := (hpl d (by omega)).2; omega))) (by rcases hq with ⟨e, h1, h2⟩ | ⟨e, h⟩; exact Or.inl ⟨by rw [e], h1, fun j hj => h2 j (by omega)⟩; exact Or.inr ⟨by rw [e], h⟩) dX5_fits_87
        · refine r_il (pc := 45) C 5 rfl dX5_fits_45 ?_
          refine r_zeqN (pc := 47) (tgt := 85) C (by first | omega | (have := (hpl d (by omega)).2; omega)) dX5_fits_47 (by decide) (fun c47 => ?_) (fun c47 => ?_)
          · refine r_il (pc := 85) C 5 rfl dX5_fits_85 ?_
            subst hQ
            exact e_zR C hr hk (nar_b (by first | omega | (have := (hpl d (by omega)).2; omega))) (by rcases hq with ⟨e, h1, h2⟩ | ⟨e, h⟩; exact Or.inl ⟨by rw [e], h1, fun j hj => h2 j (by omega)⟩; exact Or.inr ⟨by rw [e], h⟩) dX5_fits_87
          · obtain ⟨-, hal, hq2⟩ := hq.resolve_right (fun g => absurd g.1 (by omega))
            refine r_aln (pc := 50) C 0 rfl dX5_fits_50 ?_
            refine r_get (pc := 51) C iX5_fits_X5 0 rfl rfl 13 (by decide) (mw 1 rfl) rfl rfl dX5_fits_51 ?_
            refine r_il (pc := 54) C 6 rfl dX5_fits_54 ?_
            refine r_ialI (pc := 56) C 1 rfl (by first | omega | (have := (hpl d (by omega)).2; omega)) (by decide) dX5_fits_56 ?_
            refine r_v (y := nI (π d)) ((hpl d (by omega)).1) ?_
            refine r_il (pc := 57) C 4 rfl dX5_fits_57 ?_
            refine r_cneN (pc := 59) (tgt := 72) C (by first | omega | (have := (hpl d (by omega)).2; omega)) (by first | omega | (have := (hpl d (by omega)).2; omega)) dX5_fits_59 (by decide) (fun c59 => ?_) (fun c59 => ?_)
            · refine r_ic (pc := 72) (v := nI 1) C rfl dX5_fits_72 ?_
              refine r_goto (pc := 73) (tgt := 77) C dX5_fits_73 (by decide) ?_
              refine r_is (pc := 77) C [1, 2, 3, 4, 5, 0, 6] [(0, .ref mA), (1, .ref ra), (2, .int (nI ca)), (3, .int (nI gone)), (4, .int (nI (π ca))), (5, .int (nI 1)), (6, .int (nI d))] (by decide) rfl dX5_fits_77 ?_
              refine r_incN (pc := 79) C 6 [1, 2, 3, 4, 5, 6, 0] [(0, .ref mA), (1, .ref ra), (2, .int (nI ca)), (3, .int (nI gone)), (4, .int (nI (π ca))), (5, .int (nI 1)), (6, .int (nI (d + 1)))] rfl (by decide) rfl dX5_fits_79 ?_
              refine r_goto (pc := 82) (tgt := 39) C dX5_fits_82 (by decide) ?_
              exact ih39 (d + 1) 1 (by omega) (by omega) (Or.inl ⟨rfl, hal, fun e he ee => by rcases Nat.lt_succ_iff_lt_or_eq.mp he with g | g; exact hq2 e g ee; subst g; exact absurd ee c59⟩) (by omega)
            · refine r_aln (pc := 62) C 1 rfl dX5_fits_62 ?_
              refine r_iln (pc := 63) C 2 rfl dX5_fits_63 ?_
              refine r_il (pc := 64) C 6 rfl dX5_fits_64 ?_
              refine c_RS (pc := 66) (As := [.ref ra, .int (nI ca), .int (nI d)]) (wc := [(ra, aI (cT 0) 104 f)])  C (k_X5_clash l D cT ra f ca d u (by first | assumption | omega) (by first | assumption | omega) (by first | assumption | omega) (by first | assumption | omega)) (va_cwS 3 C.1.2.2.2.2 gX5_fits_X5_clash rfl rfl rfl n_X5_clash ⟨Nat.le_of_ble_eq_true rfl, Nat.le_of_ble_eq_true rfl⟩) [2] rfl rfl rfl (Nat.le_of_ble_eq_true rfl) ⟨Nat.zero_le _, Nat.zero_le _⟩ dX5_fits_66 (fun r66 h1 => ?_)
              rcases h1 with ⟨rfl, h1⟩ | ⟨rfl, h1⟩
              · refine r_zneN (pc := 69) (tgt := 76) C (by first | omega | (have := (hpl d (by omega)).2; omega)) dX5_fits_69 (by decide) (fun _ => ?_) (fun h => absurd h (by decide))
                refine r_ic (pc := 76) (v := nI 0) C rfl dX5_fits_76 ?_
                refine r_is (pc := 77) C [1, 2, 3, 4, 5, 0, 6] [(0, .ref mA), (1, .ref ra), (2, .int (nI ca)), (3, .int (nI gone)), (4, .int (nI (π ca))), (5, .int (nI 0)), (6, .int (nI d))] (by decide) rfl dX5_fits_77 ?_
                refine r_incN (pc := 79) C 6 [1, 2, 3, 4, 5, 6, 0] [(0, .ref mA), (1, .ref ra), (2, .int (nI ca)), (3, .int (nI gone)), (4, .int (nI (π ca))), (5, .int (nI 0)), (6, .int (nI (d + 1)))] rfl (by decide) rfl dX5_fits_79 ?_
                refine r_goto (pc := 82) (tgt := 39) C dX5_fits_82 (by decide) ?_
                exact ih39 (d + 1) 0 (by omega) (by omega) (Or.inr ⟨rfl, fun g => g.2 d (by omega) c59 h1⟩) (by omega)
              · refine r_zneN (pc := 69) (tgt := 76) C (by first | omega | (have := (hpl d (by omega)).2; omega)) dX5_fits_69 (by decide) (fun h => absurd h (by decide)) (fun _ => ?_)
                refine r_ic (pc := 72) (v := nI 1) C rfl dX5_fits_72 ?_
                refine r_goto (pc := 73) (tgt := 77) C dX5_fits_73 (by decide) ?_
                refine r_is (pc := 77) C [1, 2, 3, 4, 5, 0, 6] [(0, .ref mA), (1, .ref ra), (2, .int (nI ca)), (3, .int (nI gone)), (4, .int (nI (π ca))), (5, .int (nI 1)), (6, .int (nI d))] (by decide) rfl dX5_fits_77 ?_
                refine r_incN (pc := 79) C 6 [1, 2, 3, 4, 5, 6, 0] [(0, .ref mA), (1, .ref ra), (2, .int (nI ca)), (3, .int (nI gone)), (4, .int (nI (π ca))), (5, .int (nI 1)), (6, .int (nI (d + 1)))] rfl (by decide) rfl dX5_fits_79 ?_
                refine r_goto (pc := 82) (tgt := 39) C dX5_fits_82 (by decide) ?_
                exact ih39 (d + 1) 1 (by omega) (by omega) (Or.inl ⟨rfl, hal, fun e he ee => by rcases Nat.lt_succ_iff_lt_or_eq.mp he with g | g; exact hq2 e g ee; subst g; exact h1⟩) (by omega)
    exact L39 _ 0 0 (Nat.zero_le _) (by omega) (Or.inr ⟨rfl, fun g => by have := g.1.1; rw [c17] at this; cases this⟩) (Nat.lt_succ_self _)
  · have c17 := bool_0.mp c17
    refine r_iln (pc := 20) C 3 rfl dX5_fits_20 ?_
    refine r_il (pc := 21) C 4 rfl dX5_fits_21 ?_
    refine r_ishrN (pc := 23) C (by omega) (by first | omega | (have := (hpl d (by omega)).2; omega)) dX5_fits_23 ?_
    refine r_ic (pc := 24) (v := nI 1) C rfl dX5_fits_24 ?_
    refine r_iandN (pc := 25) C dX5_fits_25 ?_
    refine r_v (y := nI (gone.testBit (π ca)).toNat) (congrArg nI (rw_bit _ _)) ?_
    refine r_zneN (pc := 26) (tgt := 33) C bool_lt dX5_fits_26 (by decide) (fun c26 => ?_) (fun c26 => ?_)
    · have c26 := bool_1.mp c26
      refine r_ic (pc := 33) (v := nI 0) C rfl dX5_fits_33 ?_
      refine r_is (pc := 34) C [1, 2, 3, 4, 5, 0] [(0, .ref mA), (1, .ref ra), (2, .int (nI ca)), (3, .int (nI gone)), (4, .int (nI (π ca))), (5, .int (nI 0))] (by decide) rfl dX5_fits_34 ?_
      refine r_ic (pc := 36) (v := nI 0) C rfl dX5_fits_36 ?_
      refine r_is (pc := 37) C [1, 2, 3, 4, 5, 6, 0] [(0, .ref mA), (1, .ref ra), (2, .int (nI ca)), (3, .int (nI gone)), (4, .int (nI (π ca))), (5, .int (nI 0)), (6, .int (nI 0))] (by decide) rfl dX5_fits_37 ?_
      have L39 : ∀ (n39 : Nat) (d : Nat) (iv : Nat) (hd : d ≤ ca) (hiv : iv < 2) (hq : (iv = 1 ∧ (u.bro.testBit (π ca) = false ∧ gone.testBit (π ca) = false) ∧ ∀ e, e < d → π e = π ca → ¬ CLq u ca e) ∨ (iv = 0 ∧ ¬ FTq u gone π ca)), ca - d < n39 → RW p l e (headSpec wsX5_fits rmX5_fits).room s m args below meth c (IR s D) 7 0 0 Q [(mA, cMo mref mscr msz mspot mgood mleft mread mnow mtri mdia macts mkept misk qp), (qp, aI (cT 0) 16 pl), (ra, aI (cT 0) 104 f)] 39 [(0, .ref mA), (1, .ref ra), (2, .int (nI ca)), (3, .int (nI gone)), (4, .int (nI (π ca))), (5, .int (nI iv)), (6, .int (nI d))] [] := by
        intro n39
        induction n39 with
        | zero => intro d iv hd hiv hq hn39; exact absurd hn39 (Nat.not_lt_zero _)
        | succ n39 ih39 =>
          intro d iv hd hiv hq hn39
          refine r_il (pc := 39) C 6 rfl dX5_fits_39 ?_
          refine r_iln (pc := 41) C 2 rfl dX5_fits_41 ?_
          refine r_cgeN (pc := 42) (tgt := 85) C (by first | omega | (have := (hpl d (by omega)).2; omega)) (by first | omega | (have := (hpl d (by omega)).2; omega)) dX5_fits_42 (by decide) (fun c42 => ?_) (fun c42 => ?_)
          · refine r_il (pc := 85) C 5 rfl dX5_fits_85 ?_
            subst hQ
            exact e_zR C hr hk (nar_b (by first | omega | (have := (hpl d (by omega)).2; omega))) (by rcases hq with ⟨e, h1, h2⟩ | ⟨e, h⟩; exact Or.inl ⟨by rw [e], h1, fun j hj => h2 j (by omega)⟩; exact Or.inr ⟨by rw [e], h⟩) dX5_fits_87
          · refine r_il (pc := 45) C 5 rfl dX5_fits_45 ?_
            refine r_zeqN (pc := 47) (tgt := 85) C (by first | omega | (have := (hpl d (by omega)).2; omega)) dX5_fits_47 (by decide) (fun c47 => ?_) (fun c47 => ?_)
            · refine r_il (pc := 85) C 5 rfl dX5_fits_85 ?_
              subst hQ
              exact e_zR C hr hk (nar_b (by first | omega | (have := (hpl d (by omega)).2; omega))) (by rcases hq with ⟨e, h1, h2⟩ | ⟨e, h⟩; exact Or.inl ⟨by rw [e], h1, fun j hj => h2 j (by omega)⟩; exact Or.inr ⟨by rw [e], h⟩) dX5_fits_87
            · obtain ⟨-, hal, hq2⟩ := hq.resolve_right (fun g => absurd g.1 (by omega))
              refine r_aln (pc := 50) C 0 rfl dX5_fits_50 ?_
              refine r_get (pc := 51) C iX5_fits_X5 0 rfl rfl 13 (by decide) (mw 1 rfl) rfl rfl dX5_fits_51 ?_
              refine r_il (pc := 54) C 6 rfl dX5_fits_54 ?_
              refine r_ialI (pc := 56) C 1 rfl (by first | omega | (have := (hpl d (by omega)).2; omega)) (by decide) dX5_fits_56 ?_
              refine r_v (y := nI (π d)) ((hpl d (by omega)).1) ?_
              refine r_il (pc := 57) C 4 rfl dX5_fits_57 ?_
              refine r_cneN (pc := 59) (tgt := 72) C (by first | omega | (have := (hpl d (by omega)).2; omega)) (by first | omega | (have := (hpl d (by omega)).2; omega)) dX5_fits_59 (by decide) (fun c59 => ?_) (fun c59 => ?_)
              · refine r_ic (pc := 72) (v := nI 1) C rfl dX5_fits_72 ?_
                refine r_goto (pc := 73) (tgt := 77) C dX5_fits_73 (by decide) ?_
                refine r_is (pc := 77) C [1, 2, 3, 4, 5, 0, 6] [(0, .ref mA), (1, .ref ra), (2, .int (nI ca)), (3, .int (nI gone)), (4, .int (nI (π ca))), (5, .int (nI 1)), (6, .int (nI d))] (by decide) rfl dX5_fits_77 ?_
                refine r_incN (pc := 79) C 6 [1, 2, 3, 4, 5, 6, 0] [(0, .ref mA), (1, .ref ra), (2, .int (nI ca)), (3, .int (nI gone)), (4, .int (nI (π ca))), (5, .int (nI 1)), (6, .int (nI (d + 1)))] rfl (by decide) rfl dX5_fits_79 ?_
                refine r_goto (pc := 82) (tgt := 39) C dX5_fits_82 (by decide) ?_
                exact ih39 (d + 1) 1 (by omega) (by omega) (Or.inl ⟨rfl, hal, fun e he ee => by rcases Nat.lt_succ_iff_lt_or_eq.mp he with g | g; exact hq2 e g ee; subst g; exact absurd ee c59⟩) (by omega)
              · refine r_aln (pc := 62) C 1 rfl dX5_fits_62 ?_
                refine r_iln (pc := 63) C 2 rfl dX5_fits_63 ?_
                refine r_il (pc := 64) C 6 rfl dX5_fits_64 ?_
                refine c_RS (pc := 66) (As := [.ref ra, .int (nI ca), .int (nI d)]) (wc := [(ra, aI (cT 0) 104 f)])  C (k_X5_clash l D cT ra f ca d u (by first | assumption | omega) (by first | assumption | omega) (by first | assumption | omega) (by first | assumption | omega)) (va_cwS 3 C.1.2.2.2.2 gX5_fits_X5_clash rfl rfl rfl n_X5_clash ⟨Nat.le_of_ble_eq_true rfl, Nat.le_of_ble_eq_true rfl⟩) [2] rfl rfl rfl (Nat.le_of_ble_eq_true rfl) ⟨Nat.zero_le _, Nat.zero_le _⟩ dX5_fits_66 (fun r66 h2 => ?_)
                rcases h2 with ⟨rfl, h2⟩ | ⟨rfl, h2⟩
                · refine r_zneN (pc := 69) (tgt := 76) C (by first | omega | (have := (hpl d (by omega)).2; omega)) dX5_fits_69 (by decide) (fun _ => ?_) (fun h => absurd h (by decide))
                  refine r_ic (pc := 76) (v := nI 0) C rfl dX5_fits_76 ?_
                  refine r_is (pc := 77) C [1, 2, 3, 4, 5, 0, 6] [(0, .ref mA), (1, .ref ra), (2, .int (nI ca)), (3, .int (nI gone)), (4, .int (nI (π ca))), (5, .int (nI 0)), (6, .int (nI d))] (by decide) rfl dX5_fits_77 ?_
                  refine r_incN (pc := 79) C 6 [1, 2, 3, 4, 5, 6, 0] [(0, .ref mA), (1, .ref ra), (2, .int (nI ca)), (3, .int (nI gone)), (4, .int (nI (π ca))), (5, .int (nI 0)), (6, .int (nI (d + 1)))] rfl (by decide) rfl dX5_fits_79 ?_
                  refine r_goto (pc := 82) (tgt := 39) C dX5_fits_82 (by decide) ?_
                  exact ih39 (d + 1) 0 (by omega) (by omega) (Or.inr ⟨rfl, fun g => g.2 d (by omega) c59 h2⟩) (by omega)
                · refine r_zneN (pc := 69) (tgt := 76) C (by first | omega | (have := (hpl d (by omega)).2; omega)) dX5_fits_69 (by decide) (fun h => absurd h (by decide)) (fun _ => ?_)
                  refine r_ic (pc := 72) (v := nI 1) C rfl dX5_fits_72 ?_
                  refine r_goto (pc := 73) (tgt := 77) C dX5_fits_73 (by decide) ?_
                  refine r_is (pc := 77) C [1, 2, 3, 4, 5, 0, 6] [(0, .ref mA), (1, .ref ra), (2, .int (nI ca)), (3, .int (nI gone)), (4, .int (nI (π ca))), (5, .int (nI 1)), (6, .int (nI d))] (by decide) rfl dX5_fits_77 ?_
                  refine r_incN (pc := 79) C 6 [1, 2, 3, 4, 5, 6, 0] [(0, .ref mA), (1, .ref ra), (2, .int (nI ca)), (3, .int (nI gone)), (4, .int (nI (π ca))), (5, .int (nI 1)), (6, .int (nI (d + 1)))] rfl (by decide) rfl dX5_fits_79 ?_
                  refine r_goto (pc := 82) (tgt := 39) C dX5_fits_82 (by decide) ?_
                  exact ih39 (d + 1) 1 (by omega) (by omega) (Or.inl ⟨rfl, hal, fun e he ee => by rcases Nat.lt_succ_iff_lt_or_eq.mp he with g | g; exact hq2 e g ee; subst g; exact h2⟩) (by omega)
      exact L39 _ 0 0 (Nat.zero_le _) (by omega) (Or.inr ⟨rfl, fun g => by have := g.1.2; rw [c26] at this; cases this⟩) (Nat.lt_succ_self _)
    · have c26 := bool_0.mp c26
      refine r_ic (pc := 29) (v := nI 1) C rfl dX5_fits_29 ?_
      refine r_goto (pc := 30) (tgt := 34) C dX5_fits_30 (by decide) ?_
      refine r_is (pc := 34) C [1, 2, 3, 4, 5, 0] [(0, .ref mA), (1, .ref ra), (2, .int (nI ca)), (3, .int (nI gone)), (4, .int (nI (π ca))), (5, .int (nI 1))] (by decide) rfl dX5_fits_34 ?_
      refine r_ic (pc := 36) (v := nI 0) C rfl dX5_fits_36 ?_
      refine r_is (pc := 37) C [1, 2, 3, 4, 5, 6, 0] [(0, .ref mA), (1, .ref ra), (2, .int (nI ca)), (3, .int (nI gone)), (4, .int (nI (π ca))), (5, .int (nI 1)), (6, .int (nI 0))] (by decide) rfl dX5_fits_37 ?_
      have L39 : ∀ (n39 : Nat) (d : Nat) (iv : Nat) (hd : d ≤ ca) (hiv : iv < 2) (hq : (iv = 1 ∧ (u.bro.testBit (π ca) = false ∧ gone.testBit (π ca) = false) ∧ ∀ e, e < d → π e = π ca → ¬ CLq u ca e) ∨ (iv = 0 ∧ ¬ FTq u gone π ca)), ca - d < n39 → RW p l e (headSpec wsX5_fits rmX5_fits).room s m args below meth c (IR s D) 7 0 0 Q [(mA, cMo mref mscr msz mspot mgood mleft mread mnow mtri mdia macts mkept misk qp), (qp, aI (cT 0) 16 pl), (ra, aI (cT 0) 104 f)] 39 [(0, .ref mA), (1, .ref ra), (2, .int (nI ca)), (3, .int (nI gone)), (4, .int (nI (π ca))), (5, .int (nI iv)), (6, .int (nI d))] [] := by
        intro n39
        induction n39 with
        | zero => intro d iv hd hiv hq hn39; exact absurd hn39 (Nat.not_lt_zero _)
        | succ n39 ih39 =>
          intro d iv hd hiv hq hn39
          refine r_il (pc := 39) C 6 rfl dX5_fits_39 ?_
          refine r_iln (pc := 41) C 2 rfl dX5_fits_41 ?_
          refine r_cgeN (pc := 42) (tgt := 85) C (by first | omega | (have := (hpl d (by omega)).2; omega)) (by first | omega | (have := (hpl d (by omega)).2; omega)) dX5_fits_42 (by decide) (fun c42 => ?_) (fun c42 => ?_)
          · refine r_il (pc := 85) C 5 rfl dX5_fits_85 ?_
            subst hQ
            exact e_zR C hr hk (nar_b (by first | omega | (have := (hpl d (by omega)).2; omega))) (by rcases hq with ⟨e, h1, h2⟩ | ⟨e, h⟩; exact Or.inl ⟨by rw [e], h1, fun j hj => h2 j (by omega)⟩; exact Or.inr ⟨by rw [e], h⟩) dX5_fits_87
          · refine r_il (pc := 45) C 5 rfl dX5_fits_45 ?_
            refine r_zeqN (pc := 47) (tgt := 85) C (by first | omega | (have := (hpl d (by omega)).2; omega)) dX5_fits_47 (by decide) (fun c47 => ?_) (fun c47 => ?_)
            · refine r_il (pc := 85) C 5 rfl dX5_fits_85 ?_
              subst hQ
              exact e_zR C hr hk (nar_b (by first | omega | (have := (hpl d (by omega)).2; omega))) (by rcases hq with ⟨e, h1, h2⟩ | ⟨e, h⟩; exact Or.inl ⟨by rw [e], h1, fun j hj => h2 j (by omega)⟩; exact Or.inr ⟨by rw [e], h⟩) dX5_fits_87
            · obtain ⟨-, hal, hq2⟩ := hq.resolve_right (fun g => absurd g.1 (by omega))
              refine r_aln (pc := 50) C 0 rfl dX5_fits_50 ?_
              refine r_get (pc := 51) C iX5_fits_X5 0 rfl rfl 13 (by decide) (mw 1 rfl) rfl rfl dX5_fits_51 ?_
              refine r_il (pc := 54) C 6 rfl dX5_fits_54 ?_
              refine r_ialI (pc := 56) C 1 rfl (by first | omega | (have := (hpl d (by omega)).2; omega)) (by decide) dX5_fits_56 ?_
              refine r_v (y := nI (π d)) ((hpl d (by omega)).1) ?_
              refine r_il (pc := 57) C 4 rfl dX5_fits_57 ?_
              refine r_cneN (pc := 59) (tgt := 72) C (by first | omega | (have := (hpl d (by omega)).2; omega)) (by first | omega | (have := (hpl d (by omega)).2; omega)) dX5_fits_59 (by decide) (fun c59 => ?_) (fun c59 => ?_)
              · refine r_ic (pc := 72) (v := nI 1) C rfl dX5_fits_72 ?_
                refine r_goto (pc := 73) (tgt := 77) C dX5_fits_73 (by decide) ?_
                refine r_is (pc := 77) C [1, 2, 3, 4, 5, 0, 6] [(0, .ref mA), (1, .ref ra), (2, .int (nI ca)), (3, .int (nI gone)), (4, .int (nI (π ca))), (5, .int (nI 1)), (6, .int (nI d))] (by decide) rfl dX5_fits_77 ?_
                refine r_incN (pc := 79) C 6 [1, 2, 3, 4, 5, 6, 0] [(0, .ref mA), (1, .ref ra), (2, .int (nI ca)), (3, .int (nI gone)), (4, .int (nI (π ca))), (5, .int (nI 1)), (6, .int (nI (d + 1)))] rfl (by decide) rfl dX5_fits_79 ?_
                refine r_goto (pc := 82) (tgt := 39) C dX5_fits_82 (by decide) ?_
                exact ih39 (d + 1) 1 (by omega) (by omega) (Or.inl ⟨rfl, hal, fun e he ee => by rcases Nat.lt_succ_iff_lt_or_eq.mp he with g | g; exact hq2 e g ee; subst g; exact absurd ee c59⟩) (by omega)
              · refine r_aln (pc := 62) C 1 rfl dX5_fits_62 ?_
                refine r_iln (pc := 63) C 2 rfl dX5_fits_63 ?_
                refine r_il (pc := 64) C 6 rfl dX5_fits_64 ?_
                refine c_RS (pc := 66) (As := [.ref ra, .int (nI ca), .int (nI d)]) (wc := [(ra, aI (cT 0) 104 f)])  C (k_X5_clash l D cT ra f ca d u (by first | assumption | omega) (by first | assumption | omega) (by first | assumption | omega) (by first | assumption | omega)) (va_cwS 3 C.1.2.2.2.2 gX5_fits_X5_clash rfl rfl rfl n_X5_clash ⟨Nat.le_of_ble_eq_true rfl, Nat.le_of_ble_eq_true rfl⟩) [2] rfl rfl rfl (Nat.le_of_ble_eq_true rfl) ⟨Nat.zero_le _, Nat.zero_le _⟩ dX5_fits_66 (fun r66 h3 => ?_)
                rcases h3 with ⟨rfl, h3⟩ | ⟨rfl, h3⟩
                · refine r_zneN (pc := 69) (tgt := 76) C (by first | omega | (have := (hpl d (by omega)).2; omega)) dX5_fits_69 (by decide) (fun _ => ?_) (fun h => absurd h (by decide))
                  refine r_ic (pc := 76) (v := nI 0) C rfl dX5_fits_76 ?_
                  refine r_is (pc := 77) C [1, 2, 3, 4, 5, 0, 6] [(0, .ref mA), (1, .ref ra), (2, .int (nI ca)), (3, .int (nI gone)), (4, .int (nI (π ca))), (5, .int (nI 0)), (6, .int (nI d))] (by decide) rfl dX5_fits_77 ?_
                  refine r_incN (pc := 79) C 6 [1, 2, 3, 4, 5, 6, 0] [(0, .ref mA), (1, .ref ra), (2, .int (nI ca)), (3, .int (nI gone)), (4, .int (nI (π ca))), (5, .int (nI 0)), (6, .int (nI (d + 1)))] rfl (by decide) rfl dX5_fits_79 ?_
                  refine r_goto (pc := 82) (tgt := 39) C dX5_fits_82 (by decide) ?_
                  exact ih39 (d + 1) 0 (by omega) (by omega) (Or.inr ⟨rfl, fun g => g.2 d (by omega) c59 h3⟩) (by omega)
                · refine r_zneN (pc := 69) (tgt := 76) C (by first | omega | (have := (hpl d (by omega)).2; omega)) dX5_fits_69 (by decide) (fun h => absurd h (by decide)) (fun _ => ?_)
                  refine r_ic (pc := 72) (v := nI 1) C rfl dX5_fits_72 ?_
                  refine r_goto (pc := 73) (tgt := 77) C dX5_fits_73 (by decide) ?_
                  refine r_is (pc := 77) C [1, 2, 3, 4, 5, 0, 6] [(0, .ref mA), (1, .ref ra), (2, .int (nI ca)), (3, .int (nI gone)), (4, .int (nI (π ca))), (5, .int (nI 1)), (6, .int (nI d))] (by decide) rfl dX5_fits_77 ?_
                  refine r_incN (pc := 79) C 6 [1, 2, 3, 4, 5, 6, 0] [(0, .ref mA), (1, .ref ra), (2, .int (nI ca)), (3, .int (nI gone)), (4, .int (nI (π ca))), (5, .int (nI 1)), (6, .int (nI (d + 1)))] rfl (by decide) rfl dX5_fits_79 ?_
                  refine r_goto (pc := 82) (tgt := 39) C dX5_fits_82 (by decide) ?_
                  exact ih39 (d + 1) 1 (by omega) (by omega) (Or.inl ⟨rfl, hal, fun e he ee => by rcases Nat.lt_succ_iff_lt_or_eq.mp he with g | g; exact hq2 e g ee; subst g; exact h3⟩) (by omega)
      exact L39 _ 0 1 (Nat.zero_le _) (by omega) (Or.inl ⟨rfl, ⟨c17, c26⟩, fun e he => absurd he (Nat.not_lt_zero _)⟩) (Nat.lt_succ_self _)

theorem iX5_goesOver_X5 : ∀ w ∈ u_ws RX5 TX5 14, w ∈ wsX5_goesOver := by decide +kernel
abbrev rmX5_goesOver : Room := { frames := 1, cells := 0, slots := 0, locals := 21 }
theorem n_X5_goesOver : yX5_goesOver.cls = RX5 ∧ yX5_goesOver.cls ≠ "java/lang/invoke/MethodHandle" ∧ yX5_goesOver.cls ≠ "java/lang/invoke/VarHandle" ∧ (parseMethodDescriptor yX5_goesOver.desc).map (fun d => d.parameters.length) = some 2 := by decide +kernel
set_option maxHeartbeats 4000000 in
set_option maxRecDepth 100000 in
theorem k_X5_goesOver (l : Launch) (D : va_G) (cT : Nat → ClassId) (mA mref mscr msz mspot mgood mleft mread mnow mtri mdia macts mkept misk qp : Nat) (pl : Nat → Int32) (ra : Nat) (f : Nat → Int32) (ca : Nat) (u : SS) (hR : RowQ f u) (hB : BDq u) (hca : ca < u.cnt) : MR l D cT yX5_goesOver wsX5_goesOver rmX5_goesOver [.ref mA, .ref ra, .int (nI ca)] [(mA, cMo mref mscr msz mspot mgood mleft mread mnow mtri mdia macts mkept misk qp), (qp, aI (cT 0) 16 pl), (ra, aI (cT 0) 104 f)] (fun r => (r = nI 1 ∧ ¬ (nI (u.brd ca) = -1 ∨ nI (u.brd ca) = pl ca)) ∨ (r = nI 0 ∧ (nI (u.brd ca) = -1 ∨ nI (u.brd ca) = pl ca))) := by
  refine m_R [(0, .ref mA), (1, .ref ra), (2, .int (nI ca))] (by decide +kernel) rfl (Nat.le_of_ble_eq_true rfl) rfl ?_
  intro p e s m args below meth c C hr hk
  generalize hQ : MQ below (vp_Si _) args s 0 0 (fun _ => False) = Q
  obtain ⟨hF, hW, hM, hL, hPa, hBr, hCn, hFL, hE⟩ := id hB
  refine r_aln (pc := 0) C 1 rfl dX5_goesOver_0 ?_
  refine r_iln (pc := 1) C 2 rfl dX5_goesOver_1 ?_
  refine r_ic (pc := 2) (v := nI 2) C rfl dX5_goesOver_2 ?_
  refine c_RS (pc := 3) (As := [.int (nI ca), .int (nI 2)]) (wc := [])  C (k_X5_callAt l D cT ca 2) (va_cwS 2 C.1.2.2.2.2 gX5_goesOver_X5_callAt rfl rfl rfl n_X5_callAt ⟨Nat.le_of_ble_eq_true rfl, Nat.le_of_ble_eq_true rfl⟩) [] rfl rfl rfl (Nat.le_of_ble_eq_true rfl) ⟨Nat.zero_le _, Nat.zero_le _⟩ dX5_goesOver_3 (fun r3 h1 => ?_)
  subst h1
  refine r_ialI (pc := 6) C 2 rfl (by omega) (by decide) dX5_goesOver_6 ?_
  refine r_v (y := nI (u.brd ca)) ((hR.2.1 ca (by omega)).2.2.1) ?_
  refine r_ic (pc := 7) (v := (-1)) C rfl dX5_goesOver_7 ?_
  refine r_ceq (pc := 8) (tgt := 31) C dX5_goesOver_8 (by decide) (fun c8 => ?_) (fun c8 => ?_)
  · refine r_ic (pc := 31) (v := nI 0) C rfl dX5_goesOver_31 ?_
    subst hQ
    exact e_zR C hr hk rfl (Or.inr ⟨rfl, Or.inl c8⟩) dX5_goesOver_32
  · refine r_aln (pc := 11) C 1 rfl dX5_goesOver_11 ?_
    refine r_iln (pc := 12) C 2 rfl dX5_goesOver_12 ?_
    refine r_ic (pc := 13) (v := nI 2) C rfl dX5_goesOver_13 ?_
    refine c_RS (pc := 14) (As := [.int (nI ca), .int (nI 2)]) (wc := [])  C (k_X5_callAt l D cT ca 2) (va_cwS 2 C.1.2.2.2.2 gX5_goesOver_X5_callAt rfl rfl rfl n_X5_callAt ⟨Nat.le_of_ble_eq_true rfl, Nat.le_of_ble_eq_true rfl⟩) [] rfl rfl rfl (Nat.le_of_ble_eq_true rfl) ⟨Nat.zero_le _, Nat.zero_le _⟩ dX5_goesOver_14 (fun r14 h2 => ?_)
    subst h2
    refine r_ialI (pc := 17) C 2 rfl (by omega) (by decide) dX5_goesOver_17 ?_
    refine r_v (y := nI (u.brd ca)) ((hR.2.1 ca (by omega)).2.2.1) ?_
    refine r_aln (pc := 18) C 0 rfl dX5_goesOver_18 ?_
    refine r_get (pc := 19) C iX5_goesOver_X5 0 rfl rfl 13 (by decide) (mw 1 rfl) rfl rfl dX5_goesOver_19 ?_
    refine r_iln (pc := 22) C 2 rfl dX5_goesOver_22 ?_
    refine r_ialI (pc := 23) C 1 rfl (by omega) (by decide) dX5_goesOver_23 ?_
    refine r_ceq (pc := 24) (tgt := 31) C dX5_goesOver_24 (by decide) (fun c24 => ?_) (fun c24 => ?_)
    · refine r_ic (pc := 31) (v := nI 0) C rfl dX5_goesOver_31 ?_
      subst hQ
      exact e_zR C hr hk rfl (Or.inr ⟨rfl, Or.inr c24⟩) dX5_goesOver_32
    · refine r_ic (pc := 27) (v := nI 1) C rfl dX5_goesOver_27 ?_
      refine r_goto (pc := 28) (tgt := 32) C dX5_goesOver_28 (by decide) ?_
      subst hQ
      exact e_zR C hr hk rfl (Or.inl ⟨rfl, fun g => g.elim c8 c24⟩) dX5_goesOver_32

theorem iX5_hasPlan_X5 : ∀ w ∈ u_ws RX5 TX5 14, w ∈ wsX5_hasPlan := by decide +kernel
abbrev rmX5_hasPlan : Room := { frames := 4, cells := 0, slots := 0, locals := 92 }
theorem n_X5_hasPlan : yX5_hasPlan.cls = RX5 ∧ yX5_hasPlan.cls ≠ "java/lang/invoke/MethodHandle" ∧ yX5_hasPlan.cls ≠ "java/lang/invoke/VarHandle" ∧ (parseMethodDescriptor yX5_hasPlan.desc).map (fun d => d.parameters.length) = some 3 := by decide +kernel
set_option maxHeartbeats 4000000 in
set_option maxRecDepth 100000 in
theorem k_X5_hasPlan (l : Launch) (D : va_G) (cT : Nat → ClassId) (mA mref mscr msz mspot mgood mleft mread mnow mtri mdia macts mkept misk qp : Nat) (pl : Nat → Int32) (ra : Nat) (f : Nat → Int32) (gone most : Nat) (u : SS) (hR : RowQ f u) (hB : BDq u) (hg : gone < 16) (hmo : most ≤ 16) : MWi (S := (Nat → Int32)) l D cT yX5_hasPlan wsX5_hasPlan rmX5_hasPlan [.ref mA, .ref ra, .int (nI gone), .int (nI most)] [(mA, cMo mref mscr msz mspot mgood mleft mread mnow mtri mdia macts mkept misk qp), (qp, aI (cT 0) 16 pl), (ra, aI (cT 0) 104 f)] (fun r w9 => HPP u gone most r w9) (fun w9 => [(mA, cMo mref mscr msz mspot mgood mleft mread mnow mtri mdia macts mkept misk qp), (qp, aI (cT 0) 16 w9), (ra, aI (cT 0) 104 f)]) 0 0 := by
  refine m_Wi [(0, .ref mA), (1, .ref ra), (2, .int (nI gone)), (3, .int (nI most))] (by decide +kernel) rfl (Nat.le_of_ble_eq_true rfl) rfl ?_
  intro p e s m args below meth c A hAe C hA hr hk hnm_
  generalize hQ : MQ below (va_Qi _ _ A) args s 0 0 A = Q
  obtain ⟨hF, hW, hM, hL, hPa, hBr, hCn, hFL, hE⟩ := id hB
  refine r_ic (pc := 0) (v := nI 0) C rfl dX5_hasPlan_0 ?_
  refine r_is (pc := 1) C [1, 2, 3, 4, 0] [(0, .ref mA), (1, .ref ra), (2, .int (nI gone)), (3, .int (nI most)), (4, .int (nI 0))] (by decide) rfl dX5_hasPlan_1 ?_
  refine r_ic (pc := 3) (v := nI 0) C rfl dX5_hasPlan_3 ?_
  refine r_is (pc := 4) C [1, 2, 3, 4, 5, 0] [(0, .ref mA), (1, .ref ra), (2, .int (nI gone)), (3, .int (nI most)), (4, .int (nI 0)), (5, .int (nI 0))] (by decide) rfl dX5_hasPlan_4 ?_
  refine r_ic (pc := 6) (v := nI 0) C rfl dX5_hasPlan_6 ?_
  refine r_is (pc := 7) C [1, 2, 3, 4, 5, 6, 0] [(0, .ref mA), (1, .ref ra), (2, .int (nI gone)), (3, .int (nI most)), (4, .int (nI 0)), (5, .int (nI 0)), (6, .int (nI 0))] (by decide) rfl dX5_hasPlan_7 ?_
  have L9 : ∀ (n9 : Nat) (k : Nat) (pl1 : Nat → Int32) (hkk : k ≤ 16) (hq1 : ∀ d, d < k → pl1 d = -1), 16 - k < n9 → RW p l e (headSpec wsX5_hasPlan rmX5_hasPlan).room s m args below meth c (IW s D A) 7 0 0 Q [(mA, cMo mref mscr msz mspot mgood mleft mread mnow mtri mdia macts mkept misk qp), (qp, aI (cT 0) 16 pl1), (ra, aI (cT 0) 104 f)] 9 [(0, .ref mA), (1, .ref ra), (2, .int (nI gone)), (3, .int (nI most)), (4, .int (nI 0)), (5, .int (nI 0)), (6, .int (nI k))] [] := by
    intro n9
    induction n9 with
    | zero => intro k pl1 hkk hq1 hn9; exact absurd hn9 (Nat.not_lt_zero _)
    | succ n9 ih9 =>
      intro k pl1 hkk hq1 hn9
      refine r_il (pc := 9) C 6 rfl dX5_hasPlan_9 ?_
      refine r_bi (pc := 11) (v := nI 16) C rfl dX5_hasPlan_11 ?_
      refine r_cgeN (pc := 13) (tgt := 30) C (by first | omega | (have := hA.1; have := hA.2.1; omega) | (have := hA.2.2.2.2.2.2.2.1; have := mv_le (bfm u ca) q; omega)) (by first | omega | (have := hA.1; have := hA.2.1; omega) | (have := hA.2.2.2.2.2.2.2.1; have := mv_le (bfm u ca) q; omega)) dX5_hasPlan_13 (by decide) (fun c13 => ?_) (fun c13 => ?_)
      · have L30 : ∀ (n30 : Nat) (cI : Int32) (pl2 : Nat → Int32) (mo : Nat) (R : Nat) (hq : HPI u gone most cI pl2 mo R), R < n30 → RW p l e (headSpec wsX5_hasPlan rmX5_hasPlan).room s m args below meth c (IW s D A) 7 0 0 Q [(mA, cMo mref mscr msz mspot mgood mleft mread mnow mtri mdia macts mkept misk qp), (qp, aI (cT 0) 16 pl2), (ra, aI (cT 0) 104 f)] 30 [(0, .ref mA), (1, .ref ra), (2, .int (nI gone)), (3, .int (nI most)), (4, .int cI), (5, .int (nI mo))] [] := by
          intro n30
          induction n30 with
          | zero => intro cI pl2 mo R hq hn30; exact absurd hn30 (Nat.not_lt_zero _)
          | succ n30 ih30 =>
            intro cI pl2 mo R hq hn30
            refine r_il (pc := 30) C 4 rfl dX5_hasPlan_30 ?_
            refine r_zlt (pc := 32) (tgt := 155) C dX5_hasPlan_32 (by decide) (fun c32 => ?_) (fun c32 => ?_)
            · refine r_il (pc := 155) C 4 rfl dX5_hasPlan_155 ?_
              refine r_zlt (pc := 157) (tgt := 164) C dX5_hasPlan_157 (by decide) (fun c157 => ?_) (fun c157 => absurd c157 (by exact fun h => h c32))
              refine r_ic (pc := 164) (v := nI 0) C rfl dX5_hasPlan_164 ?_
              subst hQ
              exact e_zW C hr hk rfl (Nat.le_refl _) (Nat.le_refl _) pl2 rfl (Or.inr ⟨rfl, hpi_neg hCn hq c32⟩) dX5_hasPlan_165
            · obtain ⟨ca, hcr, rfl⟩ := nI_of c32
              obtain ⟨q, π, hA⟩ := hpi_pos hCn hcr hq
              refine r_il (pc := 35) C 4 rfl dX5_hasPlan_35 ?_
              refine r_aln (pc := 37) C 1 rfl dX5_hasPlan_37 ?_
              refine r_ic (pc := 38) (v := nI 4) C rfl dX5_hasPlan_38 ?_
              refine r_ialI (pc := 39) C 2 rfl (by first | omega | (have := hA.1; have := hA.2.1; omega) | (have := hA.2.2.2.2.2.2.2.1; have := mv_le (bfm u ca) q; omega)) (by decide) dX5_hasPlan_39 ?_
              refine r_v (y := nI u.cnt) hR.1.2.2.2.2.1 ?_
              refine r_cgeN (pc := 40) (tgt := 155) C (by first | omega | (have := hA.1; have := hA.2.1; omega) | (have := hA.2.2.2.2.2.2.2.1; have := mv_le (bfm u ca) q; omega)) (by first | omega | (have := hA.1; have := hA.2.1; omega) | (have := hA.2.2.2.2.2.2.2.1; have := mv_le (bfm u ca) q; omega)) dX5_hasPlan_40 (by decide) (fun c40 => ?_) (fun c40 => ?_)
              · refine r_il (pc := 155) C 4 rfl dX5_hasPlan_155 ?_
                refine r_zltN (pc := 157) (tgt := 164) C (by first | omega | (have := hA.1; have := hA.2.1; omega) | (have := hA.2.2.2.2.2.2.2.1; have := mv_le (bfm u ca) q; omega)) dX5_hasPlan_157 (by decide) ?_
                refine r_ic (pc := 160) (v := nI 1) C rfl dX5_hasPlan_160 ?_
                refine r_goto (pc := 161) (tgt := 165) C dX5_hasPlan_161 (by decide) ?_
                subst hQ
                exact e_zW C hr hk rfl (Nat.le_refl _) (Nat.le_refl _) pl2 rfl (hpa_end hM.2 hA c40) dX5_hasPlan_165
              · refine r_il (pc := 43) C 5 rfl dX5_hasPlan_43 ?_
                refine r_aln (pc := 45) C 0 rfl dX5_hasPlan_45 ?_
                refine r_get (pc := 46) C iX5_hasPlan_X5 0 rfl rfl 13 (by decide) (mw 1 rfl) rfl rfl dX5_hasPlan_46 ?_
                refine r_il (pc := 49) C 4 rfl dX5_hasPlan_49 ?_
                refine r_ialI (pc := 51) C 1 rfl (by first | omega | (have := hA.1; have := hA.2.1; omega) | (have := hA.2.2.2.2.2.2.2.1; have := mv_le (bfm u ca) q; omega)) (by decide) dX5_hasPlan_51 ?_
                refine r_ic (pc := 52) (v := (-1)) C rfl dX5_hasPlan_52 ?_
                refine r_ceq (pc := 53) (tgt := 70) C dX5_hasPlan_53 (by decide) (fun c53 => ?_) (fun c53 => ?_)
                · have hq0 : q = 0 := by rw [hA.2.2.2.2.1 (by omega)] at c53; exact (plv_m1 (by have := hA.2.1; omega)).mp c53
                  have hm7 := hA.2.2.2.2.2.2.1
                  rw [if_pos hq0] at hm7
                  refine r_ic (pc := 70) (v := nI 0) C rfl dX5_hasPlan_70 ?_
                  refine r_isubN (pc := 71) C (by first | omega | (have := hA.1; have := hA.2.1; omega) | (have := hA.2.2.2.2.2.2.2.1; have := mv_le (bfm u ca) q; omega)) dX5_hasPlan_71 ?_
                  refine r_v (y := nI (MS u π ca)) (congrArg nI (by omega)) ?_
                  refine r_is (pc := 72) C [1, 2, 3, 4, 5, 0] [(0, .ref mA), (1, .ref ra), (2, .int (nI gone)), (3, .int (nI most)), (4, .int (nI ca)), (5, .int (nI (MS u π ca)))] (by decide) rfl dX5_hasPlan_72 ?_
                  refine r_aln (pc := 74) C 0 rfl dX5_hasPlan_74 ?_
                  refine r_get (pc := 75) C iX5_hasPlan_X5 0 rfl rfl 13 (by decide) (mw 1 rfl) rfl rfl dX5_hasPlan_75 ?_
                  refine r_il (pc := 78) C 4 rfl dX5_hasPlan_78 ?_
                  refine r_dup2 (pc := 80) C rfl rfl dX5_hasPlan_80 ?_
                  refine r_ialI (pc := 81) C 1 rfl (by first | omega | (have := hA.1; have := hA.2.1; omega) | (have := hA.2.2.2.2.2.2.2.1; have := mv_le (bfm u ca) q; omega)) (by decide) dX5_hasPlan_81 ?_
                  refine r_v (y := plv q) (hA.2.2.2.2.1 (by omega)) ?_
                  refine r_ic (pc := 82) (v := nI 1) C rfl dX5_hasPlan_82 ?_
                  refine r_iadd (pc := 83) C dX5_hasPlan_83 ?_
                  refine r_v (y := nI q) plv_add ?_
                  refine r_iasI (pc := 84) (ws2 := [(mA, cMo mref mscr msz mspot mgood mleft mread mnow mtri mdia macts mkept misk qp), (qp, aI (cT 0) 16 (upd pl2 ca (nI q))), (ra, aI (cT 0) 104 f)]) C 1 rfl (by first | omega | (have := hA.1; have := hA.2.1; omega) | (have := hA.2.2.2.2.2.2.2.1; have := mv_le (bfm u ca) q; omega)) (by decide) rfl dX5_hasPlan_84 ?_
                  refine r_aln (pc := 85) C 0 rfl dX5_hasPlan_85 ?_
                  refine r_get (pc := 86) C iX5_hasPlan_X5 0 rfl rfl 13 (by decide) (mw 1 rfl) rfl rfl dX5_hasPlan_86 ?_
                  refine r_il (pc := 89) C 4 rfl dX5_hasPlan_89 ?_
                  refine r_ialI (pc := 91) C 1 rfl (by first | omega | (have := hA.1; have := hA.2.1; omega) | (have := hA.2.2.2.2.2.2.2.1; have := mv_le (bfm u ca) q; omega)) (by decide) dX5_hasPlan_91 ?_
                  refine r_v (y := nI q) pk_us ?_
                  refine r_aln (pc := 92) C 1 rfl dX5_hasPlan_92 ?_
                  refine r_ic (pc := 93) (v := nI 2) C rfl dX5_hasPlan_93 ?_
                  refine r_ialI (pc := 94) C 2 rfl (by first | omega | (have := hA.1; have := hA.2.1; omega) | (have := hA.2.2.2.2.2.2.2.1; have := mv_le (bfm u ca) q; omega)) (by decide) dX5_hasPlan_94 ?_
                  refine r_v (y := nI u.mid) hR.1.2.2.1 ?_
                  refine r_cneN (pc := 95) (tgt := 112) C (by first | omega | (have := hA.1; have := hA.2.1; omega) | (have := hA.2.2.2.2.2.2.2.1; have := mv_le (bfm u ca) q; omega)) (by first | omega | (have := hA.1; have := hA.2.1; omega) | (have := hA.2.2.2.2.2.2.2.1; have := mv_le (bfm u ca) q; omega)) dX5_hasPlan_95 (by decide) (fun c95 => ?_) (fun c95 => ?_)
                  · refine r_il (pc := 112) C 5 rfl dX5_hasPlan_112 ?_
                    refine r_aln (pc := 114) C 0 rfl dX5_hasPlan_114 ?_
                    refine r_aln (pc := 115) C 1 rfl dX5_hasPlan_115 ?_
                    refine r_il (pc := 116) C 4 rfl dX5_hasPlan_116 ?_
                    refine c_RV (pc := 118) (As := [.ref ra, .int (nI ca)]) (wc := [(mA, cMo mref mscr msz mspot mgood mleft mread mnow mtri mdia macts mkept misk qp), (qp, aI (cT 0) 16 (upd pl2 ca (nI q))), (ra, aI (cT 0) 104 f)]) (qr := 0) C (k_X5_goesOver l D cT mA mref mscr msz mspot mgood mleft mread mnow mtri mdia macts mkept misk qp (upd pl2 ca (nI q)) ra f ca u (by first | assumption | omega) (by first | assumption | omega) (by first | assumption | omega)) (cwV 2 C.1.2.2.2.2 gX5_hasPlan_X5_goesOver rfl rfl rfl n_X5_goesOver ⟨Nat.le_of_ble_eq_true rfl, Nat.le_of_ble_eq_true rfl⟩) [0, 1, 2] rfl rfl rfl rfl rfl (Nat.le_of_ble_eq_true rfl) ⟨Nat.zero_le _, Nat.zero_le _⟩ dX5_hasPlan_118 (fun r118 h1 => ?_)
                    rcases h1 with ⟨rfl, h1⟩ | ⟨rfl, h1⟩
                    · have hgo2 := h1
                      rw [pk_us] at hgo2
                      refine r_zeqN (pc := 121) (tgt := 128) C (by first | omega | (have := hA.1; have := hA.2.1; omega) | (have := hA.2.2.2.2.2.2.2.1; have := mv_le (bfm u ca) q; omega)) dX5_hasPlan_121 (by decide) (fun h => absurd h (by decide)) (fun _ => ?_)
                      refine r_ic (pc := 124) (v := nI 1) C rfl dX5_hasPlan_124 ?_
                      refine r_goto (pc := 125) (tgt := 129) C dX5_hasPlan_125 (by decide) ?_
                      refine r_iaddN (pc := 129) C dX5_hasPlan_129 ?_
                      refine r_v (y := nI (MS u π ca + mv (bfm u ca) q)) (congrArg nI (by rw [mv_1 hgo2])) ?_
                      refine r_is (pc := 130) C [1, 2, 3, 4, 5, 0] [(0, .ref mA), (1, .ref ra), (2, .int (nI gone)), (3, .int (nI most)), (4, .int (nI ca)), (5, .int (nI (MS u π ca + mv (bfm u ca) q)))] (by decide) rfl dX5_hasPlan_130 ?_
                      refine r_il (pc := 132) C 5 rfl dX5_hasPlan_132 ?_
                      refine r_iln (pc := 134) C 3 rfl dX5_hasPlan_134 ?_
                      refine r_cgtN (pc := 135) (tgt := 30) C (by first | omega | (have := hA.1; have := hA.2.1; omega) | (have := hA.2.2.2.2.2.2.2.1; have := mv_le (bfm u ca) q; omega)) (by first | omega | (have := hA.1; have := hA.2.1; omega) | (have := hA.2.2.2.2.2.2.2.1; have := mv_le (bfm u ca) q; omega)) dX5_hasPlan_135 (by decide) (fun c135 => ?_) (fun c135 => ?_)
                      · obtain ⟨R2, hR2, hq2⟩ := hpa_next hA (by omega) c95 (Or.inl c135)
                        exact ih30 (nI ca) (upd pl2 ca (nI q)) (MS u π ca + mv (bfm u ca) q) R2 hq2 (by omega)
                      · refine r_aln (pc := 138) C 0 rfl dX5_hasPlan_138 ?_
                        refine r_aln (pc := 139) C 1 rfl dX5_hasPlan_139 ?_
                        refine r_il (pc := 140) C 4 rfl dX5_hasPlan_140 ?_
                        refine r_iln (pc := 142) C 2 rfl dX5_hasPlan_142 ?_
                        refine c_RV (pc := 143) (As := [.ref ra, .int (nI ca), .int (nI gone)]) (wc := [(mA, cMo mref mscr msz mspot mgood mleft mread mnow mtri mdia macts mkept misk qp), (qp, aI (cT 0) 16 (upd pl2 ca (nI q))), (ra, aI (cT 0) 104 f)]) (qr := 0) C (k_X5_fits l D cT mA mref mscr msz mspot mgood mleft mread mnow mtri mdia macts mkept misk qp (upd pl2 ca (nI q)) ra f ca gone u (va_up π ca q) hR hB (by omega) hg (hpl_up hA hM.2 c95)) (cwV 3 C.1.2.2.2.2 gX5_hasPlan_X5_fits rfl rfl rfl n_X5_fits ⟨Nat.le_of_ble_eq_true rfl, Nat.le_of_ble_eq_true rfl⟩) [0, 1, 2] rfl rfl rfl rfl rfl (Nat.le_of_ble_eq_true rfl) ⟨Nat.zero_le _, Nat.zero_le _⟩ dX5_hasPlan_143 (fun r143 h2 => ?_)
                        rcases h2 with ⟨rfl, h2⟩ | ⟨rfl, h2⟩
                        · refine r_zeqN (pc := 146) (tgt := 30) C (by first | omega | (have := hA.1; have := hA.2.1; omega) | (have := hA.2.2.2.2.2.2.2.1; have := mv_le (bfm u ca) q; omega)) dX5_hasPlan_146 (by decide) (fun h => absurd h (by decide)) (fun _ => ?_)
                          refine r_incN (pc := 149) C 4 [1, 2, 3, 4, 0, 5] [(0, .ref mA), (1, .ref ra), (2, .int (nI gone)), (3, .int (nI most)), (4, .int (nI (ca + 1))), (5, .int (nI (MS u π ca + mv (bfm u ca) q)))] rfl (by decide) rfl dX5_hasPlan_149 ?_
                          refine r_goto (pc := 152) (tgt := 30) C dX5_hasPlan_152 (by decide) ?_
                          obtain ⟨R2, hR2, hq2⟩ := hpa_adv hA (by omega) hCn c95 c135 ((ft_ok (by rw [va_up_self]; have := hA.2.1; omega)).mp h2)
                          exact ih30 (nI (ca + 1)) (upd pl2 ca (nI q)) (MS u π ca + mv (bfm u ca) q) R2 hq2 (by omega)
                        · refine r_zeqN (pc := 146) (tgt := 30) C (by first | omega | (have := hA.1; have := hA.2.1; omega) | (have := hA.2.2.2.2.2.2.2.1; have := mv_le (bfm u ca) q; omega)) dX5_hasPlan_146 (by decide) (fun _ => ?_) (fun h => absurd h (by decide))
                          obtain ⟨R2, hR2, hq2⟩ := hpa_next hA (by omega) c95 (Or.inr (fun g => h2 ((ft_ok (by rw [va_up_self]; have := hA.2.1; omega)).mpr g)))
                          exact ih30 (nI ca) (upd pl2 ca (nI q)) (MS u π ca + mv (bfm u ca) q) R2 hq2 (by omega)
                    · have hgo2 := h1
                      rw [pk_us] at hgo2
                      refine r_zeqN (pc := 121) (tgt := 128) C (by first | omega | (have := hA.1; have := hA.2.1; omega) | (have := hA.2.2.2.2.2.2.2.1; have := mv_le (bfm u ca) q; omega)) dX5_hasPlan_121 (by decide) (fun _ => ?_) (fun h => absurd h (by decide))
                      refine r_ic (pc := 128) (v := nI 0) C rfl dX5_hasPlan_128 ?_
                      refine r_iaddN (pc := 129) C dX5_hasPlan_129 ?_
                      refine r_v (y := nI (MS u π ca + mv (bfm u ca) q)) (congrArg nI (by rw [mv_0 hgo2])) ?_
                      refine r_is (pc := 130) C [1, 2, 3, 4, 5, 0] [(0, .ref mA), (1, .ref ra), (2, .int (nI gone)), (3, .int (nI most)), (4, .int (nI ca)), (5, .int (nI (MS u π ca + mv (bfm u ca) q)))] (by decide) rfl dX5_hasPlan_130 ?_
                      refine r_il (pc := 132) C 5 rfl dX5_hasPlan_132 ?_
                      refine r_iln (pc := 134) C 3 rfl dX5_hasPlan_134 ?_
                      refine r_cgtN (pc := 135) (tgt := 30) C (by first | omega | (have := hA.1; have := hA.2.1; omega) | (have := hA.2.2.2.2.2.2.2.1; have := mv_le (bfm u ca) q; omega)) (by first | omega | (have := hA.1; have := hA.2.1; omega) | (have := hA.2.2.2.2.2.2.2.1; have := mv_le (bfm u ca) q; omega)) dX5_hasPlan_135 (by decide) (fun c135 => ?_) (fun c135 => ?_)
                      · obtain ⟨R2, hR2, hq2⟩ := hpa_next hA (by omega) c95 (Or.inl c135)
                        exact ih30 (nI ca) (upd pl2 ca (nI q)) (MS u π ca + mv (bfm u ca) q) R2 hq2 (by omega)
                      · refine r_aln (pc := 138) C 0 rfl dX5_hasPlan_138 ?_
                        refine r_aln (pc := 139) C 1 rfl dX5_hasPlan_139 ?_
                        refine r_il (pc := 140) C 4 rfl dX5_hasPlan_140 ?_
                        refine r_iln (pc := 142) C 2 rfl dX5_hasPlan_142 ?_
                        refine c_RV (pc := 143) (As := [.ref ra, .int (nI ca), .int (nI gone)]) (wc := [(mA, cMo mref mscr msz mspot mgood mleft mread mnow mtri mdia macts mkept misk qp), (qp, aI (cT 0) 16 (upd pl2 ca (nI q))), (ra, aI (cT 0) 104 f)]) (qr := 0) C (k_X5_fits l D cT mA mref mscr msz mspot mgood mleft mread mnow mtri mdia macts mkept misk qp (upd pl2 ca (nI q)) ra f ca gone u (va_up π ca q) hR hB (by omega) hg (hpl_up hA hM.2 c95)) (cwV 3 C.1.2.2.2.2 gX5_hasPlan_X5_fits rfl rfl rfl n_X5_fits ⟨Nat.le_of_ble_eq_true rfl, Nat.le_of_ble_eq_true rfl⟩) [0, 1, 2] rfl rfl rfl rfl rfl (Nat.le_of_ble_eq_true rfl) ⟨Nat.zero_le _, Nat.zero_le _⟩ dX5_hasPlan_143 (fun r143 h3 => ?_)
                        rcases h3 with ⟨rfl, h3⟩ | ⟨rfl, h3⟩
                        · refine r_zeqN (pc := 146) (tgt := 30) C (by first | omega | (have := hA.1; have := hA.2.1; omega) | (have := hA.2.2.2.2.2.2.2.1; have := mv_le (bfm u ca) q; omega)) dX5_hasPlan_146 (by decide) (fun h => absurd h (by decide)) (fun _ => ?_)
                          refine r_incN (pc := 149) C 4 [1, 2, 3, 4, 0, 5] [(0, .ref mA), (1, .ref ra), (2, .int (nI gone)), (3, .int (nI most)), (4, .int (nI (ca + 1))), (5, .int (nI (MS u π ca + mv (bfm u ca) q)))] rfl (by decide) rfl dX5_hasPlan_149 ?_
                          refine r_goto (pc := 152) (tgt := 30) C dX5_hasPlan_152 (by decide) ?_
                          obtain ⟨R2, hR2, hq2⟩ := hpa_adv hA (by omega) hCn c95 c135 ((ft_ok (by rw [va_up_self]; have := hA.2.1; omega)).mp h3)
                          exact ih30 (nI (ca + 1)) (upd pl2 ca (nI q)) (MS u π ca + mv (bfm u ca) q) R2 hq2 (by omega)
                        · refine r_zeqN (pc := 146) (tgt := 30) C (by first | omega | (have := hA.1; have := hA.2.1; omega) | (have := hA.2.2.2.2.2.2.2.1; have := mv_le (bfm u ca) q; omega)) dX5_hasPlan_146 (by decide) (fun _ => ?_) (fun h => absurd h (by decide))
                          obtain ⟨R2, hR2, hq2⟩ := hpa_next hA (by omega) c95 (Or.inr (fun g => h3 ((ft_ok (by rw [va_up_self]; have := hA.2.1; omega)).mpr g)))
                          exact ih30 (nI ca) (upd pl2 ca (nI q)) (MS u π ca + mv (bfm u ca) q) R2 hq2 (by omega)
                  · refine r_aln (pc := 98) C 0 rfl dX5_hasPlan_98 ?_
                    refine r_get (pc := 99) C iX5_hasPlan_X5 0 rfl rfl 13 (by decide) (mw 1 rfl) rfl rfl dX5_hasPlan_99 ?_
                    refine r_il (pc := 102) C 4 rfl dX5_hasPlan_102 ?_
                    refine r_ic (pc := 104) (v := (-1)) C rfl dX5_hasPlan_104 ?_
                    refine r_iasI (pc := 105) (ws2 := [(mA, cMo mref mscr msz mspot mgood mleft mread mnow mtri mdia macts mkept misk qp), (qp, aI (cT 0) 16 (upd (upd pl2 ca (nI q)) ca (-1))), (ra, aI (cT 0) 104 f)]) C 1 rfl (by first | omega | (have := hA.1; have := hA.2.1; omega) | (have := hA.2.2.2.2.2.2.2.1; have := mv_le (bfm u ca) q; omega)) (by decide) rfl dX5_hasPlan_105 ?_
                    refine r_inc (pc := 106) C 4 [1, 2, 3, 4, 0, 5] [(0, .ref mA), (1, .ref ra), (2, .int (nI gone)), (3, .int (nI most)), (4, .int (nI ca + (-1))), (5, .int (nI (MS u π ca)))] rfl (congrArg (nI ca + ·) (by decide)) (by decide) rfl dX5_hasPlan_106 ?_
                    refine r_goto (pc := 109) (tgt := 30) C dX5_hasPlan_109 (by decide) ?_
                    obtain ⟨R2, hR2, hq2⟩ := hpa_ex hA (by omega) c95 hCn
                    exact ih30 (nI ca + (-1)) (upd (upd pl2 ca (nI q)) ca (-1)) (MS u π ca) R2 hq2 (by omega)
                · have hq0 : ¬ q = 0 := fun g => c53 (by rw [hA.2.2.2.2.1 (by omega)]; exact (plv_m1 (by have := hA.2.1; omega)).mpr g)
                  refine r_aln (pc := 56) C 0 rfl dX5_hasPlan_56 ?_
                  refine r_aln (pc := 57) C 1 rfl dX5_hasPlan_57 ?_
                  refine r_il (pc := 58) C 4 rfl dX5_hasPlan_58 ?_
                  refine c_RV (pc := 60) (As := [.ref ra, .int (nI ca)]) (wc := [(mA, cMo mref mscr msz mspot mgood mleft mread mnow mtri mdia macts mkept misk qp), (qp, aI (cT 0) 16 pl2), (ra, aI (cT 0) 104 f)]) (qr := 0) C (k_X5_goesOver l D cT mA mref mscr msz mspot mgood mleft mread mnow mtri mdia macts mkept misk qp pl2 ra f ca u (by first | assumption | omega) (by first | assumption | omega) (by first | assumption | omega)) (cwV 2 C.1.2.2.2.2 gX5_hasPlan_X5_goesOver rfl rfl rfl n_X5_goesOver ⟨Nat.le_of_ble_eq_true rfl, Nat.le_of_ble_eq_true rfl⟩) [0, 1, 2] rfl rfl rfl rfl rfl (Nat.le_of_ble_eq_true rfl) ⟨Nat.zero_le _, Nat.zero_le _⟩ dX5_hasPlan_60 (fun r60 h4 => ?_)
                  rcases h4 with ⟨rfl, h4⟩ | ⟨rfl, h4⟩
                  · have hgo := h4
                    rw [hA.2.2.2.2.1 (by omega), plv_p hq0] at hgo
                    have hm7 := hA.2.2.2.2.2.2.1
                    rw [if_neg hq0, mv_1 hgo] at hm7
                    refine r_zeqN (pc := 63) (tgt := 70) C (by first | omega | (have := hA.1; have := hA.2.1; omega) | (have := hA.2.2.2.2.2.2.2.1; have := mv_le (bfm u ca) q; omega)) dX5_hasPlan_63 (by decide) (fun h => absurd h (by decide)) (fun _ => ?_)
                    refine r_ic (pc := 66) (v := nI 1) C rfl dX5_hasPlan_66 ?_
                    refine r_goto (pc := 67) (tgt := 71) C dX5_hasPlan_67 (by decide) ?_
                    refine r_isubN (pc := 71) C (by first | omega | (have := hA.1; have := hA.2.1; omega) | (have := hA.2.2.2.2.2.2.2.1; have := mv_le (bfm u ca) q; omega)) dX5_hasPlan_71 ?_
                    refine r_v (y := nI (MS u π ca)) (congrArg nI (by omega)) ?_
                    refine r_is (pc := 72) C [1, 2, 3, 4, 5, 0] [(0, .ref mA), (1, .ref ra), (2, .int (nI gone)), (3, .int (nI most)), (4, .int (nI ca)), (5, .int (nI (MS u π ca)))] (by decide) rfl dX5_hasPlan_72 ?_
                    refine r_aln (pc := 74) C 0 rfl dX5_hasPlan_74 ?_
                    refine r_get (pc := 75) C iX5_hasPlan_X5 0 rfl rfl 13 (by decide) (mw 1 rfl) rfl rfl dX5_hasPlan_75 ?_
                    refine r_il (pc := 78) C 4 rfl dX5_hasPlan_78 ?_
                    refine r_dup2 (pc := 80) C rfl rfl dX5_hasPlan_80 ?_
                    refine r_ialI (pc := 81) C 1 rfl (by first | omega | (have := hA.1; have := hA.2.1; omega) | (have := hA.2.2.2.2.2.2.2.1; have := mv_le (bfm u ca) q; omega)) (by decide) dX5_hasPlan_81 ?_
                    refine r_v (y := plv q) (hA.2.2.2.2.1 (by omega)) ?_
                    refine r_ic (pc := 82) (v := nI 1) C rfl dX5_hasPlan_82 ?_
                    refine r_iadd (pc := 83) C dX5_hasPlan_83 ?_
                    refine r_v (y := nI q) plv_add ?_
                    refine r_iasI (pc := 84) (ws2 := [(mA, cMo mref mscr msz mspot mgood mleft mread mnow mtri mdia macts mkept misk qp), (qp, aI (cT 0) 16 (upd pl2 ca (nI q))), (ra, aI (cT 0) 104 f)]) C 1 rfl (by first | omega | (have := hA.1; have := hA.2.1; omega) | (have := hA.2.2.2.2.2.2.2.1; have := mv_le (bfm u ca) q; omega)) (by decide) rfl dX5_hasPlan_84 ?_
                    refine r_aln (pc := 85) C 0 rfl dX5_hasPlan_85 ?_
                    refine r_get (pc := 86) C iX5_hasPlan_X5 0 rfl rfl 13 (by decide) (mw 1 rfl) rfl rfl dX5_hasPlan_86 ?_
                    refine r_il (pc := 89) C 4 rfl dX5_hasPlan_89 ?_
                    refine r_ialI (pc := 91) C 1 rfl (by first | omega | (have := hA.1; have := hA.2.1; omega) | (have := hA.2.2.2.2.2.2.2.1; have := mv_le (bfm u ca) q; omega)) (by decide) dX5_hasPlan_91 ?_
                    refine r_v (y := nI q) pk_us ?_
                    refine r_aln (pc := 92) C 1 rfl dX5_hasPlan_92 ?_
                    refine r_ic (pc := 93) (v := nI 2) C rfl dX5_hasPlan_93 ?_
                    refine r_ialI (pc := 94) C 2 rfl (by first | omega | (have := hA.1; have := hA.2.1; omega) | (have := hA.2.2.2.2.2.2.2.1; have := mv_le (bfm u ca) q; omega)) (by decide) dX5_hasPlan_94 ?_
                    refine r_v (y := nI u.mid) hR.1.2.2.1 ?_
                    refine r_cneN (pc := 95) (tgt := 112) C (by first | omega | (have := hA.1; have := hA.2.1; omega) | (have := hA.2.2.2.2.2.2.2.1; have := mv_le (bfm u ca) q; omega)) (by first | omega | (have := hA.1; have := hA.2.1; omega) | (have := hA.2.2.2.2.2.2.2.1; have := mv_le (bfm u ca) q; omega)) dX5_hasPlan_95 (by decide) (fun c95 => ?_) (fun c95 => ?_)
                    · refine r_il (pc := 112) C 5 rfl dX5_hasPlan_112 ?_
                      refine r_aln (pc := 114) C 0 rfl dX5_hasPlan_114 ?_
                      refine r_aln (pc := 115) C 1 rfl dX5_hasPlan_115 ?_
                      refine r_il (pc := 116) C 4 rfl dX5_hasPlan_116 ?_
                      refine c_RV (pc := 118) (As := [.ref ra, .int (nI ca)]) (wc := [(mA, cMo mref mscr msz mspot mgood mleft mread mnow mtri mdia macts mkept misk qp), (qp, aI (cT 0) 16 (upd pl2 ca (nI q))), (ra, aI (cT 0) 104 f)]) (qr := 0) C (k_X5_goesOver l D cT mA mref mscr msz mspot mgood mleft mread mnow mtri mdia macts mkept misk qp (upd pl2 ca (nI q)) ra f ca u (by first | assumption | omega) (by first | assumption | omega) (by first | assumption | omega)) (cwV 2 C.1.2.2.2.2 gX5_hasPlan_X5_goesOver rfl rfl rfl n_X5_goesOver ⟨Nat.le_of_ble_eq_true rfl, Nat.le_of_ble_eq_true rfl⟩) [0, 1, 2] rfl rfl rfl rfl rfl (Nat.le_of_ble_eq_true rfl) ⟨Nat.zero_le _, Nat.zero_le _⟩ dX5_hasPlan_118 (fun r118 h5 => ?_)
                      rcases h5 with ⟨rfl, h5⟩ | ⟨rfl, h5⟩
                      · have hgo2 := h5
                        rw [pk_us] at hgo2
                        refine r_zeqN (pc := 121) (tgt := 128) C (by first | omega | (have := hA.1; have := hA.2.1; omega) | (have := hA.2.2.2.2.2.2.2.1; have := mv_le (bfm u ca) q; omega)) dX5_hasPlan_121 (by decide) (fun h => absurd h (by decide)) (fun _ => ?_)
                        refine r_ic (pc := 124) (v := nI 1) C rfl dX5_hasPlan_124 ?_
                        refine r_goto (pc := 125) (tgt := 129) C dX5_hasPlan_125 (by decide) ?_
                        refine r_iaddN (pc := 129) C dX5_hasPlan_129 ?_
                        refine r_v (y := nI (MS u π ca + mv (bfm u ca) q)) (congrArg nI (by rw [mv_1 hgo2])) ?_
                        refine r_is (pc := 130) C [1, 2, 3, 4, 5, 0] [(0, .ref mA), (1, .ref ra), (2, .int (nI gone)), (3, .int (nI most)), (4, .int (nI ca)), (5, .int (nI (MS u π ca + mv (bfm u ca) q)))] (by decide) rfl dX5_hasPlan_130 ?_
                        refine r_il (pc := 132) C 5 rfl dX5_hasPlan_132 ?_
                        refine r_iln (pc := 134) C 3 rfl dX5_hasPlan_134 ?_
                        refine r_cgtN (pc := 135) (tgt := 30) C (by first | omega | (have := hA.1; have := hA.2.1; omega) | (have := hA.2.2.2.2.2.2.2.1; have := mv_le (bfm u ca) q; omega)) (by first | omega | (have := hA.1; have := hA.2.1; omega) | (have := hA.2.2.2.2.2.2.2.1; have := mv_le (bfm u ca) q; omega)) dX5_hasPlan_135 (by decide) (fun c135 => ?_) (fun c135 => ?_)
                        · obtain ⟨R2, hR2, hq2⟩ := hpa_next hA (by omega) c95 (Or.inl c135)
                          exact ih30 (nI ca) (upd pl2 ca (nI q)) (MS u π ca + mv (bfm u ca) q) R2 hq2 (by omega)
                        · refine r_aln (pc := 138) C 0 rfl dX5_hasPlan_138 ?_
                          refine r_aln (pc := 139) C 1 rfl dX5_hasPlan_139 ?_
                          refine r_il (pc := 140) C 4 rfl dX5_hasPlan_140 ?_
                          refine r_iln (pc := 142) C 2 rfl dX5_hasPlan_142 ?_
                          refine c_RV (pc := 143) (As := [.ref ra, .int (nI ca), .int (nI gone)]) (wc := [(mA, cMo mref mscr msz mspot mgood mleft mread mnow mtri mdia macts mkept misk qp), (qp, aI (cT 0) 16 (upd pl2 ca (nI q))), (ra, aI (cT 0) 104 f)]) (qr := 0) C (k_X5_fits l D cT mA mref mscr msz mspot mgood mleft mread mnow mtri mdia macts mkept misk qp (upd pl2 ca (nI q)) ra f ca gone u (va_up π ca q) hR hB (by omega) hg (hpl_up hA hM.2 c95)) (cwV 3 C.1.2.2.2.2 gX5_hasPlan_X5_fits rfl rfl rfl n_X5_fits ⟨Nat.le_of_ble_eq_true rfl, Nat.le_of_ble_eq_true rfl⟩) [0, 1, 2] rfl rfl rfl rfl rfl (Nat.le_of_ble_eq_true rfl) ⟨Nat.zero_le _, Nat.zero_le _⟩ dX5_hasPlan_143 (fun r143 h6 => ?_)
                          rcases h6 with ⟨rfl, h6⟩ | ⟨rfl, h6⟩
                          · refine r_zeqN (pc := 146) (tgt := 30) C (by first | omega | (have := hA.1; have := hA.2.1; omega) | (have := hA.2.2.2.2.2.2.2.1; have := mv_le (bfm u ca) q; omega)) dX5_hasPlan_146 (by decide) (fun h => absurd h (by decide)) (fun _ => ?_)
                            refine r_incN (pc := 149) C 4 [1, 2, 3, 4, 0, 5] [(0, .ref mA), (1, .ref ra), (2, .int (nI gone)), (3, .int (nI most)), (4, .int (nI (ca + 1))), (5, .int (nI (MS u π ca + mv (bfm u ca) q)))] rfl (by decide) rfl dX5_hasPlan_149 ?_
                            refine r_goto (pc := 152) (tgt := 30) C dX5_hasPlan_152 (by decide) ?_
                            obtain ⟨R2, hR2, hq2⟩ := hpa_adv hA (by omega) hCn c95 c135 ((ft_ok (by rw [va_up_self]; have := hA.2.1; omega)).mp h6)
                            exact ih30 (nI (ca + 1)) (upd pl2 ca (nI q)) (MS u π ca + mv (bfm u ca) q) R2 hq2 (by omega)
                          · refine r_zeqN (pc := 146) (tgt := 30) C (by first | omega | (have := hA.1; have := hA.2.1; omega) | (have := hA.2.2.2.2.2.2.2.1; have := mv_le (bfm u ca) q; omega)) dX5_hasPlan_146 (by decide) (fun _ => ?_) (fun h => absurd h (by decide))
                            obtain ⟨R2, hR2, hq2⟩ := hpa_next hA (by omega) c95 (Or.inr (fun g => h6 ((ft_ok (by rw [va_up_self]; have := hA.2.1; omega)).mpr g)))
                            exact ih30 (nI ca) (upd pl2 ca (nI q)) (MS u π ca + mv (bfm u ca) q) R2 hq2 (by omega)
                      · have hgo2 := h5
                        rw [pk_us] at hgo2
                        refine r_zeqN (pc := 121) (tgt := 128) C (by first | omega | (have := hA.1; have := hA.2.1; omega) | (have := hA.2.2.2.2.2.2.2.1; have := mv_le (bfm u ca) q; omega)) dX5_hasPlan_121 (by decide) (fun _ => ?_) (fun h => absurd h (by decide))
                        refine r_ic (pc := 128) (v := nI 0) C rfl dX5_hasPlan_128 ?_
                        refine r_iaddN (pc := 129) C dX5_hasPlan_129 ?_
                        refine r_v (y := nI (MS u π ca + mv (bfm u ca) q)) (congrArg nI (by rw [mv_0 hgo2])) ?_
                        refine r_is (pc := 130) C [1, 2, 3, 4, 5, 0] [(0, .ref mA), (1, .ref ra), (2, .int (nI gone)), (3, .int (nI most)), (4, .int (nI ca)), (5, .int (nI (MS u π ca + mv (bfm u ca) q)))] (by decide) rfl dX5_hasPlan_130 ?_
                        refine r_il (pc := 132) C 5 rfl dX5_hasPlan_132 ?_
                        refine r_iln (pc := 134) C 3 rfl dX5_hasPlan_134 ?_
                        refine r_cgtN (pc := 135) (tgt := 30) C (by first | omega | (have := hA.1; have := hA.2.1; omega) | (have := hA.2.2.2.2.2.2.2.1; have := mv_le (bfm u ca) q; omega)) (by first | omega | (have := hA.1; have := hA.2.1; omega) | (have := hA.2.2.2.2.2.2.2.1; have := mv_le (bfm u ca) q; omega)) dX5_hasPlan_135 (by decide) (fun c135 => ?_) (fun c135 => ?_)
                        · obtain ⟨R2, hR2, hq2⟩ := hpa_next hA (by omega) c95 (Or.inl c135)
                          exact ih30 (nI ca) (upd pl2 ca (nI q)) (MS u π ca + mv (bfm u ca) q) R2 hq2 (by omega)
                        · refine r_aln (pc := 138) C 0 rfl dX5_hasPlan_138 ?_
                          refine r_aln (pc := 139) C 1 rfl dX5_hasPlan_139 ?_
                          refine r_il (pc := 140) C 4 rfl dX5_hasPlan_140 ?_
                          refine r_iln (pc := 142) C 2 rfl dX5_hasPlan_142 ?_
                          refine c_RV (pc := 143) (As := [.ref ra, .int (nI ca), .int (nI gone)]) (wc := [(mA, cMo mref mscr msz mspot mgood mleft mread mnow mtri mdia macts mkept misk qp), (qp, aI (cT 0) 16 (upd pl2 ca (nI q))), (ra, aI (cT 0) 104 f)]) (qr := 0) C (k_X5_fits l D cT mA mref mscr msz mspot mgood mleft mread mnow mtri mdia macts mkept misk qp (upd pl2 ca (nI q)) ra f ca gone u (va_up π ca q) hR hB (by omega) hg (hpl_up hA hM.2 c95)) (cwV 3 C.1.2.2.2.2 gX5_hasPlan_X5_fits rfl rfl rfl n_X5_fits ⟨Nat.le_of_ble_eq_true rfl, Nat.le_of_ble_eq_true rfl⟩) [0, 1, 2] rfl rfl rfl rfl rfl (Nat.le_of_ble_eq_true rfl) ⟨Nat.zero_le _, Nat.zero_le _⟩ dX5_hasPlan_143 (fun r143 h7 => ?_)
                          rcases h7 with ⟨rfl, h7⟩ | ⟨rfl, h7⟩
                          · refine r_zeqN (pc := 146) (tgt := 30) C (by first | omega | (have := hA.1; have := hA.2.1; omega) | (have := hA.2.2.2.2.2.2.2.1; have := mv_le (bfm u ca) q; omega)) dX5_hasPlan_146 (by decide) (fun h => absurd h (by decide)) (fun _ => ?_)
                            refine r_incN (pc := 149) C 4 [1, 2, 3, 4, 0, 5] [(0, .ref mA), (1, .ref ra), (2, .int (nI gone)), (3, .int (nI most)), (4, .int (nI (ca + 1))), (5, .int (nI (MS u π ca + mv (bfm u ca) q)))] rfl (by decide) rfl dX5_hasPlan_149 ?_
                            refine r_goto (pc := 152) (tgt := 30) C dX5_hasPlan_152 (by decide) ?_
                            obtain ⟨R2, hR2, hq2⟩ := hpa_adv hA (by omega) hCn c95 c135 ((ft_ok (by rw [va_up_self]; have := hA.2.1; omega)).mp h7)
                            exact ih30 (nI (ca + 1)) (upd pl2 ca (nI q)) (MS u π ca + mv (bfm u ca) q) R2 hq2 (by omega)
                          · refine r_zeqN (pc := 146) (tgt := 30) C (by first | omega | (have := hA.1; have := hA.2.1; omega) | (have := hA.2.2.2.2.2.2.2.1; have := mv_le (bfm u ca) q; omega)) dX5_hasPlan_146 (by decide) (fun _ => ?_) (fun h => absurd h (by decide))
                            obtain ⟨R2, hR2, hq2⟩ := hpa_next hA (by omega) c95 (Or.inr (fun g => h7 ((ft_ok (by rw [va_up_self]; have := hA.2.1; omega)).mpr g)))
                            exact ih30 (nI ca) (upd pl2 ca (nI q)) (MS u π ca + mv (bfm u ca) q) R2 hq2 (by omega)
                    · refine r_aln (pc := 98) C 0 rfl dX5_hasPlan_98 ?_
                      refine r_get (pc := 99) C iX5_hasPlan_X5 0 rfl rfl 13 (by decide) (mw 1 rfl) rfl rfl dX5_hasPlan_99 ?_
                      refine r_il (pc := 102) C 4 rfl dX5_hasPlan_102 ?_
                      refine r_ic (pc := 104) (v := (-1)) C rfl dX5_hasPlan_104 ?_
                      refine r_iasI (pc := 105) (ws2 := [(mA, cMo mref mscr msz mspot mgood mleft mread mnow mtri mdia macts mkept misk qp), (qp, aI (cT 0) 16 (upd (upd pl2 ca (nI q)) ca (-1))), (ra, aI (cT 0) 104 f)]) C 1 rfl (by first | omega | (have := hA.1; have := hA.2.1; omega) | (have := hA.2.2.2.2.2.2.2.1; have := mv_le (bfm u ca) q; omega)) (by decide) rfl dX5_hasPlan_105 ?_
                      refine r_inc (pc := 106) C 4 [1, 2, 3, 4, 0, 5] [(0, .ref mA), (1, .ref ra), (2, .int (nI gone)), (3, .int (nI most)), (4, .int (nI ca + (-1))), (5, .int (nI (MS u π ca)))] rfl (congrArg (nI ca + ·) (by decide)) (by decide) rfl dX5_hasPlan_106 ?_
                      refine r_goto (pc := 109) (tgt := 30) C dX5_hasPlan_109 (by decide) ?_
                      obtain ⟨R2, hR2, hq2⟩ := hpa_ex hA (by omega) c95 hCn
                      exact ih30 (nI ca + (-1)) (upd (upd pl2 ca (nI q)) ca (-1)) (MS u π ca) R2 hq2 (by omega)
                  · have hgo := h4
                    rw [hA.2.2.2.2.1 (by omega), plv_p hq0] at hgo
                    have hm7 := hA.2.2.2.2.2.2.1
                    rw [if_neg hq0, mv_0 hgo] at hm7
                    refine r_zeqN (pc := 63) (tgt := 70) C (by first | omega | (have := hA.1; have := hA.2.1; omega) | (have := hA.2.2.2.2.2.2.2.1; have := mv_le (bfm u ca) q; omega)) dX5_hasPlan_63 (by decide) (fun _ => ?_) (fun h => absurd h (by decide))
                    refine r_ic (pc := 70) (v := nI 0) C rfl dX5_hasPlan_70 ?_
                    refine r_isubN (pc := 71) C (by first | omega | (have := hA.1; have := hA.2.1; omega) | (have := hA.2.2.2.2.2.2.2.1; have := mv_le (bfm u ca) q; omega)) dX5_hasPlan_71 ?_
                    refine r_v (y := nI (MS u π ca)) (congrArg nI (by omega)) ?_
                    refine r_is (pc := 72) C [1, 2, 3, 4, 5, 0] [(0, .ref mA), (1, .ref ra), (2, .int (nI gone)), (3, .int (nI most)), (4, .int (nI ca)), (5, .int (nI (MS u π ca)))] (by decide) rfl dX5_hasPlan_72 ?_
                    refine r_aln (pc := 74) C 0 rfl dX5_hasPlan_74 ?_
                    refine r_get (pc := 75) C iX5_hasPlan_X5 0 rfl rfl 13 (by decide) (mw 1 rfl) rfl rfl dX5_hasPlan_75 ?_
                    refine r_il (pc := 78) C 4 rfl dX5_hasPlan_78 ?_
                    refine r_dup2 (pc := 80) C rfl rfl dX5_hasPlan_80 ?_
                    refine r_ialI (pc := 81) C 1 rfl (by first | omega | (have := hA.1; have := hA.2.1; omega) | (have := hA.2.2.2.2.2.2.2.1; have := mv_le (bfm u ca) q; omega)) (by decide) dX5_hasPlan_81 ?_
                    refine r_v (y := plv q) (hA.2.2.2.2.1 (by omega)) ?_
                    refine r_ic (pc := 82) (v := nI 1) C rfl dX5_hasPlan_82 ?_
                    refine r_iadd (pc := 83) C dX5_hasPlan_83 ?_
                    refine r_v (y := nI q) plv_add ?_
                    refine r_iasI (pc := 84) (ws2 := [(mA, cMo mref mscr msz mspot mgood mleft mread mnow mtri mdia macts mkept misk qp), (qp, aI (cT 0) 16 (upd pl2 ca (nI q))), (ra, aI (cT 0) 104 f)]) C 1 rfl (by first | omega | (have := hA.1; have := hA.2.1; omega) | (have := hA.2.2.2.2.2.2.2.1; have := mv_le (bfm u ca) q; omega)) (by decide) rfl dX5_hasPlan_84 ?_
                    refine r_aln (pc := 85) C 0 rfl dX5_hasPlan_85 ?_
                    refine r_get (pc := 86) C iX5_hasPlan_X5 0 rfl rfl 13 (by decide) (mw 1 rfl) rfl rfl dX5_hasPlan_86 ?_
                    refine r_il (pc := 89) C 4 rfl dX5_hasPlan_89 ?_
                    refine r_ialI (pc := 91) C 1 rfl (by first | omega | (have := hA.1; have := hA.2.1; omega) | (have := hA.2.2.2.2.2.2.2.1; have := mv_le (bfm u ca) q; omega)) (by decide) dX5_hasPlan_91 ?_
                    refine r_v (y := nI q) pk_us ?_
                    refine r_aln (pc := 92) C 1 rfl dX5_hasPlan_92 ?_
                    refine r_ic (pc := 93) (v := nI 2) C rfl dX5_hasPlan_93 ?_
                    refine r_ialI (pc := 94) C 2 rfl (by first | omega | (have := hA.1; have := hA.2.1; omega) | (have := hA.2.2.2.2.2.2.2.1; have := mv_le (bfm u ca) q; omega)) (by decide) dX5_hasPlan_94 ?_
                    refine r_v (y := nI u.mid) hR.1.2.2.1 ?_
                    refine r_cneN (pc := 95) (tgt := 112) C (by first | omega | (have := hA.1; have := hA.2.1; omega) | (have := hA.2.2.2.2.2.2.2.1; have := mv_le (bfm u ca) q; omega)) (by first | omega | (have := hA.1; have := hA.2.1; omega) | (have := hA.2.2.2.2.2.2.2.1; have := mv_le (bfm u ca) q; omega)) dX5_hasPlan_95 (by decide) (fun c95 => ?_) (fun c95 => ?_)
                    · refine r_il (pc := 112) C 5 rfl dX5_hasPlan_112 ?_
                      refine r_aln (pc := 114) C 0 rfl dX5_hasPlan_114 ?_
                      refine r_aln (pc := 115) C 1 rfl dX5_hasPlan_115 ?_
                      refine r_il (pc := 116) C 4 rfl dX5_hasPlan_116 ?_
                      refine c_RV (pc := 118) (As := [.ref ra, .int (nI ca)]) (wc := [(mA, cMo mref mscr msz mspot mgood mleft mread mnow mtri mdia macts mkept misk qp), (qp, aI (cT 0) 16 (upd pl2 ca (nI q))), (ra, aI (cT 0) 104 f)]) (qr := 0) C (k_X5_goesOver l D cT mA mref mscr msz mspot mgood mleft mread mnow mtri mdia macts mkept misk qp (upd pl2 ca (nI q)) ra f ca u (by first | assumption | omega) (by first | assumption | omega) (by first | assumption | omega)) (cwV 2 C.1.2.2.2.2 gX5_hasPlan_X5_goesOver rfl rfl rfl n_X5_goesOver ⟨Nat.le_of_ble_eq_true rfl, Nat.le_of_ble_eq_true rfl⟩) [0, 1, 2] rfl rfl rfl rfl rfl (Nat.le_of_ble_eq_true rfl) ⟨Nat.zero_le _, Nat.zero_le _⟩ dX5_hasPlan_118 (fun r118 h8 => ?_)
                      rcases h8 with ⟨rfl, h8⟩ | ⟨rfl, h8⟩
                      · have hgo2 := h8
                        rw [pk_us] at hgo2
                        refine r_zeqN (pc := 121) (tgt := 128) C (by first | omega | (have := hA.1; have := hA.2.1; omega) | (have := hA.2.2.2.2.2.2.2.1; have := mv_le (bfm u ca) q; omega)) dX5_hasPlan_121 (by decide) (fun h => absurd h (by decide)) (fun _ => ?_)
                        refine r_ic (pc := 124) (v := nI 1) C rfl dX5_hasPlan_124 ?_
                        refine r_goto (pc := 125) (tgt := 129) C dX5_hasPlan_125 (by decide) ?_
                        refine r_iaddN (pc := 129) C dX5_hasPlan_129 ?_
                        refine r_v (y := nI (MS u π ca + mv (bfm u ca) q)) (congrArg nI (by rw [mv_1 hgo2])) ?_
                        refine r_is (pc := 130) C [1, 2, 3, 4, 5, 0] [(0, .ref mA), (1, .ref ra), (2, .int (nI gone)), (3, .int (nI most)), (4, .int (nI ca)), (5, .int (nI (MS u π ca + mv (bfm u ca) q)))] (by decide) rfl dX5_hasPlan_130 ?_
                        refine r_il (pc := 132) C 5 rfl dX5_hasPlan_132 ?_
                        refine r_iln (pc := 134) C 3 rfl dX5_hasPlan_134 ?_
                        refine r_cgtN (pc := 135) (tgt := 30) C (by first | omega | (have := hA.1; have := hA.2.1; omega) | (have := hA.2.2.2.2.2.2.2.1; have := mv_le (bfm u ca) q; omega)) (by first | omega | (have := hA.1; have := hA.2.1; omega) | (have := hA.2.2.2.2.2.2.2.1; have := mv_le (bfm u ca) q; omega)) dX5_hasPlan_135 (by decide) (fun c135 => ?_) (fun c135 => ?_)
                        · obtain ⟨R2, hR2, hq2⟩ := hpa_next hA (by omega) c95 (Or.inl c135)
                          exact ih30 (nI ca) (upd pl2 ca (nI q)) (MS u π ca + mv (bfm u ca) q) R2 hq2 (by omega)
                        · refine r_aln (pc := 138) C 0 rfl dX5_hasPlan_138 ?_
                          refine r_aln (pc := 139) C 1 rfl dX5_hasPlan_139 ?_
                          refine r_il (pc := 140) C 4 rfl dX5_hasPlan_140 ?_
                          refine r_iln (pc := 142) C 2 rfl dX5_hasPlan_142 ?_
                          refine c_RV (pc := 143) (As := [.ref ra, .int (nI ca), .int (nI gone)]) (wc := [(mA, cMo mref mscr msz mspot mgood mleft mread mnow mtri mdia macts mkept misk qp), (qp, aI (cT 0) 16 (upd pl2 ca (nI q))), (ra, aI (cT 0) 104 f)]) (qr := 0) C (k_X5_fits l D cT mA mref mscr msz mspot mgood mleft mread mnow mtri mdia macts mkept misk qp (upd pl2 ca (nI q)) ra f ca gone u (va_up π ca q) hR hB (by omega) hg (hpl_up hA hM.2 c95)) (cwV 3 C.1.2.2.2.2 gX5_hasPlan_X5_fits rfl rfl rfl n_X5_fits ⟨Nat.le_of_ble_eq_true rfl, Nat.le_of_ble_eq_true rfl⟩) [0, 1, 2] rfl rfl rfl rfl rfl (Nat.le_of_ble_eq_true rfl) ⟨Nat.zero_le _, Nat.zero_le _⟩ dX5_hasPlan_143 (fun r143 h9 => ?_)
                          rcases h9 with ⟨rfl, h9⟩ | ⟨rfl, h9⟩
                          · refine r_zeqN (pc := 146) (tgt := 30) C (by first | omega | (have := hA.1; have := hA.2.1; omega) | (have := hA.2.2.2.2.2.2.2.1; have := mv_le (bfm u ca) q; omega)) dX5_hasPlan_146 (by decide) (fun h => absurd h (by decide)) (fun _ => ?_)
                            refine r_incN (pc := 149) C 4 [1, 2, 3, 4, 0, 5] [(0, .ref mA), (1, .ref ra), (2, .int (nI gone)), (3, .int (nI most)), (4, .int (nI (ca + 1))), (5, .int (nI (MS u π ca + mv (bfm u ca) q)))] rfl (by decide) rfl dX5_hasPlan_149 ?_
                            refine r_goto (pc := 152) (tgt := 30) C dX5_hasPlan_152 (by decide) ?_
                            obtain ⟨R2, hR2, hq2⟩ := hpa_adv hA (by omega) hCn c95 c135 ((ft_ok (by rw [va_up_self]; have := hA.2.1; omega)).mp h9)
                            exact ih30 (nI (ca + 1)) (upd pl2 ca (nI q)) (MS u π ca + mv (bfm u ca) q) R2 hq2 (by omega)
                          · refine r_zeqN (pc := 146) (tgt := 30) C (by first | omega | (have := hA.1; have := hA.2.1; omega) | (have := hA.2.2.2.2.2.2.2.1; have := mv_le (bfm u ca) q; omega)) dX5_hasPlan_146 (by decide) (fun _ => ?_) (fun h => absurd h (by decide))
                            obtain ⟨R2, hR2, hq2⟩ := hpa_next hA (by omega) c95 (Or.inr (fun g => h9 ((ft_ok (by rw [va_up_self]; have := hA.2.1; omega)).mpr g)))
                            exact ih30 (nI ca) (upd pl2 ca (nI q)) (MS u π ca + mv (bfm u ca) q) R2 hq2 (by omega)
                      · have hgo2 := h8
                        rw [pk_us] at hgo2
                        refine r_zeqN (pc := 121) (tgt := 128) C (by first | omega | (have := hA.1; have := hA.2.1; omega) | (have := hA.2.2.2.2.2.2.2.1; have := mv_le (bfm u ca) q; omega)) dX5_hasPlan_121 (by decide) (fun _ => ?_) (fun h => absurd h (by decide))
                        refine r_ic (pc := 128) (v := nI 0) C rfl dX5_hasPlan_128 ?_
                        refine r_iaddN (pc := 129) C dX5_hasPlan_129 ?_
                        refine r_v (y := nI (MS u π ca + mv (bfm u ca) q)) (congrArg nI (by rw [mv_0 hgo2])) ?_
                        refine r_is (pc := 130) C [1, 2, 3, 4, 5, 0] [(0, .ref mA), (1, .ref ra), (2, .int (nI gone)), (3, .int (nI most)), (4, .int (nI ca)), (5, .int (nI (MS u π ca + mv (bfm u ca) q)))] (by decide) rfl dX5_hasPlan_130 ?_
                        refine r_il (pc := 132) C 5 rfl dX5_hasPlan_132 ?_
                        refine r_iln (pc := 134) C 3 rfl dX5_hasPlan_134 ?_
                        refine r_cgtN (pc := 135) (tgt := 30) C (by first | omega | (have := hA.1; have := hA.2.1; omega) | (have := hA.2.2.2.2.2.2.2.1; have := mv_le (bfm u ca) q; omega)) (by first | omega | (have := hA.1; have := hA.2.1; omega) | (have := hA.2.2.2.2.2.2.2.1; have := mv_le (bfm u ca) q; omega)) dX5_hasPlan_135 (by decide) (fun c135 => ?_) (fun c135 => ?_)
                        · obtain ⟨R2, hR2, hq2⟩ := hpa_next hA (by omega) c95 (Or.inl c135)
                          exact ih30 (nI ca) (upd pl2 ca (nI q)) (MS u π ca + mv (bfm u ca) q) R2 hq2 (by omega)
                        · refine r_aln (pc := 138) C 0 rfl dX5_hasPlan_138 ?_
                          refine r_aln (pc := 139) C 1 rfl dX5_hasPlan_139 ?_
                          refine r_il (pc := 140) C 4 rfl dX5_hasPlan_140 ?_
                          refine r_iln (pc := 142) C 2 rfl dX5_hasPlan_142 ?_
                          refine c_RV (pc := 143) (As := [.ref ra, .int (nI ca), .int (nI gone)]) (wc := [(mA, cMo mref mscr msz mspot mgood mleft mread mnow mtri mdia macts mkept misk qp), (qp, aI (cT 0) 16 (upd pl2 ca (nI q))), (ra, aI (cT 0) 104 f)]) (qr := 0) C (k_X5_fits l D cT mA mref mscr msz mspot mgood mleft mread mnow mtri mdia macts mkept misk qp (upd pl2 ca (nI q)) ra f ca gone u (va_up π ca q) hR hB (by omega) hg (hpl_up hA hM.2 c95)) (cwV 3 C.1.2.2.2.2 gX5_hasPlan_X5_fits rfl rfl rfl n_X5_fits ⟨Nat.le_of_ble_eq_true rfl, Nat.le_of_ble_eq_true rfl⟩) [0, 1, 2] rfl rfl rfl rfl rfl (Nat.le_of_ble_eq_true rfl) ⟨Nat.zero_le _, Nat.zero_le _⟩ dX5_hasPlan_143 (fun r143 h10 => ?_)
                          rcases h10 with ⟨rfl, h10⟩ | ⟨rfl, h10⟩
                          · refine r_zeqN (pc := 146) (tgt := 30) C (by first | omega | (have := hA.1; have := hA.2.1; omega) | (have := hA.2.2.2.2.2.2.2.1; have := mv_le (bfm u ca) q; omega)) dX5_hasPlan_146 (by decide) (fun h => absurd h (by decide)) (fun _ => ?_)
                            refine r_incN (pc := 149) C 4 [1, 2, 3, 4, 0, 5] [(0, .ref mA), (1, .ref ra), (2, .int (nI gone)), (3, .int (nI most)), (4, .int (nI (ca + 1))), (5, .int (nI (MS u π ca + mv (bfm u ca) q)))] rfl (by decide) rfl dX5_hasPlan_149 ?_
                            refine r_goto (pc := 152) (tgt := 30) C dX5_hasPlan_152 (by decide) ?_
                            obtain ⟨R2, hR2, hq2⟩ := hpa_adv hA (by omega) hCn c95 c135 ((ft_ok (by rw [va_up_self]; have := hA.2.1; omega)).mp h10)
                            exact ih30 (nI (ca + 1)) (upd pl2 ca (nI q)) (MS u π ca + mv (bfm u ca) q) R2 hq2 (by omega)
                          · refine r_zeqN (pc := 146) (tgt := 30) C (by first | omega | (have := hA.1; have := hA.2.1; omega) | (have := hA.2.2.2.2.2.2.2.1; have := mv_le (bfm u ca) q; omega)) dX5_hasPlan_146 (by decide) (fun _ => ?_) (fun h => absurd h (by decide))
                            obtain ⟨R2, hR2, hq2⟩ := hpa_next hA (by omega) c95 (Or.inr (fun g => h10 ((ft_ok (by rw [va_up_self]; have := hA.2.1; omega)).mpr g)))
                            exact ih30 (nI ca) (upd pl2 ca (nI q)) (MS u π ca + mv (bfm u ca) q) R2 hq2 (by omega)
                    · refine r_aln (pc := 98) C 0 rfl dX5_hasPlan_98 ?_
                      refine r_get (pc := 99) C iX5_hasPlan_X5 0 rfl rfl 13 (by decide) (mw 1 rfl) rfl rfl dX5_hasPlan_99 ?_
                      refine r_il (pc := 102) C 4 rfl dX5_hasPlan_102 ?_
                      refine r_ic (pc := 104) (v := (-1)) C rfl dX5_hasPlan_104 ?_
                      refine r_iasI (pc := 105) (ws2 := [(mA, cMo mref mscr msz mspot mgood mleft mread mnow mtri mdia macts mkept misk qp), (qp, aI (cT 0) 16 (upd (upd pl2 ca (nI q)) ca (-1))), (ra, aI (cT 0) 104 f)]) C 1 rfl (by first | omega | (have := hA.1; have := hA.2.1; omega) | (have := hA.2.2.2.2.2.2.2.1; have := mv_le (bfm u ca) q; omega)) (by decide) rfl dX5_hasPlan_105 ?_
                      refine r_inc (pc := 106) C 4 [1, 2, 3, 4, 0, 5] [(0, .ref mA), (1, .ref ra), (2, .int (nI gone)), (3, .int (nI most)), (4, .int (nI ca + (-1))), (5, .int (nI (MS u π ca)))] rfl (congrArg (nI ca + ·) (by decide)) (by decide) rfl dX5_hasPlan_106 ?_
                      refine r_goto (pc := 109) (tgt := 30) C dX5_hasPlan_109 (by decide) ?_
                      obtain ⟨R2, hR2, hq2⟩ := hpa_ex hA (by omega) c95 hCn
                      exact ih30 (nI ca + (-1)) (upd (upd pl2 ca (nI q)) ca (-1)) (MS u π ca) R2 hq2 (by omega)
        refine r_lv [0, 1, 2, 3, 4, 5] (lv2 := [(0, .ref mA), (1, .ref ra), (2, .int (nI gone)), (3, .int (nI most)), (4, .int (nI 0)), (5, .int (nI 0))]) rfl ?_
        exact L30 _ (nI 0) pl1 0 (MEA u 0 0 (fun _ => 0)) (hpi_0 hCn (fun d hd => hq1 d (by omega))) (Nat.lt_succ_self _)
      · refine r_aln (pc := 16) C 0 rfl dX5_hasPlan_16 ?_
        refine r_get (pc := 17) C iX5_hasPlan_X5 0 rfl rfl 13 (by decide) (mw 1 rfl) rfl rfl dX5_hasPlan_17 ?_
        refine r_il (pc := 20) C 6 rfl dX5_hasPlan_20 ?_
        refine r_ic (pc := 22) (v := (-1)) C rfl dX5_hasPlan_22 ?_
        refine r_iasI (pc := 23) (ws2 := [(mA, cMo mref mscr msz mspot mgood mleft mread mnow mtri mdia macts mkept misk qp), (qp, aI (cT 0) 16 (upd pl1 k (-1))), (ra, aI (cT 0) 104 f)]) C 1 rfl (by first | omega | (have := hA.1; have := hA.2.1; omega) | (have := hA.2.2.2.2.2.2.2.1; have := mv_le (bfm u ca) q; omega)) (by decide) rfl dX5_hasPlan_23 ?_
        refine r_incN (pc := 24) C 6 [1, 2, 3, 4, 5, 6, 0] [(0, .ref mA), (1, .ref ra), (2, .int (nI gone)), (3, .int (nI most)), (4, .int (nI 0)), (5, .int (nI 0)), (6, .int (nI (k + 1)))] rfl (by decide) rfl dX5_hasPlan_24 ?_
        refine r_goto (pc := 27) (tgt := 9) C dX5_hasPlan_27 (by decide) ?_
        exact ih9 (k + 1) (upd pl1 k (-1)) (by omega) (fun d hd => by rcases Nat.lt_succ_iff_lt_or_eq.mp hd with g | g; rw [pk_un (by omega)]; exact hq1 d g; subst g; exact pk_us) (by omega)
  exact L9 _ 0 pl (Nat.zero_le _) (fun d hd => absurd hd (Nat.not_lt_zero _)) (Nat.lt_succ_self _)

abbrev rmX5_best : Room := { frames := 5, cells := 0, slots := 0, locals := 118 }
theorem n_X5_best : yX5_best.cls = RX5 ∧ yX5_best.cls ≠ "java/lang/invoke/MethodHandle" ∧ yX5_best.cls ≠ "java/lang/invoke/VarHandle" ∧ (parseMethodDescriptor yX5_best.desc).map (fun d => d.parameters.length) = some 3 := by decide +kernel
set_option maxHeartbeats 4000000 in
set_option maxRecDepth 100000 in
theorem k_X5_best (l : Launch) (D : va_G) (cT : Nat → ClassId) (mA mref mscr msz mspot mgood mleft mread mnow mtri mdia macts mkept misk qp : Nat) (pl : Nat → Int32) (ra : Nat) (f : Nat → Int32) (gone most : Nat) (u : SS) (hR : RowQ f u) (hB : BDq u) (hg : gone < 16) (hmo : most ≤ 16) : MWi (S := (Nat → Int32)) l D cT yX5_best wsX5_best rmX5_best [.ref mA, .ref ra, .int (nI gone), .int (nI most)] [(mA, cMo mref mscr msz mspot mgood mleft mread mnow mtri mdia macts mkept misk qp), (qp, aI (cT 0) 16 pl), (ra, aI (cT 0) 104 f)] (fun r w9 => PlanR u.cnt (alm u gone) (frm u) (tom u) (bfm u) most r w9) (fun w9 => [(mA, cMo mref mscr msz mspot mgood mleft mread mnow mtri mdia macts mkept misk qp), (qp, aI (cT 0) 16 w9), (ra, aI (cT 0) 104 f)]) 0 0 := by
  refine m_Wi [(0, .ref mA), (1, .ref ra), (2, .int (nI gone)), (3, .int (nI most))] (by decide +kernel) rfl (Nat.le_of_ble_eq_true rfl) rfl ?_
  intro p e s m args below meth c A hAe C hA hr hk hnm_
  generalize hQ : MQ below (va_Qi _ _ A) args s 0 0 A = Q
  obtain ⟨hF, hW, hM, hL, hPa, hBr, hCn, hFL, hE⟩ := id hB
  refine r_ic (pc := 0) (v := nI 0) C rfl dX5_best_0 ?_
  refine r_is (pc := 1) C [1, 2, 3, 4, 0] [(0, .ref mA), (1, .ref ra), (2, .int (nI gone)), (3, .int (nI most)), (4, .int (nI 0))] (by decide) rfl dX5_best_1 ?_
  have L3 : ∀ (n3 : Nat) (mo : Nat) (pl1 : Nat → Int32) (hm : mo ≤ most + 1) (hq : BSq u gone mo), most + 1 - mo < n3 → RW p l e (headSpec wsX5_best rmX5_best).room s m args below meth c (IW s D A) 5 0 0 Q [(mA, cMo mref mscr msz mspot mgood mleft mread mnow mtri mdia macts mkept misk qp), (qp, aI (cT 0) 16 pl1), (ra, aI (cT 0) 104 f)] 3 [(0, .ref mA), (1, .ref ra), (2, .int (nI gone)), (3, .int (nI most)), (4, .int (nI mo))] [] := by
    intro n3
    induction n3 with
    | zero => intro mo pl1 hm hq hn3; exact absurd hn3 (Nat.not_lt_zero _)
    | succ n3 ih3 =>
      intro mo pl1 hm hq hn3
      refine r_il (pc := 3) C 4 rfl dX5_best_3 ?_
      refine r_iln (pc := 5) C 3 rfl dX5_best_5 ?_
      refine r_cgtN (pc := 6) (tgt := 29) C (by omega) (by omega) dX5_best_6 (by decide) (fun c6 => ?_) (fun c6 => ?_)
      · refine r_ic (pc := 29) (v := (-1)) C rfl dX5_best_29 ?_
        subst hQ
        exact e_iW C hr hk (Nat.le_refl _) (Nat.le_refl _) pl1 rfl (Or.inl ⟨rfl, fun π hV => Nat.lt_of_lt_of_le (by omega) (hq π hV)⟩) dX5_best_30
      · refine r_aln (pc := 9) C 0 rfl dX5_best_9 ?_
        refine r_aln (pc := 10) C 1 rfl dX5_best_10 ?_
        refine r_iln (pc := 11) C 2 rfl dX5_best_11 ?_
        refine r_il (pc := 12) C 4 rfl dX5_best_12 ?_
        refine c_WVi (pc := 14) (As := [.ref ra, .int (nI gone), .int (nI mo)]) (wc := [(mA, cMo mref mscr msz mspot mgood mleft mread mnow mtri mdia macts mkept misk qp), (qp, aI (cT 0) 16 pl1), (ra, aI (cT 0) 104 f)]) (wr := []) (qr := 0) C hA (k_X5_hasPlan l D cT mA mref mscr msz mspot mgood mleft mread mnow mtri mdia macts mkept misk qp pl1 ra f gone mo u hR hB hg (by omega)) (cwV 3 C.1.2.2.2.2 gX5_best_X5_hasPlan rfl rfl rfl n_X5_hasPlan ⟨Nat.le_of_ble_eq_true rfl, Nat.le_of_ble_eq_true rfl⟩) rfl rfl [0, 1, 2] [] rfl rfl ⟨by decide, by decide⟩ (by decide) [0, 1, 2] (fun u2 => [(mA, cMo mref mscr msz mspot mgood mleft mread mnow mtri mdia macts mkept misk qp), (qp, aI (cT 0) 16 u2), (ra, aI (cT 0) 104 f)]) (fun _ => rfl) (by decide) rfl rfl (Nat.le_of_ble_eq_true rfl) ⟨Nat.zero_le _, Nat.zero_le _⟩ dX5_best_14 (fun r14 u2 h1 => ?_)
        have h1h := h1
        rcases h1 with ⟨rfl, h1⟩ | ⟨rfl, h1⟩
        · refine r_zeqN (pc := 17) (tgt := 23) C (by omega) dX5_best_17 (by decide) (fun h => absurd h (by decide)) (fun _ => ?_)
          refine r_il (pc := 20) C 4 rfl dX5_best_20 ?_
          subst hQ
          exact e_iW C hr hk (Nat.le_refl _) (Nat.le_refl _) u2 rfl (bs_hit hq (by omega) h1h rfl) dX5_best_22
        · refine r_zeqN (pc := 17) (tgt := 23) C (by omega) dX5_best_17 (by decide) (fun _ => ?_) (fun h => absurd h (by decide))
          refine r_incN (pc := 23) C 4 [1, 2, 3, 4, 0] [(0, .ref mA), (1, .ref ra), (2, .int (nI gone)), (3, .int (nI most)), (4, .int (nI (mo + 1)))] rfl (by decide) rfl dX5_best_23 ?_
          refine r_goto (pc := 26) (tgt := 3) C dX5_best_26 (by decide) ?_
          exact ih3 (mo + 1) u2 (by omega) (bs_no h1) (by omega)
  exact L3 _ 0 pl (Nat.zero_le _) (fun ρ _ => Nat.zero_le _) (Nat.lt_succ_self _)

abbrev rmX5_copy : Room := { frames := 0, cells := 0, slots := 0, locals := 0 }
theorem n_X5_copy : yX5_copy.cls ≠ "java/lang/invoke/MethodHandle" ∧ yX5_copy.cls ≠ "java/lang/invoke/VarHandle" ∧ (parseMethodDescriptor yX5_copy.desc).map (fun d => d.parameters.length) = some 5 := by decide +kernel
set_option maxHeartbeats 4000000 in
set_option maxRecDepth 100000 in
theorem k_X5_copy (l : Launch) (D : va_G) (cT : Nat → ClassId) (fa NF : Nat) (ff : Nat → Int32) (ta NT : Nat) (gg : Nat → Int32) (fi ti many : Nat) (hN : NF < 2147483648 ∧ NT < 2147483648) (h1 : fi + many ≤ NF) (h2 : ti + many ≤ NT) : MWv (S := (Nat → Int32)) l D cT yX5_copy wsX5_copy rmX5_copy [.ref fa, .int (nI fi), .ref ta, .int (nI ti), .int (nI many)] [(fa, aI (cT 0) NF ff), (ta, aI (cT 0) NT gg)] (fun w9 => w9 = cpF ff gg fi ti many) (fun w9 => [(fa, aI (cT 0) NF ff), (ta, aI (cT 0) NT w9)]) 0 0 := by
  refine m_Wv [(0, .ref fa), (1, .int (nI fi)), (2, .ref ta), (3, .int (nI ti)), (4, .int (nI many))] (by decide +kernel) rfl (Nat.le_of_ble_eq_true rfl) rfl ?_
  intro p e s m args below meth c A hAe C hA hr hk hnm_
  generalize hQ : MQ below (va_Qv _ _ A) args s 0 0 A = Q
  refine r_ic (pc := 0) (v := nI 0) C rfl dX5_copy_0 ?_
  refine r_is (pc := 1) C [1, 2, 3, 4, 5, 0] [(0, .ref fa), (1, .int (nI fi)), (2, .ref ta), (3, .int (nI ti)), (4, .int (nI many)), (5, .int (nI 0))] (by decide) rfl dX5_copy_1 ?_
  have L3 : ∀ (n3 : Nat) (k : Nat) (g1 : Nat → Int32) (hkk : k ≤ many) (hq : g1 = cpF ff gg fi ti k), many - k < n3 → RW p l e (headSpec wsX5_copy rmX5_copy).room s m args below meth c (IW s D A) 6 0 0 Q [(fa, aI (cT 0) NF ff), (ta, aI (cT 0) NT g1)] 3 [(0, .ref fa), (1, .int (nI fi)), (2, .ref ta), (3, .int (nI ti)), (4, .int (nI many)), (5, .int (nI k))] [] := by
    intro n3
    induction n3 with
    | zero => intro k g1 hkk hq hn3; exact absurd hn3 (Nat.not_lt_zero _)
    | succ n3 ih3 =>
      intro k g1 hkk hq hn3
      refine r_il (pc := 3) C 5 rfl dX5_copy_3 ?_
      refine r_il (pc := 5) C 4 rfl dX5_copy_5 ?_
      refine r_cgeN (pc := 7) (tgt := 28) C (by omega) (by omega) dX5_copy_7 (by decide) (fun c7 => ?_) (fun c7 => ?_)
      · subst hQ
        exact e_vW C hr hk (Nat.le_refl _) (Nat.le_refl _) g1 rfl (hq.trans (congrArg (cpF ff gg fi ti) (by omega))) dX5_copy_28
      · refine r_aln (pc := 10) C 2 rfl dX5_copy_10 ?_
        refine r_iln (pc := 11) C 3 rfl dX5_copy_11 ?_
        refine r_il (pc := 12) C 5 rfl dX5_copy_12 ?_
        refine r_iaddN (pc := 14) C dX5_copy_14 ?_
        refine r_aln (pc := 15) C 0 rfl dX5_copy_15 ?_
        refine r_iln (pc := 16) C 1 rfl dX5_copy_16 ?_
        refine r_il (pc := 17) C 5 rfl dX5_copy_17 ?_
        refine r_iaddN (pc := 19) C dX5_copy_19 ?_
        refine r_ialI (pc := 20) C 0 rfl (by omega) (by omega) dX5_copy_20 ?_
        refine r_iasI (pc := 21) (ws2 := [(fa, aI (cT 0) NF ff), (ta, aI (cT 0) NT (upd g1 (ti + k) (ff (fi + k))))]) C 1 rfl (by omega) (by omega) rfl dX5_copy_21 ?_
        refine r_incN (pc := 22) C 5 [1, 2, 3, 4, 5, 0] [(0, .ref fa), (1, .int (nI fi)), (2, .ref ta), (3, .int (nI ti)), (4, .int (nI many)), (5, .int (nI (k + 1)))] rfl (by decide) rfl dX5_copy_22 ?_
        refine r_goto (pc := 25) (tgt := 3) C dX5_copy_25 (by decide) ?_
        exact ih3 (k + 1) (upd g1 (ti + k) (ff (fi + k))) (by omega) (by rw [hq]; exact cp_step) (by omega)
  exact L3 _ 0 gg (Nat.zero_le _) cp_0 (Nat.lt_succ_self _)

abbrev rmX5_copy_s : Room := { frames := 0, cells := 0, slots := 0, locals := 0 }
set_option maxHeartbeats 4000000 in
set_option maxRecDepth 100000 in
theorem k_X5_copy_s (l : Launch) (D : va_G) (cT : Nat → ClassId) (fa NF : Nat) (ff : Nat → Int32) (fi ti many : Nat) (hN : NF < 2147483648) (h1 : fi + many ≤ NF) (h2 : ti ≤ fi) : MWv (S := (Nat → Int32)) l D cT yX5_copy wsX5_copy rmX5_copy_s [.ref fa, .int (nI fi), .ref fa, .int (nI ti), .int (nI many)] [(fa, aI (cT 0) NF ff)] (fun w9 => w9 = cpF ff ff fi ti many) (fun w9 => [(fa, aI (cT 0) NF w9)]) 0 0 := by
  refine m_Wv [(0, .ref fa), (1, .int (nI fi)), (2, .ref fa), (3, .int (nI ti)), (4, .int (nI many))] (by decide +kernel) rfl (Nat.le_of_ble_eq_true rfl) rfl ?_
  intro p e s m args below meth c A hAe C hA hr hk hnm_
  generalize hQ : MQ below (va_Qv _ _ A) args s 0 0 A = Q
  refine r_ic (pc := 0) (v := nI 0) C rfl dX5_copy_0 ?_
  refine r_is (pc := 1) C [1, 2, 3, 4, 5, 0] [(0, .ref fa), (1, .int (nI fi)), (2, .ref fa), (3, .int (nI ti)), (4, .int (nI many)), (5, .int (nI 0))] (by decide) rfl dX5_copy_1 ?_
  have L3 : ∀ (n3 : Nat) (k : Nat) (g1 : Nat → Int32) (hkk : k ≤ many) (hq : g1 = cpF ff ff fi ti k), many - k < n3 → RW p l e (headSpec wsX5_copy rmX5_copy_s).room s m args below meth c (IW s D A) 6 0 0 Q [(fa, aI (cT 0) NF g1)] 3 [(0, .ref fa), (1, .int (nI fi)), (2, .ref fa), (3, .int (nI ti)), (4, .int (nI many)), (5, .int (nI k))] [] := by
    intro n3
    induction n3 with
    | zero => intro k g1 hkk hq hn3; exact absurd hn3 (Nat.not_lt_zero _)
    | succ n3 ih3 =>
      intro k g1 hkk hq hn3
      refine r_il (pc := 3) C 5 rfl dX5_copy_3 ?_
      refine r_il (pc := 5) C 4 rfl dX5_copy_5 ?_
      refine r_cgeN (pc := 7) (tgt := 28) C (by omega) (by omega) dX5_copy_7 (by decide) (fun c7 => ?_) (fun c7 => ?_)
      · subst hQ
        exact e_vW C hr hk (Nat.le_refl _) (Nat.le_refl _) g1 rfl (hq.trans (congrArg (cpF ff ff fi ti) (by omega))) dX5_copy_28
      · refine r_aln (pc := 10) C 2 rfl dX5_copy_10 ?_
        refine r_iln (pc := 11) C 3 rfl dX5_copy_11 ?_
        refine r_il (pc := 12) C 5 rfl dX5_copy_12 ?_
        refine r_iaddN (pc := 14) C dX5_copy_14 ?_
        refine r_aln (pc := 15) C 0 rfl dX5_copy_15 ?_
        refine r_iln (pc := 16) C 1 rfl dX5_copy_16 ?_
        refine r_il (pc := 17) C 5 rfl dX5_copy_17 ?_
        refine r_iaddN (pc := 19) C dX5_copy_19 ?_
        refine r_ialI (pc := 20) C 0 rfl (by omega) (by omega) dX5_copy_20 ?_
        refine r_iasI (pc := 21) (ws2 := [(fa, aI (cT 0) NF (upd g1 (ti + k) (g1 (fi + k))))]) C 0 rfl (by omega) (by omega) rfl dX5_copy_21 ?_
        refine r_incN (pc := 22) C 5 [1, 2, 3, 4, 5, 0] [(0, .ref fa), (1, .int (nI fi)), (2, .ref fa), (3, .int (nI ti)), (4, .int (nI many)), (5, .int (nI (k + 1)))] rfl (by decide) rfl dX5_copy_22 ?_
        refine r_goto (pc := 25) (tgt := 3) C dX5_copy_25 (by decide) ?_
        exact ih3 (k + 1) (upd g1 (ti + k) (g1 (fi + k))) (by omega) (by rw [hq, cp_at h2]; exact cp_step) (by omega)
  exact L3 _ 0 ff (Nat.zero_le _) cp_0 (Nat.lt_succ_self _)

abbrev rmX5_clean : Room := { frames := 0, cells := 0, slots := 0, locals := 0 }
theorem n_X5_clean : yX5_clean.cls ≠ "java/lang/invoke/MethodHandle" ∧ yX5_clean.cls ≠ "java/lang/invoke/VarHandle" ∧ (parseMethodDescriptor yX5_clean.desc).map (fun d => d.parameters.length) = some 5 := by decide +kernel
set_option maxHeartbeats 4000000 in
set_option maxRecDepth 100000 in
theorem k_X5_clean (l : Launch) (D : va_G) (cT : Nat → ClassId) (ra : Nat) (f : Nat → Int32) (fb wb mb lb : Nat)  : MWv (S := (Nat → Int32)) l D cT yX5_clean wsX5_clean rmX5_clean [.ref ra, .int (nI fb), .int (nI wb), .int (nI mb), .int (nI lb)] [(ra, aI (cT 0) 104 f)] (fun w9 => RowQ w9 (newS fb wb mb lb)) (fun w9 => [(ra, aI (cT 0) 104 w9)]) 0 0 := by
  refine m_Wv [(0, .ref ra), (1, .int (nI fb)), (2, .int (nI wb)), (3, .int (nI mb)), (4, .int (nI lb))] (by decide +kernel) rfl (Nat.le_of_ble_eq_true rfl) rfl ?_
  intro p e s m args below meth c A hAe C hA hr hk hnm_
  generalize hQ : MQ below (va_Qv _ _ A) args s 0 0 A = Q
  refine r_ic (pc := 0) (v := nI 0) C rfl dX5_clean_0 ?_
  refine r_is (pc := 1) C [1, 2, 3, 4, 5, 0] [(0, .ref ra), (1, .int (nI fb)), (2, .int (nI wb)), (3, .int (nI mb)), (4, .int (nI lb)), (5, .int (nI 0))] (by decide) rfl dX5_clean_1 ?_
  have L3 : ∀ (n3 : Nat) (k : Nat) (f1 : Nat → Int32) (hkk : k ≤ 104) (hq : ∀ d, d < k → f1 d = nI 0), 104 - k < n3 → RW p l e (headSpec wsX5_clean rmX5_clean).room s m args below meth c (IW s D A) 6 0 0 Q [(ra, aI (cT 0) 104 f1)] 3 [(0, .ref ra), (1, .int (nI fb)), (2, .int (nI wb)), (3, .int (nI mb)), (4, .int (nI lb)), (5, .int (nI k))] [] := by
    intro n3
    induction n3 with
    | zero => intro k f1 hkk hq hn3; exact absurd hn3 (Nat.not_lt_zero _)
    | succ n3 ih3 =>
      intro k f1 hkk hq hn3
      refine r_il (pc := 3) C 5 rfl dX5_clean_3 ?_
      refine r_bi (pc := 5) (v := nI 104) C rfl dX5_clean_5 ?_
      refine r_cgeN (pc := 7) (tgt := 21) C (by omega) (by omega) dX5_clean_7 (by decide) (fun c7 => ?_) (fun c7 => ?_)
      · refine r_aln (pc := 21) C 0 rfl dX5_clean_21 ?_
        refine r_ic (pc := 22) (v := nI 0) C rfl dX5_clean_22 ?_
        refine r_iln (pc := 23) C 1 rfl dX5_clean_23 ?_
        refine r_iasI (pc := 24) (ws2 := [(ra, aI (cT 0) 104 (upd f1 0 (nI fb)))]) C 0 rfl (by omega) (by decide) rfl dX5_clean_24 ?_
        refine r_aln (pc := 25) C 0 rfl dX5_clean_25 ?_
        refine r_ic (pc := 26) (v := nI 1) C rfl dX5_clean_26 ?_
        refine r_iln (pc := 27) C 2 rfl dX5_clean_27 ?_
        refine r_iasI (pc := 28) (ws2 := [(ra, aI (cT 0) 104 (upd (upd f1 0 (nI fb)) 1 (nI wb)))]) C 0 rfl (by omega) (by decide) rfl dX5_clean_28 ?_
        refine r_aln (pc := 29) C 0 rfl dX5_clean_29 ?_
        refine r_ic (pc := 30) (v := nI 2) C rfl dX5_clean_30 ?_
        refine r_iln (pc := 31) C 3 rfl dX5_clean_31 ?_
        refine r_iasI (pc := 32) (ws2 := [(ra, aI (cT 0) 104 (upd (upd (upd f1 0 (nI fb)) 1 (nI wb)) 2 (nI mb)))]) C 0 rfl (by omega) (by decide) rfl dX5_clean_32 ?_
        refine r_aln (pc := 33) C 0 rfl dX5_clean_33 ?_
        refine r_ic (pc := 34) (v := nI 3) C rfl dX5_clean_34 ?_
        refine r_il (pc := 35) C 4 rfl dX5_clean_35 ?_
        refine r_iasI (pc := 37) (ws2 := [(ra, aI (cT 0) 104 (upd (upd (upd (upd f1 0 (nI fb)) 1 (nI wb)) 2 (nI mb)) 3 (nI lb)))]) C 0 rfl (by omega) (by decide) rfl dX5_clean_37 ?_
        refine r_aln (pc := 38) C 0 rfl dX5_clean_38 ?_
        refine r_ic (pc := 39) (v := nI 5) C rfl dX5_clean_39 ?_
        refine r_ic (pc := 40) (v := nI 2) C rfl dX5_clean_40 ?_
        refine r_iasI (pc := 41) (ws2 := [(ra, aI (cT 0) 104 (upd (upd (upd (upd (upd f1 0 (nI fb)) 1 (nI wb)) 2 (nI mb)) 3 (nI lb)) 5 (nI 2)))]) C 0 rfl (by omega) (by decide) rfl dX5_clean_41 ?_
        subst hQ
        exact e_vW C hr hk (Nat.le_refl _) (Nat.le_refl _) (upd (upd (upd (upd (upd f1 0 (nI fb)) 1 (nI wb)) 2 (nI mb)) 3 (nI lb)) 5 (nI 2)) rfl (rq_clean (fun k hk => hq k (by omega))) dX5_clean_42
      · refine r_aln (pc := 10) C 0 rfl dX5_clean_10 ?_
        refine r_il (pc := 11) C 5 rfl dX5_clean_11 ?_
        refine r_ic (pc := 13) (v := nI 0) C rfl dX5_clean_13 ?_
        refine r_iasI (pc := 14) (ws2 := [(ra, aI (cT 0) 104 (upd f1 k (nI 0)))]) C 0 rfl (by omega) (by decide) rfl dX5_clean_14 ?_
        refine r_incN (pc := 15) C 5 [1, 2, 3, 4, 5, 0] [(0, .ref ra), (1, .int (nI fb)), (2, .int (nI wb)), (3, .int (nI mb)), (4, .int (nI lb)), (5, .int (nI (k + 1)))] rfl (by decide) rfl dX5_clean_15 ?_
        refine r_goto (pc := 18) (tgt := 3) C dX5_clean_18 (by decide) ?_
        exact ih3 (k + 1) (upd f1 k (nI 0)) (by omega) (fun d hd => by rcases Nat.lt_succ_iff_lt_or_eq.mp hd with g | g; rw [pk_un (by omega)]; exact hq d g; subst g; exact pk_us) (by omega)
  exact L3 _ 0 f (Nat.zero_le _) (fun d hd => absurd hd (Nat.not_lt_zero _)) (Nat.lt_succ_self _)

abbrev rmX5_in : Room := { frames := 0, cells := 0, slots := 0, locals := 0 }
theorem n_X5_in : yX5_in.cls ≠ "java/lang/invoke/MethodHandle" ∧ yX5_in.cls ≠ "java/lang/invoke/VarHandle" ∧ (parseMethodDescriptor yX5_in.desc).map (fun d => d.parameters.length) = some 3 := by decide +kernel
set_option maxHeartbeats 4000000 in
set_option maxRecDepth 100000 in
theorem k_X5_in (l : Launch) (D : va_G) (cT : Nat → ClassId) (v lo hi : Int64)  : MR l D cT yX5_in wsX5_in rmX5_in [.long v, .long lo, .long hi] [] (fun r => (r = nI 1 ∧ InQ v lo hi) ∨ (r = nI 0 ∧ ¬ InQ v lo hi)) := by
  refine m_R [(0, .long v), (2, .long lo), (4, .long hi)] (by decide +kernel) rfl (Nat.le_of_ble_eq_true rfl) rfl ?_
  intro p e s m args below meth c C hr hk
  generalize hQ : MQ below (vp_Si _) args s 0 0 (fun _ => False) = Q
  refine r_lln (pc := 0) C 0 rfl dX5_in_0 ?_
  refine r_lln (pc := 1) C 1 rfl dX5_in_1 ?_
  refine r_lcmp (pc := 2) C dX5_in_2 ?_
  refine r_zlt (pc := 3) (tgt := 17) C dX5_in_3 (by decide) (fun c3 => ?_) (fun c3 => ?_)
  · have c3b := Int64.lt_iff_toInt_lt.mp (lg_lt c3)
    refine r_ic (pc := 17) (v := nI 0) C rfl dX5_in_17 ?_
    subst hQ
    exact e_zR C hr hk rfl (Or.inr ⟨rfl, fun g => Int.not_lt.mpr g.1 c3b⟩) dX5_in_18
  · have c3b := fun g => lg_nlt c3 (Int64.lt_iff_toInt_lt.mpr g)
    refine r_lln (pc := 6) C 0 rfl dX5_in_6 ?_
    refine r_ll (pc := 7) C 2 rfl dX5_in_7 ?_
    refine r_lcmp (pc := 9) C dX5_in_9 ?_
    refine r_zgt (pc := 10) (tgt := 17) C dX5_in_10 (by decide) (fun c10 => ?_) (fun c10 => ?_)
    · have c10b := Int64.lt_iff_toInt_lt.mp (lg_gt c10)
      refine r_ic (pc := 17) (v := nI 0) C rfl dX5_in_17 ?_
      subst hQ
      exact e_zR C hr hk rfl (Or.inr ⟨rfl, fun g => Int.not_lt.mpr g.2 c10b⟩) dX5_in_18
    · have c10b := fun g => lg_ngt c10 (Int64.lt_iff_toInt_lt.mpr g)
      refine r_ic (pc := 13) (v := nI 1) C rfl dX5_in_13 ?_
      refine r_goto (pc := 14) (tgt := 18) C dX5_in_14 (by decide) ?_
      subst hQ
      exact e_zR C hr hk rfl (Or.inl ⟨rfl, Int.not_lt.mp c3b, Int.not_lt.mp c10b⟩) dX5_in_18

theorem iX5_refused_X5 : ∀ w ∈ u_ws RX5 TX5 14, w ∈ wsX5_refused := by decide +kernel
abbrev rmX5_refused : Room := { frames := 0, cells := 0, slots := 0, locals := 0 }
theorem n_X5_refused : yX5_refused.cls = RX5 ∧ yX5_refused.cls ≠ "java/lang/invoke/MethodHandle" ∧ yX5_refused.cls ≠ "java/lang/invoke/VarHandle" ∧ (parseMethodDescriptor yX5_refused.desc).map (fun d => d.parameters.length) = some 1 := by decide +kernel
set_option maxHeartbeats 4000000 in
set_option maxRecDepth 100000 in
theorem k_X5_refused (l : Launch) (D : va_G) (cT : Nat → ClassId) (mA mref mscr msz mspot mgood mleft mread mnow mtri mdia macts mkept misk qp w : Nat) (hw : w < 3) : MWi (S := Nat) l D cT yX5_refused wsX5_refused rmX5_refused [.ref mA, .int (nI w)] [(mA, cMo mref mscr msz mspot mgood mleft mread mnow mtri mdia macts mkept misk qp)] (fun r w9 => r = (if w = 0 then nI 0 else nI 1) ∧ w9 = w) (fun w9 => [(mA, cMo w9 mscr msz mspot mgood mleft mread mnow mtri mdia macts mkept misk qp)]) 0 0 := by
  refine m_Wi [(0, .ref mA), (1, .int (nI w))] (by decide +kernel) rfl (Nat.le_of_ble_eq_true rfl) rfl ?_
  intro p e s m args below meth c A hAe C hA hr hk hnm_
  generalize hQ : MQ below (va_Qi _ _ A) args s 0 0 A = Q
  refine r_aln (pc := 0) C 0 rfl dX5_refused_0 ?_
  refine r_iln (pc := 1) C 1 rfl dX5_refused_1 ?_
  refine r_put (pc := 2) (ws2 := [(mA, cMo w mscr msz mspot mgood mleft mread mnow mtri mdia macts mkept misk qp)]) C iX5_refused_X5 tyX5_ok nmX5 0 rfl rfl 0 (by decide) (mw 1 rfl) rfl rfl rfl rfl (Nat.le_of_ble_eq_true rfl) rfl dX5_refused_2 ?_
  refine r_iln (pc := 5) C 1 rfl dX5_refused_5 ?_
  refine r_zleN (pc := 6) (tgt := 13) C (by omega) dX5_refused_6 (by decide) (fun c6 => ?_) (fun c6 => ?_)
  · refine r_ic (pc := 13) (v := nI 0) C rfl dX5_refused_13 ?_
    subst hQ
    exact e_zW C hr hk rfl (Nat.le_refl _) (Nat.le_refl _) w rfl (⟨(if_pos c6).symm, rfl⟩) dX5_refused_14
  · refine r_ic (pc := 9) (v := nI 1) C rfl dX5_refused_9 ?_
    refine r_goto (pc := 10) (tgt := 14) C dX5_refused_10 (by decide) ?_
    subst hQ
    exact e_zW C hr hk rfl (Nat.le_refl _) (Nat.le_refl _) w rfl (⟨(if_neg (by omega)).symm, rfl⟩) dX5_refused_14

abbrev rmX5_tenTo : Room := { frames := 0, cells := 0, slots := 0, locals := 0 }
theorem n_X5_tenTo : yX5_tenTo.cls ≠ "java/lang/invoke/MethodHandle" ∧ yX5_tenTo.cls ≠ "java/lang/invoke/VarHandle" ∧ (parseMethodDescriptor yX5_tenTo.desc).map (fun d => d.parameters.length) = some 1 := by decide +kernel
set_option maxHeartbeats 4000000 in
set_option maxRecDepth 100000 in
theorem k_X5_tenTo (l : Launch) (D : va_G) (cT : Nat → ClassId) (many : Nat) (hm : many < 2147483648) : MRl l D cT yX5_tenTo wsX5_tenTo rmX5_tenTo [.int (nI many)] [] (fun r => r = jN (10 ^ many)) := by
  refine m_Rl [(0, .int (nI many))] (by decide +kernel) rfl (Nat.le_of_ble_eq_true rfl) rfl ?_
  intro p e s m args below meth c C hr hk
  generalize hQ : MQ below (vp_Sl _) args s 0 0 (fun _ => False) = Q
  refine r_lc (pc := 0) (v := 1) C rfl dX5_tenTo_0 ?_
  refine r_lsn (pc := 1) C [1, 0] [(0, .int (nI many)), (1, .long 1)] rfl (by decide) rfl dX5_tenTo_1 ?_
  refine r_ic (pc := 2) (v := nI 0) C rfl dX5_tenTo_2 ?_
  refine r_isn (pc := 3) C [1, 2, 0] [(0, .int (nI many)), (1, .long 1), (3, .int (nI 0))] rfl (by decide) rfl dX5_tenTo_3 ?_
  have L4 : ∀ (n4 : Nat) (k : Nat) (hkk : k ≤ many), many - k < n4 → RW p l e (headSpec wsX5_tenTo rmX5_tenTo).room s m args below meth c (IR s D) 4 0 0 Q [] 4 [(0, .int (nI many)), (1, .long (jN (10 ^ k))), (3, .int (nI k))] [] := by
    intro n4
    induction n4 with
    | zero => intro k hkk hn4; exact absurd hn4 (Nat.not_lt_zero _)
    | succ n4 ih4 =>
      intro k hkk hn4
      refine r_iln (pc := 4) C 2 rfl dX5_tenTo_4 ?_
      refine r_iln (pc := 5) C 0 rfl dX5_tenTo_5 ?_
      refine r_cgeN (pc := 6) (tgt := 21) C (by omega) (by omega) dX5_tenTo_6 (by decide) (fun c6 => ?_) (fun c6 => ?_)
      · refine r_lln (pc := 21) C 1 rfl dX5_tenTo_21 ?_
        subst hQ
        exact e_lR C hr hk (congrArg (fun k => jN (10 ^ k)) (by omega)) dX5_tenTo_22
      · refine r_lln (pc := 9) C 1 rfl dX5_tenTo_9 ?_
        refine r_lc2 (pc := 10) C (mw 1 rfl) dX5_tenTo_10 ?_
        refine r_lmul (pc := 13) C dX5_tenTo_13 ?_
        refine r_vl (y := jN (10 ^ (k + 1))) jN_mul10 ?_
        refine r_lsn (pc := 14) C [1, 0, 2] [(0, .int (nI many)), (1, .long (jN (10 ^ (k + 1)))), (3, .int (nI k))] rfl (by decide) rfl dX5_tenTo_14 ?_
        refine r_incN (pc := 15) C 2 [1, 2, 0] [(0, .int (nI many)), (1, .long (jN (10 ^ (k + 1)))), (3, .int (nI (k + 1)))] rfl (by decide) rfl dX5_tenTo_15 ?_
        refine r_goto (pc := 18) (tgt := 4) C dX5_tenTo_18 (by decide) ?_
        exact ih4 (k + 1) (by omega) (by omega)
  exact L4 _ 0 (Nat.zero_le _) (Nat.lt_succ_self _)

theorem iX5_tryIt_X5 : ∀ w ∈ u_ws RX5 TX5 14, w ∈ wsX5_tryIt := by decide +kernel
abbrev rmX5_tryIt : Room := { frames := 1, cells := 0, slots := 0, locals := 25 }
theorem n_X5_tryIt : yX5_tryIt.cls = RX5 ∧ yX5_tryIt.cls ≠ "java/lang/invoke/MethodHandle" ∧ yX5_tryIt.cls ≠ "java/lang/invoke/VarHandle" ∧ (parseMethodDescriptor yX5_tryIt.desc).map (fun d => d.parameters.length) = some 0 := by decide +kernel
set_option maxHeartbeats 4000000 in
set_option maxRecDepth 100000 in
theorem k_X5_tryIt (l : Launch) (D : va_G) (cT : Nat → ClassId) (mA mref mscr msz mspot mgood mleft mread mnow mtri mdia macts mkept misk qp : Nat) (f ft : Nat → Int32)  : MWv (S := (Nat → Int32)) l D cT yX5_tryIt wsX5_tryIt rmX5_tryIt [.ref mA] [(mA, cMo mref mscr msz mspot mgood mleft mread mnow mtri mdia macts mkept misk qp), (mnow, aI (cT 0) 104 f), (mtri, aI (cT 0) 104 ft)] (fun w9 => w9 = cpF f ft 0 0 104) (fun w9 => [(mA, cMo mref mscr msz mspot mgood mleft mread mnow mtri mdia macts mkept misk qp), (mnow, aI (cT 0) 104 f), (mtri, aI (cT 0) 104 w9)]) 0 0 := by
  refine m_Wv [(0, .ref mA)] (by decide +kernel) rfl (Nat.le_of_ble_eq_true rfl) rfl ?_
  intro p e s m args below meth c A hAe C hA hr hk hnm_
  generalize hQ : MQ below (va_Qv _ _ A) args s 0 0 A = Q
  refine r_aln (pc := 0) C 0 rfl dX5_tryIt_0 ?_
  refine r_get (pc := 1) C iX5_tryIt_X5 0 rfl rfl 7 (by decide) (mw 1 rfl) rfl rfl dX5_tryIt_1 ?_
  refine r_ic (pc := 4) (v := nI 0) C rfl dX5_tryIt_4 ?_
  refine r_aln (pc := 5) C 0 rfl dX5_tryIt_5 ?_
  refine r_get (pc := 6) C iX5_tryIt_X5 0 rfl rfl 8 (by decide) (mw 2 rfl) rfl rfl dX5_tryIt_6 ?_
  refine r_ic (pc := 9) (v := nI 0) C rfl dX5_tryIt_9 ?_
  refine r_bi (pc := 10) (v := nI 104) C rfl dX5_tryIt_10 ?_
  refine c_WSv (pc := 12) (As := [.ref mnow, .int (nI 0), .ref mtri, .int (nI 0), .int (nI 104)]) (wc := [(mnow, aI (cT 0) 104 f), (mtri, aI (cT 0) 104 ft)]) (wr := [(mA, cMo mref mscr msz mspot mgood mleft mread mnow mtri mdia macts mkept misk qp)])  C hA (k_X5_copy l D cT mnow 104 f mtri 104 ft 0 0 104 (⟨by decide, by decide⟩) (by decide) (by decide)) (va_cwS 5 C.1.2.2.2.2 gX5_tryIt_X5_copy rfl rfl rfl n_X5_copy ⟨Nat.le_of_ble_eq_true rfl, Nat.le_of_ble_eq_true rfl⟩) [1, 2] [0] rfl rfl ⟨by decide, by decide⟩ (by decide) [0, 1, 2] (fun u2 => [(mA, cMo mref mscr msz mspot mgood mleft mread mnow mtri mdia macts mkept misk qp), (mnow, aI (cT 0) 104 f), (mtri, aI (cT 0) 104 u2)]) (fun _ => rfl) (by decide) rfl rfl (Nat.le_of_ble_eq_true rfl) ⟨Nat.zero_le _, Nat.zero_le _⟩ dX5_tryIt_12 (fun u2 h1 => ?_)
  obtain ⟨m3, rfl⟩ : ∃ z, z = u2 := ⟨_, rfl⟩
  try dsimp only at h1
  subst h1
  subst hQ
  exact e_vW C hr hk (Nat.le_refl _) (Nat.le_refl _) (cpF f ft 0 0 104) rfl rfl dX5_tryIt_15

theorem iX5_remember_X5 : ∀ w ∈ u_ws RX5 TX5 14, w ∈ wsX5_remember := by decide +kernel
abbrev rmX5_remember : Room := { frames := 1, cells := 0, slots := 0, locals := 25 }
theorem n_X5_remember : yX5_remember.cls = RX5 ∧ yX5_remember.cls ≠ "java/lang/invoke/MethodHandle" ∧ yX5_remember.cls ≠ "java/lang/invoke/VarHandle" ∧ (parseMethodDescriptor yX5_remember.desc).map (fun d => d.parameters.length) = some 0 := by decide +kernel
set_option maxHeartbeats 4000000 in
set_option maxRecDepth 100000 in
theorem k_X5_remember (l : Launch) (D : va_G) (cT : Nat → ClassId) (mA mref mscr msz mspot mgood mleft mread mnow mtri mdia macts mkept misk qp : Nat) (f fd : Nat → Int32) (ha : macts ≤ 14) : MWv (S := Nat × (Nat → Int32)) l D cT yX5_remember wsX5_remember rmX5_remember [.ref mA] [(mA, cMo mref mscr msz mspot mgood mleft mread mnow mtri mdia macts mkept misk qp), (mnow, aI (cT 0) 104 f), (mdia, aI (cT 0) 1456 fd)] (fun w9 => (macts < 14 ∧ w9.1 = macts + 1 ∧ w9.2 = cpF f fd 0 (104 * macts) 104) ∨ (macts = 14 ∧ w9.1 = 14 ∧ w9.2 = cpF f (cpF fd fd 104 0 1352) 0 (104 * 13) 104)) (fun w9 => [(mA, cMo mref mscr msz mspot mgood mleft mread mnow mtri mdia w9.1 mkept misk qp), (mnow, aI (cT 0) 104 f), (mdia, aI (cT 0) 1456 w9.2)]) 0 0 := by
  refine m_Wv [(0, .ref mA)] (by decide +kernel) rfl (Nat.le_of_ble_eq_true rfl) rfl ?_
  intro p e s m args below meth c A hAe C hA hr hk hnm_
  generalize hQ : MQ below (va_Qv _ _ A) args s 0 0 A = Q
  refine r_aln (pc := 0) C 0 rfl dX5_remember_0 ?_
  refine r_get (pc := 1) C iX5_remember_X5 0 rfl rfl 10 (by decide) (mw 1 rfl) rfl rfl dX5_remember_1 ?_
  refine r_bi (pc := 4) (v := nI 14) C rfl dX5_remember_4 ?_
  refine r_cneN (pc := 6) (tgt := 36) C (by omega) (by omega) dX5_remember_6 (by decide) (fun c6 => ?_) (fun c6 => ?_)
  · refine r_aln (pc := 36) C 0 rfl dX5_remember_36 ?_
    refine r_get (pc := 37) C iX5_remember_X5 0 rfl rfl 7 (by decide) (mw 3 rfl) rfl rfl dX5_remember_37 ?_
    refine r_ic (pc := 40) (v := nI 0) C rfl dX5_remember_40 ?_
    refine r_aln (pc := 41) C 0 rfl dX5_remember_41 ?_
    refine r_get (pc := 42) C iX5_remember_X5 0 rfl rfl 9 (by decide) (mw 2 rfl) rfl rfl dX5_remember_42 ?_
    refine r_bi (pc := 45) (v := nI 104) C rfl dX5_remember_45 ?_
    refine r_aln (pc := 47) C 0 rfl dX5_remember_47 ?_
    refine r_get (pc := 48) C iX5_remember_X5 0 rfl rfl 10 (by decide) (mw 1 rfl) rfl rfl dX5_remember_48 ?_
    refine r_imulN (pc := 51) C dX5_remember_51 ?_
    refine r_bi (pc := 52) (v := nI 104) C rfl dX5_remember_52 ?_
    refine c_WSv (pc := 54) (As := [.ref mnow, .int (nI 0), .ref mdia, .int (nI (104 * macts)), .int (nI 104)]) (wc := [(mnow, aI (cT 0) 104 f), (mdia, aI (cT 0) 1456 fd)]) (wr := [(mA, cMo mref mscr msz mspot mgood mleft mread mnow mtri mdia macts mkept misk qp)])  C hA (k_X5_copy l D cT mnow 104 f mdia 1456 fd 0 (104 * macts) 104 (⟨by decide, by decide⟩) (by decide) (by omega)) (va_cwS 5 C.1.2.2.2.2 gX5_remember_X5_copy rfl rfl rfl n_X5_copy ⟨Nat.le_of_ble_eq_true rfl, Nat.le_of_ble_eq_true rfl⟩) [1, 2] [0] rfl rfl ⟨by decide, by decide⟩ (by decide) [0, 1, 2] (fun u2 => [(mA, cMo mref mscr msz mspot mgood mleft mread mnow mtri mdia macts mkept misk qp), (mnow, aI (cT 0) 104 f), (mdia, aI (cT 0) 1456 u2)]) (fun _ => rfl) (by decide) rfl rfl (Nat.le_of_ble_eq_true rfl) ⟨Nat.zero_le _, Nat.zero_le _⟩ dX5_remember_54 (fun u2 h1 => ?_)
    obtain ⟨m3, rfl⟩ : ∃ z, z = u2 := ⟨_, rfl⟩
    try dsimp only at h1
    subst h1
    refine r_aln (pc := 57) C 0 rfl dX5_remember_57 ?_
    refine r_dup (pc := 58) C rfl dX5_remember_58 ?_
    refine r_get (pc := 59) C iX5_remember_X5 0 rfl rfl 10 (by decide) (mw 1 rfl) rfl rfl dX5_remember_59 ?_
    refine r_ic (pc := 62) (v := nI 1) C rfl dX5_remember_62 ?_
    refine r_iaddN (pc := 63) C dX5_remember_63 ?_
    refine r_put (pc := 64) (ws2 := [(mA, cMo mref mscr msz mspot mgood mleft mread mnow mtri mdia (macts + 1) mkept misk qp), (mnow, aI (cT 0) 104 f), (mdia, aI (cT 0) 1456 (cpF f fd 0 (104 * macts) 104))]) C iX5_remember_X5 tyX5_ok nmX5 0 rfl rfl 10 (by decide) (mw 1 rfl) rfl rfl rfl rfl (Nat.le_of_ble_eq_true rfl) rfl dX5_remember_64 ?_
    subst hQ
    exact e_vW C hr hk (Nat.le_refl _) (Nat.le_refl _) ⟨macts + 1, cpF f fd 0 (104 * macts) 104⟩ rfl (Or.inl ⟨by omega, rfl, rfl⟩) dX5_remember_67
  · refine r_aln (pc := 9) C 0 rfl dX5_remember_9 ?_
    refine r_get (pc := 10) C iX5_remember_X5 0 rfl rfl 9 (by decide) (mw 2 rfl) rfl rfl dX5_remember_10 ?_
    refine r_bi (pc := 13) (v := nI 104) C rfl dX5_remember_13 ?_
    refine r_aln (pc := 15) C 0 rfl dX5_remember_15 ?_
    refine r_get (pc := 16) C iX5_remember_X5 0 rfl rfl 9 (by decide) (mw 2 rfl) rfl rfl dX5_remember_16 ?_
    refine r_ic (pc := 19) (v := nI 0) C rfl dX5_remember_19 ?_
    refine r_si (pc := 20) (v := nI 1352) C rfl dX5_remember_20 ?_
    refine c_WSv (pc := 23) (As := [.ref mdia, .int (nI 104), .ref mdia, .int (nI 0), .int (nI 1352)]) (wc := [(mdia, aI (cT 0) 1456 fd)]) (wr := [(mA, cMo mref mscr msz mspot mgood mleft mread mnow mtri mdia macts mkept misk qp), (mnow, aI (cT 0) 104 f)])  C hA (k_X5_copy_s l D cT mdia 1456 fd 104 0 1352 (by decide) (by decide) (by decide)) (va_cwS 5 C.1.2.2.2.2 gX5_remember_X5_copy rfl rfl rfl n_X5_copy ⟨Nat.le_of_ble_eq_true rfl, Nat.le_of_ble_eq_true rfl⟩) [2] [0, 1] rfl rfl ⟨by decide, by decide⟩ (by decide) [0, 1, 2] (fun u5 => [(mA, cMo mref mscr msz mspot mgood mleft mread mnow mtri mdia macts mkept misk qp), (mnow, aI (cT 0) 104 f), (mdia, aI (cT 0) 1456 u5)]) (fun _ => rfl) (by decide) rfl rfl (Nat.le_of_ble_eq_true rfl) ⟨Nat.zero_le _, Nat.zero_le _⟩ dX5_remember_23 (fun u5 h4 => ?_)
    obtain ⟨m6, rfl⟩ : ∃ z, z = u5 := ⟨_, rfl⟩
    try dsimp only at h4
    subst h4
    refine r_aln (pc := 26) C 0 rfl dX5_remember_26 ?_
    refine r_dup (pc := 27) C rfl dX5_remember_27 ?_
    refine r_get (pc := 28) C iX5_remember_X5 0 rfl rfl 10 (by decide) (mw 1 rfl) rfl rfl dX5_remember_28 ?_
    refine r_ic (pc := 31) (v := nI 1) C rfl dX5_remember_31 ?_
    refine r_isubN (pc := 32) C (by omega) dX5_remember_32 ?_
    refine r_v (y := nI 13) (congrArg nI (by omega)) ?_
    refine r_put (pc := 33) (ws2 := [(mA, cMo mref mscr msz mspot mgood mleft mread mnow mtri mdia 13 mkept misk qp), (mnow, aI (cT 0) 104 f), (mdia, aI (cT 0) 1456 (cpF fd fd 104 0 1352))]) C iX5_remember_X5 tyX5_ok nmX5 0 rfl rfl 10 (by decide) (mw 1 rfl) rfl rfl rfl rfl (Nat.le_of_ble_eq_true rfl) rfl dX5_remember_33 ?_
    refine r_aln (pc := 36) C 0 rfl dX5_remember_36 ?_
    refine r_get (pc := 37) C iX5_remember_X5 0 rfl rfl 7 (by decide) (mw 3 rfl) rfl rfl dX5_remember_37 ?_
    refine r_ic (pc := 40) (v := nI 0) C rfl dX5_remember_40 ?_
    refine r_aln (pc := 41) C 0 rfl dX5_remember_41 ?_
    refine r_get (pc := 42) C iX5_remember_X5 0 rfl rfl 9 (by decide) (mw 2 rfl) rfl rfl dX5_remember_42 ?_
    refine r_bi (pc := 45) (v := nI 104) C rfl dX5_remember_45 ?_
    refine r_aln (pc := 47) C 0 rfl dX5_remember_47 ?_
    refine r_get (pc := 48) C iX5_remember_X5 0 rfl rfl 10 (by decide) (mw 1 rfl) rfl rfl dX5_remember_48 ?_
    refine r_imulN (pc := 51) C dX5_remember_51 ?_
    refine r_bi (pc := 52) (v := nI 104) C rfl dX5_remember_52 ?_
    refine c_WSv (pc := 54) (As := [.ref mnow, .int (nI 0), .ref mdia, .int (nI (104 * 13)), .int (nI 104)]) (wc := [(mnow, aI (cT 0) 104 f), (mdia, aI (cT 0) 1456 (cpF fd fd 104 0 1352))]) (wr := [(mA, cMo mref mscr msz mspot mgood mleft mread mnow mtri mdia 13 mkept misk qp)])  C hA (k_X5_copy l D cT mnow 104 f mdia 1456 (cpF fd fd 104 0 1352) 0 (104 * 13) 104 (⟨by decide, by decide⟩) (by decide) (by omega)) (va_cwS 5 C.1.2.2.2.2 gX5_remember_X5_copy rfl rfl rfl n_X5_copy ⟨Nat.le_of_ble_eq_true rfl, Nat.le_of_ble_eq_true rfl⟩) [1, 2] [0] rfl rfl ⟨by decide, by decide⟩ (by decide) [0, 1, 2] (fun u8 => [(mA, cMo mref mscr msz mspot mgood mleft mread mnow mtri mdia 13 mkept misk qp), (mnow, aI (cT 0) 104 f), (mdia, aI (cT 0) 1456 u8)]) (fun _ => rfl) (by decide) rfl rfl (Nat.le_of_ble_eq_true rfl) ⟨Nat.zero_le _, Nat.zero_le _⟩ dX5_remember_54 (fun u8 h7 => ?_)
    obtain ⟨m9, rfl⟩ : ∃ z, z = u8 := ⟨_, rfl⟩
    try dsimp only at h7
    subst h7
    refine r_aln (pc := 57) C 0 rfl dX5_remember_57 ?_
    refine r_dup (pc := 58) C rfl dX5_remember_58 ?_
    refine r_get (pc := 59) C iX5_remember_X5 0 rfl rfl 10 (by decide) (mw 1 rfl) rfl rfl dX5_remember_59 ?_
    refine r_ic (pc := 62) (v := nI 1) C rfl dX5_remember_62 ?_
    refine r_iaddN (pc := 63) C dX5_remember_63 ?_
    refine r_put (pc := 64) (ws2 := [(mA, cMo mref mscr msz mspot mgood mleft mread mnow mtri mdia (13 + 1) mkept misk qp), (mnow, aI (cT 0) 104 f), (mdia, aI (cT 0) 1456 (cpF f (cpF fd fd 104 0 1352) 0 (104 * 13) 104))]) C iX5_remember_X5 tyX5_ok nmX5 0 rfl rfl 10 (by decide) (mw 1 rfl) rfl rfl rfl rfl (Nat.le_of_ble_eq_true rfl) rfl dX5_remember_64 ?_
    subst hQ
    exact e_vW C hr hk (Nat.le_refl _) (Nat.le_refl _) ⟨13 + 1, cpF f (cpF fd fd 104 0 1352) 0 (104 * 13) 104⟩ rfl (Or.inr ⟨by omega, rfl, rfl⟩) dX5_remember_67

