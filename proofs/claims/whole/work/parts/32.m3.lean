/-! the model reads the text -/
def ACP (g is p g' p' : Nat) : Prop := (g = 1 ∧ is = 1 ∧ 1 = g' ∧ p + 1 = p') ∨ (¬ (g = 1 ∧ is = 1) ∧ 0 = g' ∧ p = p')
def DGq (len : Nat) (sg : Nat → Nat) (p g lo hi : Nat) (r : Int32) (g' p' : Nat) : Prop := (g = 1 ∧ ∃ d, PD len sg p lo hi = some d ∧ r = nI d ∧ 1 = g' ∧ p + 1 = p') ∨ ((g = 0 ∨ PD len sg p lo hi = none) ∧ r = nI lo ∧ 0 = g' ∧ p = p')
def TWq (len : Nat) (sg : Nat → Nat) (p g hi : Nat) (r : Int32) (g' p' : Nat) : Prop := (g = 1 ∧ ∃ v e, PN len sg p hi = (true, v, e) ∧ r = nI v ∧ 1 = g' ∧ e = p') ∨ (g = 1 ∧ ∃ e, PN len sg p hi = (false, 0, e) ∧ 0 = g' ∧ e = p') ∨ (g = 0 ∧ 0 = g' ∧ p = p')
theorem sub48 {v : Nat} (h : v < 256) : (nI v - nI 48).toInt = (v : Int) - 48 := by rw [pk_sub_toInt (by omega) (by omega)]; rfl
theorem i64_0 : (0 : Int64).toInt = 0 := by decide
theorem i64_9 : (9 : Int64).toInt = 9 := by decide
theorem in48 {v lo hi : Nat} (h : v < 256) (hl : lo < 10) (hh : hi < 10) : InQ (nI v - nI 48).toInt64 (nI lo).toInt64 (nI hi).toInt64 ↔ 48 + lo ≤ v ∧ v ≤ 48 + hi := by
  unfold InQ
  rw [Int32.toInt_toInt64, Int32.toInt_toInt64, Int32.toInt_toInt64, sub48 h, nI_toInt (by omega), nI_toInt (by omega)]
  omega
theorem in48_9 {v : Nat} (h : v < 256) : InQ (nI v - nI 48).toInt64 0 9 ↔ 48 ≤ v ∧ v ≤ 57 := by
  unfold InQ
  rw [Int32.toInt_toInt64, sub48 h, i64_0, i64_9]
  omega
theorem in_m1 : ¬ InQ ((-1 : Int32)).toInt64 0 9 := by
  unfold InQ
  rw [Int32.toInt_toInt64, i64_0]
  intro h
  exact absurd h.1 (by decide)
theorem pd_no {len p lo hi : Nat} {sg : Nat → Nat} (h : ¬ (p < len ∧ 48 + lo ≤ sg p ∧ sg p ≤ 48 + hi)) : PD len sg p lo hi = none := if_neg h
theorem pd_yes {len p lo hi : Nat} {sg : Nat → Nat} (h : p < len ∧ 48 + lo ≤ sg p ∧ sg p ≤ 48 + hi) : PD len sg p lo hi = some (sg p - 48) := if_pos h
theorem dg_val {v : Nat} (h : 48 ≤ v) : nI v - nI 48 = nI (v - 48) := pk_sub h
theorem m9_a {a : Nat} (h : a ≤ 9) : m9 a = a := by unfold m9; split <;> omega
theorem m9_b {a : Nat} (h : 9 < a) : m9 a = 9 := by unfold m9; split <;> omega
theorem tw_p {len p hi t d L : Nat} {sg : Nat → Nat} (h : PD len sg p 0 (hi / 10) = some t) (eL : L = m9 (hi - 10 * t)) (h2 : PD len sg (p + 1) 0 L = some d) : PN len sg p hi = (true, 10 * t + d, p + 1 + 1) := pn_ok h (eL ▸ h2)
theorem tw_f {len p hi t L : Nat} {sg : Nat → Nat} (h : PD len sg p 0 (hi / 10) = some t) (eL : L = m9 (hi - 10 * t)) (h2 : PD len sg (p + 1) 0 L = none) : PN len sg p hi = (false, 0, p + 1) := pn_f2 h (eL ▸ h2)
/-- one command -/
def LO (r : Int32) : Nat := if r < 0 then 1 else 0
def RDq (fw mid lw len : Nat) (sg : Nat → Nat) (u : SS) (p lo : Nat) (g' p' lo' : Nat) (f' : Nat → Int32) : Prop :=
  (∃ e, PC fw mid lw len sg p = (false, e, 0, 0, 0) ∧ 0 = g' ∧ e = p') ∨
  ∃ e lt a b ro r v, PC fw mid lw len sg p = (true, e, lt, a, b) ∧ (lt = 99 ∨ lt = 106 → ro = nI b) ∧ CMs u lt a ro r v ∧ RowQ f' v ∧ JQ v ∧ lo + LO r = lo' ∧ 1 = g' ∧ e = p'
theorem m3_lt : (-3 : Int32) < 0 := by decide
theorem lo_RR {r0 r : Int32} (h : RRq r0 r) : LO r0 = if r = -1 then 1 else 0 := by
  rcases h with ⟨rfl, rfl⟩ | ⟨k, rfl, rfl, hk⟩
  · rfl
  · rw [if_neg (nI_m1 (by omega))]; exact if_neg (nI_pos (by omega))
theorem lo_N {n : Nat} (h : n < 2147483648) : LO (nI n) = 0 := if_neg (nI_pos h)
theorem cm_ac {u v : SS} {a b : Nat} {r : Int32} (h : ACs u (nI a) (nI b) r v) : CMs u 99 a (nI b) r v := by
  obtain ⟨h, e1, e2, e3, e4, e5, e6⟩ := h
  exact ⟨Or.inl ⟨rfl, h, e5, e6⟩, e1, e2, e3, e4⟩
theorem cm_ao {u v : SS} {a b : Nat} {r : Int32} (h : AOs u (nI a) (nI b) r v) : CMs u 106 a (nI b) r v := by
  obtain ⟨h, e1, e2, e3, e4, e5, e6⟩ := h
  exact ⟨Or.inr (Or.inl ⟨rfl, h, e5, e6⟩), e1, e2, e3, e4⟩
theorem ao_out {u : SS} {a b : Nat} (h : ¬ a < u.cnt) (hn : u.cnt ≤ 16) (ha : a < 2147483648) : AOs u (nI a) (nI b) (-2) u :=
  ⟨Or.inl ⟨rfl, fun g => by obtain ⟨j, e, hj⟩ := g.1; have := nI_inj4 ha (by omega) e; omega, sameq u⟩, rfl, rfl, rfl, rfl, rfl, rfl⟩
def HGs (u : SS) (x r : Int32) (v : SS) : Prop := HGq u.cnt u.inp u.outs u.brd u.mvd x r v.cnt v.inp v.outs v.brd v.mvd ∧ v.mov = u.mov ∧ v.got = u.got ∧ v.owe = u.owe ∧ v.fst = u.fst ∧ v.wid = u.wid ∧ v.mid = u.mid ∧ v.las = u.las ∧ v.pat = u.pat ∧ v.bro = u.bro
theorem hg_ok {u : SS} {ca : Nat} (h : ca < u.cnt) : HGs u (nI ca) (nI (u.cnt - 1)) (hangU u ca) :=
  ⟨Or.inr ⟨ca, rfl, h, rfl, rfl, fun _ _ => rfl, fun _ _ => rfl, fun _ _ => rfl, fun _ _ => rfl⟩, rfl, rfl, rfl, rfl, rfl, rfl, rfl, rfl, rfl⟩
theorem hg_out {u : SS} {a : Nat} (h : ¬ a < u.cnt) (hn : u.cnt ≤ 16) (ha : a < 2147483648) : HGs u (nI a) (-2) u :=
  ⟨Or.inl ⟨rfl, fun g => by obtain ⟨j, e, hj⟩ := g; have := nI_inj4 ha (by omega) e; omega, rfl, rfl, rfl, rfl, rfl⟩, rfl, rfl, rfl, rfl, rfl, rfl, rfl, rfl, rfl⟩
theorem cm_hg {u v : SS} {a : Nat} {ro r : Int32} (h : HGs u (nI a) r v) : CMs u 104 a ro r v := by
  obtain ⟨h, a1, a2, a3, e1, e2, e3, e4, e5, e6⟩ := h
  exact ⟨Or.inr (Or.inr (Or.inl ⟨rfl, h, a1, a2, a3, e5, e6⟩)), e1, e2, e3, e4⟩
def BKs (u : SS) (x : Int32) (is : Nat) (r : Int32) (v : SS) : Prop := BKq u.mid u.bro u.cnt u.brd x is r v.bro ∧ SAMEq u.mov u.cnt u.inp u.outs u.brd u.mvd u.got u.owe v.mov v.cnt v.inp v.outs v.brd v.mvd v.got v.owe ∧ v.fst = u.fst ∧ v.wid = u.wid ∧ v.mid = u.mid ∧ v.las = u.las ∧ v.pat = u.pat
theorem bk_ok {u : SS} {mb is : Nat} (h : mb < u.mid) (hf : 0 < is → ∀ k, k < u.cnt → ¬ u.brd k = mb) : BKs u (nI mb) is (nI (pcn (wo (2 ^ u.mid - 1) (brkV u.bro mb is)))) (broU u (brkV u.bro mb is)) :=
  ⟨Or.inr (Or.inr ⟨mb, rfl, h, hf, rfl, rfl⟩), ⟨rfl, rfl, rfl, rfl, rfl, rfl, rfl, rfl⟩, rfl, rfl, rfl, rfl, rfl⟩
theorem bk_no {u : SS} {mb is : Nat} (h : mb < u.mid) (h1 : 0 < is) (hf : ∃ k, k < u.cnt ∧ u.brd k = mb) : BKs u (nI mb) is (-3) u :=
  ⟨Or.inr (Or.inl ⟨rfl, ⟨mb, rfl, h, h1, hf⟩, rfl⟩), ⟨rfl, rfl, rfl, rfl, rfl, rfl, rfl, rfl⟩, rfl, rfl, rfl, rfl, rfl⟩
theorem cm_bk {u v : SS} {a is : Nat} {ro r : Int32} (e : is = if u.bro.testBit a = true then 0 else 1) (h : BKs u (nI a) is r v) : CMs u 98 a ro r v := by
  obtain ⟨h, a1, e1, e2, e3, e4, e5⟩ := h
  subst e
  exact ⟨Or.inr (Or.inr (Or.inr (Or.inl ⟨rfl, h, a1, e5⟩))), e1, e2, e3, e4⟩
theorem cm_pt {u : SS} {a : Nat} {ro : Int32} : CMs u 112 a ro (nI u.pat) (patU u a) :=
  ⟨Or.inr (Or.inr (Or.inr (Or.inr ⟨rfl, rfl, rfl, rfl, sameq u⟩))), rfl, rfl, rfl, rfl⟩
/-- what the states keep -/
theorem pcn_p2 {y : Nat} (hy : y < 16) : pcn (2 ^ y) ≤ 4 := by
  have : ∀ y : Fin 16, pcn (2 ^ y.val) ≤ 4 := by decide +kernel
  exact this ⟨y, hy⟩
theorem sumTo_mono {f g : Nat → Nat} : ∀ {n : Nat}, (∀ k, k < n → f k ≤ g k) → sumTo f n ≤ sumTo g n
  | 0, _ => Nat.le_refl _
  | n + 1, h => Nat.add_le_add (sumTo_mono (fun k hk => h k (Nat.lt_succ_of_lt hk))) (h n (Nat.lt_succ_self n))
theorem pc_wo {a b : Nat} : pcn (wo a b) ≤ pcn a := sumTo_mono (fun k _ => by rw [wo_bit]; cases a.testBit k <;> cases b.testBit k <;> decide)
theorem sumTo_add1 {f g : Nat → Nat} {y : Nat} : ∀ {n : Nat}, (∀ k, k < n → f k ≤ g k + (if k = y then 1 else 0)) → sumTo f n ≤ sumTo g n + (if y < n then 1 else 0)
  | 0, _ => Nat.zero_le _
  | n + 1, h => by
    have h1 := sumTo_add1 (n := n) (fun k hk => h k (Nat.lt_succ_of_lt hk))
    have h2 := h n (Nat.lt_succ_self n)
    show sumTo f n + f n ≤ sumTo g n + g n + _
    by_cases e : n = y
    · rw [if_pos e] at h2; rw [if_neg (by omega)] at h1; rw [if_pos (by omega)]; omega
    · rw [if_neg e] at h2
      by_cases e2 : y < n
      · rw [if_pos e2] at h1; rw [if_pos (by omega)]; omega
      · rw [if_neg e2] at h1; rw [if_neg (by omega)]; omega
theorem pc_or {o y : Nat} (hy : y < 16) : pcn (o ||| 2 ^ y) ≤ pcn o + 1 := by
  have := sumTo_add1 (f := fun k => ((o ||| 2 ^ y).testBit k).toNat) (g := fun k => (o.testBit k).toNat) (y := y) (n := 16) (fun k _ => by
    show ((o ||| 2 ^ y).testBit k).toNat ≤ (o.testBit k).toNat + (if k = y then 1 else 0)
    rw [Nat.testBit_or, Nat.testBit_two_pow]
    by_cases e : k = y
    · rw [if_pos e]; cases (o.testBit k || decide (y = k)) <;> cases o.testBit k <;> decide
    · rw [if_neg e, decide_eq_false (fun q => e q.symm), Bool.or_false]; exact Nat.le_refl _)
  rw [if_pos hy] at this
  exact this
def DRs (u : SS) (y r : Int32) (v : SS) : Prop := DRq u.las u.wid u.cnt u.outs y r v.outs ∧ (v.mov = u.mov ∧ v.cnt = u.cnt ∧ v.inp = u.inp ∧ v.brd = u.brd ∧ v.mvd = u.mvd ∧ v.got = u.got ∧ v.owe = u.owe) ∧ v.fst = u.fst ∧ v.wid = u.wid ∧ v.mid = u.mid ∧ v.las = u.las ∧ v.pat = u.pat ∧ v.bro = u.bro
theorem jq_ac {u v : SS} {x y r : Int32} (hJ : JQ u) (h : ACs u x y r v) : JQ v := by
  obtain ⟨h, e1, e2, e3, e4, e5, e6⟩ := h
  refine ⟨by show INVq v.fst v.wid v.mid v.las v.pat v.bro v.cnt v.inp v.outs v.brd; rw [e1, e2, e3, e4, e5, e6]; exact inv_ac hJ.1 h, ?_⟩
  rcases h with ⟨-, -, h⟩ | ⟨-, -, h⟩ | ⟨jx, jy, k, π, b1, m1, -, -, -, hy, -, -, -, -, -, -, -, h2, -, h4, -⟩
  · obtain ⟨-, h2, -, h4, -⟩ := h
    rw [h2, h4]; exact hJ.2
  · obtain ⟨-, h2, -, h4, -⟩ := h
    rw [h2, h4]; exact hJ.2
  · intro c hc
    rw [h2] at hc
    rw [h4]
    by_cases e : c = u.cnt
    · rw [e, va_up_self]; exact pcn_p2 (by have := (bd_of hJ).2.2.2.2.2.2.2.1.2; omega)
    · rw [va_up_ne _ _ e]; exact hJ.2 c (by omega)
theorem jq_ao {u v : SS} {x y r : Int32} (hJ : JQ u) (h : AOs u x y r v) : JQ v := by
  obtain ⟨h, e1, e2, e3, e4, e5, e6⟩ := h
  refine ⟨by show INVq v.fst v.wid v.mid v.las v.pat v.bro v.cnt v.inp v.outs v.brd; rw [e1, e2, e3, e4, e5, e6]; exact inv_ao hJ.1 h, ?_⟩
  rcases h with ⟨-, -, h⟩ | ⟨-, -, h⟩ | ⟨ca, jy, k, π, -, -, -, hy, -, h4p, -, -, -, -, h2, -, h4⟩
  · obtain ⟨-, h2, -, h4, -⟩ := h
    rw [h2, h4]; exact hJ.2
  · obtain ⟨-, h2, -, h4, -⟩ := h
    rw [h2, h4]; exact hJ.2
  · intro c hc
    rw [h2] at hc
    rw [h4]
    by_cases e : c = ca
    · rw [e, va_up_self]
      have := pc_or (o := u.outs ca) (y := jy) (by have := (bd_of hJ).2.2.2.2.2.2.2.1.2; omega)
      omega
    · rw [va_up_ne _ _ e]; exact hJ.2 c (by omega)
theorem jq_hg {u v : SS} {x r : Int32} (hJ : JQ u) (h : HGs u x r v) : JQ v := by
  obtain ⟨h, -, -, -, e1, e2, e3, e4, e5, e6⟩ := h
  refine ⟨by show INVq v.fst v.wid v.mid v.las v.pat v.bro v.cnt v.inp v.outs v.brd; rw [e1, e2, e3, e4, e5, e6]; exact inv_hg hJ.1 h, ?_⟩
  rcases h with ⟨-, -, h2, -, h4, -⟩ | ⟨ca, -, hca, -, h2, -, h4, -⟩
  · rw [h2, h4]; exact hJ.2
  · intro c hc
    rw [h2] at hc
    rw [h4 c (by have := (bd_of hJ).2.2.2.2.2.2.1; omega)]
    split
    · exact hJ.2 _ (by omega)
    · exact hJ.2 c (by omega)
theorem jq_dr {u v : SS} {y r : Int32} (hJ : JQ u) (h : DRs u y r v) : JQ v := by
  obtain ⟨h, ⟨-, a2, a3, a4, -, -, -⟩, e1, e2, e3, e4, e5, e6⟩ := h
  refine ⟨by show INVq v.fst v.wid v.mid v.las v.pat v.bro v.cnt v.inp v.outs v.brd; rw [e1, e2, e3, e4, e5, e6, a2, a3, a4]; exact inv_dr hJ.1 h, ?_⟩
  rw [a2]
  rcases h with ⟨-, -, h4⟩ | ⟨-, -, h4⟩ | ⟨jy, ca, -, -, hca, -, -, -, h4⟩
  · rw [h4]; exact hJ.2
  · rw [h4]; exact hJ.2
  · intro c hc
    rw [h4]
    by_cases e : c = ca
    · rw [e, va_up_self]; exact Nat.le_trans pc_wo (hJ.2 ca hca)
    · rw [va_up_ne _ _ e]; exact hJ.2 c hc
theorem jq_bk {u v : SS} {x r : Int32} {is : Nat} (hJ : JQ u) (his : is < 2) (h : BKs u x is r v) : JQ v := by
  obtain ⟨h, ⟨a1, a2, a3, a4, a5, -, -, -⟩, e1, e2, e3, e4, e5⟩ := h
  refine ⟨by show INVq v.fst v.wid v.mid v.las v.pat v.bro v.cnt v.inp v.outs v.brd; rw [e1, e2, e3, e4, e5, a2, a3, a4, a5]; exact inv_bk hJ.1 his h, ?_⟩
  rw [a2, a4]; exact hJ.2
theorem jq_pat {u : SS} {p : Nat} (hJ : JQ u) (hp : p ≤ 3) : JQ (patU u p) := by
  obtain ⟨⟨h1, h2, h3, h4, -, h6⟩, h7⟩ := hJ
  exact ⟨⟨h1, h2, h3, h4, hp, h6⟩, h7⟩
theorem jq_new {a b c d : Nat} (h1 : 1 ≤ a ∧ a ≤ 4) (h2 : 1 ≤ b ∧ b ≤ 4) (h3 : 1 ≤ c ∧ c ≤ 4) (h4 : 1 ≤ d ∧ d ≤ 4) : JQ (newS a b c d) :=
  ⟨inv_new h1 h2 h3 h4 (fun c _ => ⟨Nat.zero_lt_succ _, Nat.zero_lt_succ _, Nat.zero_lt_succ _⟩), fun c hc => absurd hc (Nat.not_lt_zero _)⟩
section ReadOne
variable {u : SS} {len p lo p' lo' : Nat} {sg : Nat → Nat} {f' : Nat → Int32}
theorem rd_c1 {e : Nat} (h : p < len) (g : sg p = 99) (q : PN len sg (p + 1) (u.fst * u.wid - 1) = (false, 0, e)) : RDq (u.fst * u.wid) u.mid (u.las * u.wid) len sg u p lo 0 e lo' f' := Or.inl ⟨e, pc_c1 h g q, rfl, rfl⟩
theorem rd_c2 {a e e2 : Nat} (h : p < len) (g : sg p = 99) (q : PN len sg (p + 1) (u.fst * u.wid - 1) = (true, a, e)) (q2 : PN len sg e (u.las * u.wid - 1) = (false, 0, e2)) : RDq (u.fst * u.wid) u.mid (u.las * u.wid) len sg u p lo 0 e2 lo' f' := Or.inl ⟨e2, pc_c2 h g q q2, rfl, rfl⟩
theorem rd_c3 {a b e e2 : Nat} {r : Int32} (hJ : JQ u) (h : p < len) (g : sg p = 99) (q : PN len sg (p + 1) (u.fst * u.wid - 1) = (true, a, e)) (q2 : PN len sg e (u.las * u.wid - 1) = (true, b, e2)) (hc : CNq u a b r f') (hl : lo' = lo + if r = -1 then 1 else 0) : RDq (u.fst * u.wid) u.mid (u.las * u.wid) len sg u p lo 1 e2 lo' f' := by
  obtain ⟨r0, v, h1, h2, h3⟩ := hc
  exact Or.inr ⟨e2, 99, a, b, nI b, r0, v, pc_c3 h g q q2, fun _ => rfl, cm_ac h1, h2, jq_ac hJ h1, by rw [hl, lo_RR h3], rfl, rfl⟩
theorem rd_j1 {fw e : Nat} (h : p < len) (g : sg p = 106) (q : PN len sg (p + 1) 15 = (false, 0, e)) : RDq fw u.mid (u.las * u.wid) len sg u p lo 0 e lo' f' := Or.inl ⟨e, pc_j1 h g q, rfl, rfl⟩
theorem rd_j2 {fw a e e2 : Nat} (h : p < len) (g : sg p = 106) (q : PN len sg (p + 1) 15 = (true, a, e)) (q2 : PN len sg e (u.las * u.wid - 1) = (false, 0, e2)) : RDq fw u.mid (u.las * u.wid) len sg u p lo 0 e2 lo' f' := Or.inl ⟨e2, pc_j2 h g q q2, rfl, rfl⟩
theorem rd_j3 {fw a b e e2 : Nat} {r : Int32} (hJ : JQ u) (h : p < len) (g : sg p = 106) (q : PN len sg (p + 1) 15 = (true, a, e)) (q2 : PN len sg e (u.las * u.wid - 1) = (true, b, e2)) (hc : JNq u a b r f') (hl : lo' = lo + if r = -1 then 1 else 0) : RDq fw u.mid (u.las * u.wid) len sg u p lo 1 e2 lo' f' := by
  obtain ⟨r0, v, h1, h2, h3⟩ := hc
  exact Or.inr ⟨e2, 106, a, b, nI b, r0, v, pc_j3 h g q q2, fun _ => rfl, cm_ao h1, h2, jq_ao hJ h1, by rw [hl, lo_RR h3], rfl, rfl⟩
theorem rd_j4 {fw a b e e2 : Nat} (hJ : JQ u) (h : p < len) (g : sg p = 106) (q : PN len sg (p + 1) 15 = (true, a, e)) (q2 : PN len sg e (u.las * u.wid - 1) = (true, b, e2)) (hc : ¬ a < u.cnt) (ha : a < 2147483648) (hR : RowQ f' u) : RDq fw u.mid (u.las * u.wid) len sg u p lo 1 e2 (lo + 1) f' := by
  have h1 := ao_out (b := b) hc (bd_of hJ).2.2.2.2.2.2.1 ha
  exact Or.inr ⟨e2, 106, a, b, nI b, -2, u, pc_j3 h g q q2, fun _ => rfl, cm_ao h1, hR, hJ, rfl, rfl, rfl⟩
theorem rd_h1 {fw lw e : Nat} (h : p < len) (g : sg p = 104) (q : PN len sg (p + 1) 15 = (false, 0, e)) : RDq fw u.mid lw len sg u p lo 0 e lo' f' := Or.inl ⟨e, pc_h1 h g q, rfl, rfl⟩
theorem rd_h2 {fw lw a e : Nat} (hJ : JQ u) (h : p < len) (g : sg p = 104) (q : PN len sg (p + 1) 15 = (true, a, e)) (ha : a < u.cnt) (hR : RowQ f' (hangU u a)) : RDq fw u.mid lw len sg u p lo 1 e (lo + 0) f' := by
  refine Or.inr ⟨e, 104, a, 0, 0, nI (u.cnt - 1), hangU u a, pc_h2 h g q, fun h => by omega, cm_hg (hg_ok ha), hR, jq_hg hJ (hg_ok ha), ?_, rfl, rfl⟩
  rw [lo_N (by have := (bd_of hJ).2.2.2.2.2.2.1; omega)]
theorem rd_h3 {fw lw a e : Nat} (hJ : JQ u) (h : p < len) (g : sg p = 104) (q : PN len sg (p + 1) 15 = (true, a, e)) (ha : ¬ a < u.cnt) (ha2 : a < 2147483648) (hR : RowQ f' u) : RDq fw u.mid lw len sg u p lo 1 e (lo + 1) f' :=
  Or.inr ⟨e, 104, a, 0, 0, -2, u, pc_h2 h g q, fun h => by omega, cm_hg (hg_out ha (bd_of hJ).2.2.2.2.2.2.1 ha2), hR, hJ, rfl, rfl, rfl⟩
theorem rd_b1 {fw lw : Nat} (h : p < len) (g : sg p = 98) (q : PD len sg (p + 1) 0 (u.mid - 1) = none) : RDq fw u.mid lw len sg u p lo 0 (p + 1) lo' f' := Or.inl ⟨p + 1, pc_b1 h g q, rfl, rfl⟩
theorem rd_b2 {fw lw a is : Nat} (hJ : JQ u) (h : p < len) (g : sg p = 98) (q : PD len sg (p + 1) 0 (u.mid - 1) = some a) (ha : a < u.mid) (e : is = if u.bro.testBit a = true then 0 else 1) (hf : 0 < is → ∀ k, k < u.cnt → ¬ u.brd k = a) (hR : RowQ f' (broU u (brkV u.bro a is))) : RDq fw u.mid lw len sg u p lo 1 (p + 1 + 1) (lo + 0) f' := by
  refine Or.inr ⟨p + 2, 98, a, 0, 0, _, _, pc_b2 h g q, fun h => by omega, cm_bk e (bk_ok ha hf), hR, jq_bk hJ (by rw [e]; split <;> decide) (bk_ok ha hf), ?_, rfl, rfl⟩
  rw [lo_N (Nat.lt_of_le_of_lt (pcTo_le _ 16) (by decide))]
theorem rd_b3 {fw lw a is : Nat} (hJ : JQ u) (h : p < len) (g : sg p = 98) (q : PD len sg (p + 1) 0 (u.mid - 1) = some a) (ha : a < u.mid) (e : is = if u.bro.testBit a = true then 0 else 1) (h1 : 0 < is) (hf : ∃ k, k < u.cnt ∧ u.brd k = a) (hR : RowQ f' u) : RDq fw u.mid lw len sg u p lo 1 (p + 1 + 1) (lo + 1) f' :=
  Or.inr ⟨p + 2, 98, a, 0, 0, _, _, pc_b2 h g q, fun h => by omega, cm_bk e (bk_no ha h1 hf), hR, hJ, rfl, rfl, rfl⟩
theorem rd_p1 {fw lw : Nat} (h : p < len) (g : sg p = 112) (q : PD len sg (p + 1) 0 3 = none) : RDq fw u.mid lw len sg u p lo 0 (p + 1) lo' f' := Or.inl ⟨p + 1, pc_p1 h g q, rfl, rfl⟩
theorem rd_p2 {fw lw a : Nat} (hJ : JQ u) (h : p < len) (g : sg p = 112) (q : PD len sg (p + 1) 0 3 = some a) (ha : a ≤ 3) (hR : RowQ f' (patU u a)) : RDq fw u.mid lw len sg u p lo 1 (p + 1 + 1) lo f' :=
  Or.inr ⟨p + 2, 112, a, 0, 0, _, _, pc_p2 h g q, fun h => by omega, cm_pt, hR, jq_pat hJ ha, by rw [lo_N (by have := hJ.1.2.2.2.2.1; omega)]; rfl, rfl, rfl⟩
theorem rd_n {fw lw : Nat} (h : p < len) (g : sg p ≠ 99 ∧ sg p ≠ 106 ∧ sg p ≠ 104 ∧ sg p ≠ 98 ∧ sg p ≠ 112) : RDq fw u.mid lw len sg u p lo 0 p lo' f' := Or.inl ⟨p, pc_n h g, rfl, rfl⟩
end ReadOne

theorem iX5_isNext_X5 : ∀ w ∈ u_ws RX5 TX5 14, w ∈ wsX5_isNext := by decide +kernel
abbrev rmX5_isNext : Room := { frames := 0, cells := 0, slots := 0, locals := 0 }
theorem n_X5_isNext : yX5_isNext.cls = RX5 ∧ yX5_isNext.cls ≠ "java/lang/invoke/MethodHandle" ∧ yX5_isNext.cls ≠ "java/lang/invoke/VarHandle" ∧ (parseMethodDescriptor yX5_isNext.desc).map (fun d => d.parameters.length) = some 1 := by decide +kernel
set_option maxHeartbeats 4000000 in
set_option maxRecDepth 100000 in
theorem k_X5_isNext (l : Launch) (D : va_G) (cT : Nat → ClassId) (mA mref mscr msz mspot mgood mleft mread mnow mtri mdia macts mkept misk qp : Nat) (sg : Nat → Nat) (ch : Nat) (hz : msz ≤ 120) (hp : mspot ≤ 120) (hsg : ∀ k, k < 120 → sg k < 256) (hch : ch < 256) : MR l D cT yX5_isNext wsX5_isNext rmX5_isNext [.ref mA, .int (nI ch)] [(mA, cMo mref mscr msz mspot mgood mleft mread mnow mtri mdia macts mkept misk qp), (mscr, aN (cT 0) 120 sg)] (fun r => (r = nI 1 ∧ mspot < msz ∧ sg mspot = ch) ∨ (r = nI 0 ∧ ¬ (mspot < msz ∧ sg mspot = ch))) := by
  refine m_R [(0, .ref mA), (1, .int (nI ch))] (by decide +kernel) rfl (Nat.le_of_ble_eq_true rfl) rfl ?_
  intro p e s m args below meth c C hr hk
  generalize hQ : MQ below (vp_Si _) args s 0 0 (fun _ => False) = Q
  refine r_aln (pc := 0) C 0 rfl dX5_isNext_0 ?_
  refine r_get (pc := 1) C iX5_isNext_X5 0 rfl rfl 3 (by decide) (mw 1 rfl) rfl rfl dX5_isNext_1 ?_
  refine r_aln (pc := 4) C 0 rfl dX5_isNext_4 ?_
  refine r_get (pc := 5) C iX5_isNext_X5 0 rfl rfl 2 (by decide) (mw 2 rfl) rfl rfl dX5_isNext_5 ?_
  refine r_cgeN (pc := 8) (tgt := 28) C (by first | omega | (have := hsg mspot (by omega); omega)) (by first | omega | (have := hsg mspot (by omega); omega)) dX5_isNext_8 (by decide) (fun c8 => ?_) (fun c8 => ?_)
  · refine r_ic (pc := 28) (v := nI 0) C rfl dX5_isNext_28 ?_
    subst hQ
    exact e_zR C hr hk rfl (Or.inr ⟨rfl, fun g => by omega⟩) dX5_isNext_29
  · refine r_aln (pc := 11) C 0 rfl dX5_isNext_11 ?_
    refine r_get (pc := 12) C iX5_isNext_X5 0 rfl rfl 1 (by decide) (mw 3 rfl) rfl rfl dX5_isNext_12 ?_
    refine r_aln (pc := 15) C 0 rfl dX5_isNext_15 ?_
    refine r_get (pc := 16) C iX5_isNext_X5 0 rfl rfl 3 (by decide) (mw 1 rfl) rfl rfl dX5_isNext_16 ?_
    refine r_ialN (pc := 19) C 1 rfl (by first | omega | (have := hsg mspot (by omega); omega)) (by decide) dX5_isNext_19 ?_
    refine r_iln (pc := 20) C 1 rfl dX5_isNext_20 ?_
    refine r_cneN (pc := 21) (tgt := 28) C (by first | omega | (have := hsg mspot (by omega); omega)) (by first | omega | (have := hsg mspot (by omega); omega)) dX5_isNext_21 (by decide) (fun c21 => ?_) (fun c21 => ?_)
    · refine r_ic (pc := 28) (v := nI 0) C rfl dX5_isNext_28 ?_
      subst hQ
      exact e_zR C hr hk rfl (Or.inr ⟨rfl, fun g => c21 g.2⟩) dX5_isNext_29
    · refine r_ic (pc := 24) (v := nI 1) C rfl dX5_isNext_24 ?_
      refine r_goto (pc := 25) (tgt := 29) C dX5_isNext_25 (by decide) ?_
      subst hQ
      exact e_zR C hr hk rfl (Or.inl ⟨rfl, c8, c21⟩) dX5_isNext_29

theorem iX5_accept_X5 : ∀ w ∈ u_ws RX5 TX5 14, w ∈ wsX5_accept := by decide +kernel
abbrev rmX5_accept : Room := { frames := 0, cells := 0, slots := 0, locals := 0 }
theorem n_X5_accept : yX5_accept.cls = RX5 ∧ yX5_accept.cls ≠ "java/lang/invoke/MethodHandle" ∧ yX5_accept.cls ≠ "java/lang/invoke/VarHandle" ∧ (parseMethodDescriptor yX5_accept.desc).map (fun d => d.parameters.length) = some 1 := by decide +kernel
set_option maxHeartbeats 4000000 in
set_option maxRecDepth 100000 in
theorem k_X5_accept (l : Launch) (D : va_G) (cT : Nat → ClassId) (mA mref mscr msz mspot mgood mleft mread mnow mtri mdia macts mkept misk qp is : Nat) (hg : mgood < 2) (his : is < 2) : MWv (S := Nat × Nat) l D cT yX5_accept wsX5_accept rmX5_accept [.ref mA, .int (nI is)] [(mA, cMo mref mscr msz mspot mgood mleft mread mnow mtri mdia macts mkept misk qp)] (fun w9 => ACP mgood is mspot w9.1 w9.2) (fun w9 => [(mA, cMo mref mscr msz w9.2 w9.1 mleft mread mnow mtri mdia macts mkept misk qp)]) 0 0 := by
  refine m_Wv [(0, .ref mA), (1, .int (nI is))] (by decide +kernel) rfl (Nat.le_of_ble_eq_true rfl) rfl ?_
  intro p e s m args below meth c A hAe C hA hr hk hnm_
  generalize hQ : MQ below (va_Qv _ _ A) args s 0 0 A = Q
  refine r_aln (pc := 0) C 0 rfl dX5_accept_0 ?_
  refine r_aln (pc := 1) C 0 rfl dX5_accept_1 ?_
  refine r_get (pc := 2) C iX5_accept_X5 0 rfl rfl 4 (by decide) (mw 1 rfl) rfl rfl dX5_accept_2 ?_
  refine r_zeqN (pc := 5) (tgt := 16) C (by omega) dX5_accept_5 (by decide) (fun c5 => ?_) (fun c5 => ?_)
  · refine r_ic (pc := 16) (v := nI 0) C rfl dX5_accept_16 ?_
    refine r_put (pc := 17) (ws2 := [(mA, cMo mref mscr msz mspot 0 mleft mread mnow mtri mdia macts mkept misk qp)]) C iX5_accept_X5 tyX5_ok nmX5 0 rfl rfl 4 (by decide) (mw 1 rfl) rfl rfl rfl rfl (Nat.le_of_ble_eq_true rfl) rfl dX5_accept_17 ?_
    refine r_aln (pc := 20) C 0 rfl dX5_accept_20 ?_
    refine r_dup (pc := 21) C rfl dX5_accept_21 ?_
    refine r_get (pc := 22) C iX5_accept_X5 0 rfl rfl 3 (by decide) (mw 2 rfl) rfl rfl dX5_accept_22 ?_
    refine r_aln (pc := 25) C 0 rfl dX5_accept_25 ?_
    refine r_get (pc := 26) C iX5_accept_X5 0 rfl rfl 4 (by decide) (mw 1 rfl) rfl rfl dX5_accept_26 ?_
    refine r_zeqN (pc := 29) (tgt := 36) C (by omega) dX5_accept_29 (by decide) (fun _ => ?_) (fun h => absurd h (by decide))
    refine r_ic (pc := 36) (v := nI 0) C rfl dX5_accept_36 ?_
    refine r_iaddN (pc := 37) C dX5_accept_37 ?_
    refine r_put (pc := 38) (ws2 := [(mA, cMo mref mscr msz (mspot + 0) 0 mleft mread mnow mtri mdia macts mkept misk qp)]) C iX5_accept_X5 tyX5_ok nmX5 0 rfl rfl 3 (by decide) (mw 2 rfl) rfl rfl rfl rfl (Nat.le_of_ble_eq_true rfl) rfl dX5_accept_38 ?_
    subst hQ
    exact e_vW C hr hk (Nat.le_refl _) (Nat.le_refl _) ⟨0, mspot + 0⟩ rfl (Or.inr ⟨fun g => by omega, rfl, rfl⟩) dX5_accept_41
  · refine r_iln (pc := 8) C 1 rfl dX5_accept_8 ?_
    refine r_zeqN (pc := 9) (tgt := 16) C (by omega) dX5_accept_9 (by decide) (fun c9 => ?_) (fun c9 => ?_)
    · refine r_ic (pc := 16) (v := nI 0) C rfl dX5_accept_16 ?_
      refine r_put (pc := 17) (ws2 := [(mA, cMo mref mscr msz mspot 0 mleft mread mnow mtri mdia macts mkept misk qp)]) C iX5_accept_X5 tyX5_ok nmX5 0 rfl rfl 4 (by decide) (mw 1 rfl) rfl rfl rfl rfl (Nat.le_of_ble_eq_true rfl) rfl dX5_accept_17 ?_
      refine r_aln (pc := 20) C 0 rfl dX5_accept_20 ?_
      refine r_dup (pc := 21) C rfl dX5_accept_21 ?_
      refine r_get (pc := 22) C iX5_accept_X5 0 rfl rfl 3 (by decide) (mw 2 rfl) rfl rfl dX5_accept_22 ?_
      refine r_aln (pc := 25) C 0 rfl dX5_accept_25 ?_
      refine r_get (pc := 26) C iX5_accept_X5 0 rfl rfl 4 (by decide) (mw 1 rfl) rfl rfl dX5_accept_26 ?_
      refine r_zeqN (pc := 29) (tgt := 36) C (by omega) dX5_accept_29 (by decide) (fun _ => ?_) (fun h => absurd h (by decide))
      refine r_ic (pc := 36) (v := nI 0) C rfl dX5_accept_36 ?_
      refine r_iaddN (pc := 37) C dX5_accept_37 ?_
      refine r_put (pc := 38) (ws2 := [(mA, cMo mref mscr msz (mspot + 0) 0 mleft mread mnow mtri mdia macts mkept misk qp)]) C iX5_accept_X5 tyX5_ok nmX5 0 rfl rfl 3 (by decide) (mw 2 rfl) rfl rfl rfl rfl (Nat.le_of_ble_eq_true rfl) rfl dX5_accept_38 ?_
      subst hQ
      exact e_vW C hr hk (Nat.le_refl _) (Nat.le_refl _) ⟨0, mspot + 0⟩ rfl (Or.inr ⟨fun g => by omega, rfl, rfl⟩) dX5_accept_41
    · refine r_ic (pc := 12) (v := nI 1) C rfl dX5_accept_12 ?_
      refine r_goto (pc := 13) (tgt := 17) C dX5_accept_13 (by decide) ?_
      refine r_put (pc := 17) (ws2 := [(mA, cMo mref mscr msz mspot 1 mleft mread mnow mtri mdia macts mkept misk qp)]) C iX5_accept_X5 tyX5_ok nmX5 0 rfl rfl 4 (by decide) (mw 1 rfl) rfl rfl rfl rfl (Nat.le_of_ble_eq_true rfl) rfl dX5_accept_17 ?_
      refine r_aln (pc := 20) C 0 rfl dX5_accept_20 ?_
      refine r_dup (pc := 21) C rfl dX5_accept_21 ?_
      refine r_get (pc := 22) C iX5_accept_X5 0 rfl rfl 3 (by decide) (mw 2 rfl) rfl rfl dX5_accept_22 ?_
      refine r_aln (pc := 25) C 0 rfl dX5_accept_25 ?_
      refine r_get (pc := 26) C iX5_accept_X5 0 rfl rfl 4 (by decide) (mw 1 rfl) rfl rfl dX5_accept_26 ?_
      refine r_zeqN (pc := 29) (tgt := 36) C (by omega) dX5_accept_29 (by decide) (fun h => absurd h (by decide)) (fun _ => ?_)
      refine r_ic (pc := 32) (v := nI 1) C rfl dX5_accept_32 ?_
      refine r_goto (pc := 33) (tgt := 37) C dX5_accept_33 (by decide) ?_
      refine r_iaddN (pc := 37) C dX5_accept_37 ?_
      refine r_put (pc := 38) (ws2 := [(mA, cMo mref mscr msz (mspot + 1) 1 mleft mread mnow mtri mdia macts mkept misk qp)]) C iX5_accept_X5 tyX5_ok nmX5 0 rfl rfl 3 (by decide) (mw 2 rfl) rfl rfl rfl rfl (Nat.le_of_ble_eq_true rfl) rfl dX5_accept_38 ?_
      subst hQ
      exact e_vW C hr hk (Nat.le_refl _) (Nat.le_refl _) ⟨1, mspot + 1⟩ rfl (Or.inl ⟨by omega, by omega, rfl, rfl⟩) dX5_accept_41

theorem iX5_digit_X5 : ∀ w ∈ u_ws RX5 TX5 14, w ∈ wsX5_digit := by decide +kernel
abbrev rmX5_digit : Room := { frames := 1, cells := 0, slots := 0, locals := 25 }
theorem n_X5_digit : yX5_digit.cls = RX5 ∧ yX5_digit.cls ≠ "java/lang/invoke/MethodHandle" ∧ yX5_digit.cls ≠ "java/lang/invoke/VarHandle" ∧ (parseMethodDescriptor yX5_digit.desc).map (fun d => d.parameters.length) = some 2 := by decide +kernel
set_option maxHeartbeats 4000000 in
set_option maxRecDepth 100000 in
theorem k_X5_digit (l : Launch) (D : va_G) (cT : Nat → ClassId) (mA mref mscr msz mspot mgood mleft mread mnow mtri mdia macts mkept misk qp : Nat) (sg : Nat → Nat) (lo hi : Nat) (hz : msz ≤ 120) (hp : mspot ≤ 120) (hsg : ∀ k, k < 120 → sg k < 256) (hg : mgood < 2) (hlo : lo < 10) (hhi : hi < 10) : MWi (S := Nat × Nat) l D cT yX5_digit wsX5_digit rmX5_digit [.ref mA, .int (nI lo), .int (nI hi)] [(mA, cMo mref mscr msz mspot mgood mleft mread mnow mtri mdia macts mkept misk qp), (mscr, aN (cT 0) 120 sg)] (fun r w9 => DGq msz sg mspot mgood lo hi r w9.1 w9.2) (fun w9 => [(mA, cMo mref mscr msz w9.2 w9.1 mleft mread mnow mtri mdia macts mkept misk qp), (mscr, aN (cT 0) 120 sg)]) 0 0 := by
  refine m_Wi [(0, .ref mA), (1, .int (nI lo)), (2, .int (nI hi))] (by decide +kernel) rfl (Nat.le_of_ble_eq_true rfl) rfl ?_
  intro p e s m args below meth c A hAe C hA hr hk hnm_
  generalize hQ : MQ below (va_Qi _ _ A) args s 0 0 A = Q
  refine r_aln (pc := 0) C 0 rfl dX5_digit_0 ?_
  refine r_get (pc := 1) C iX5_digit_X5 0 rfl rfl 3 (by decide) (mw 1 rfl) rfl rfl dX5_digit_1 ?_
  refine r_aln (pc := 4) C 0 rfl dX5_digit_4 ?_
  refine r_get (pc := 5) C iX5_digit_X5 0 rfl rfl 2 (by decide) (mw 2 rfl) rfl rfl dX5_digit_5 ?_
  refine r_cgeN (pc := 8) (tgt := 26) C (by omega) (by omega) dX5_digit_8 (by decide) (fun c8 => ?_) (fun c8 => ?_)
  · refine r_ic (pc := 26) (v := (-1)) C rfl dX5_digit_26 ?_
    refine r_isn (pc := 27) C [1, 2, 3, 0] [(0, .ref mA), (1, .int (nI lo)), (2, .int (nI hi)), (3, .int (-1))] rfl (by decide) rfl dX5_digit_27 ?_
    refine r_aln (pc := 28) C 0 rfl dX5_digit_28 ?_
    refine r_iln (pc := 29) C 3 rfl dX5_digit_29 ?_
    refine r_i2l (pc := 30) C rfl dX5_digit_30 ?_
    refine r_lc (pc := 31) (v := 0) C rfl dX5_digit_31 ?_
    refine r_lc2 (pc := 32) C (mw 4 rfl) dX5_digit_32 ?_
    refine c_RS (pc := 35) (As := [.long ((-1).toInt64), .long 0, .long (9)]) (wc := [])  C (k_X5_in l D cT ((-1).toInt64) 0 (9)) (va_cwS 3 C.1.2.2.2.2 gX5_digit_X5_in rfl rfl rfl n_X5_in ⟨Nat.le_of_ble_eq_true rfl, Nat.le_of_ble_eq_true rfl⟩) [] rfl rfl rfl (Nat.le_of_ble_eq_true rfl) ⟨Nat.zero_le _, Nat.zero_le _⟩ dX5_digit_35 (fun r35 h1 => ?_)
    rcases h1 with ⟨rfl, h1⟩ | ⟨rfl, h1⟩
    · exact absurd h1 in_m1
    · refine r_zeqN (pc := 38) (tgt := 57) C (by omega) dX5_digit_38 (by decide) (fun _ => ?_) (fun h => absurd h (by decide))
      refine r_ic (pc := 57) (v := nI 0) C rfl dX5_digit_57 ?_
      refine c_WVv (pc := 58) (As := [.int (nI 0)]) (wc := [(mA, cMo mref mscr msz mspot mgood mleft mread mnow mtri mdia macts mkept misk qp)]) (wr := [(mscr, aN (cT 0) 120 sg)]) (qr := 0) C hA (k_X5_accept l D cT mA mref mscr msz mspot mgood mleft mread mnow mtri mdia macts mkept misk qp 0 (by first | assumption | omega) (by first | assumption | omega)) (cwV 1 C.1.2.2.2.2 gX5_digit_X5_accept rfl rfl rfl n_X5_accept ⟨Nat.le_of_ble_eq_true rfl, Nat.le_of_ble_eq_true rfl⟩) rfl rfl [0] [1] rfl rfl ⟨by decide, by decide⟩ (by decide) [1, 0] (fun u3 => [(mA, cMo mref mscr msz u3.2 u3.1 mleft mread mnow mtri mdia macts mkept misk qp), (mscr, aN (cT 0) 120 sg)]) (fun _ => rfl) (by decide) rfl rfl (Nat.le_of_ble_eq_true rfl) ⟨Nat.zero_le _, Nat.zero_le _⟩ dX5_digit_58 (fun u3 h2 => ?_)
      obtain ⟨m4, m5⟩ := u3
      try dsimp only at h2 ⊢
      obtain ⟨h2c, rfl, rfl⟩ := h2.resolve_left (fun q => absurd q.2.1 (by decide))
      refine r_aln (pc := 61) C 0 rfl dX5_digit_61 ?_
      refine r_get (pc := 62) C iX5_digit_X5 0 rfl rfl 4 (by decide) (mw 5 rfl) rfl rfl dX5_digit_62 ?_
      refine r_zeqN (pc := 65) (tgt := 72) C (by omega) dX5_digit_65 (by decide) (fun _ => ?_) (fun h => absurd h (by decide))
      refine r_iln (pc := 72) C 1 rfl dX5_digit_72 ?_
      subst hQ
      exact e_iW C hr hk (Nat.le_refl _) (Nat.le_refl _) ⟨0, mspot⟩ rfl (Or.inr ⟨Or.inr (pd_no (fun g => by omega)), rfl, rfl, rfl⟩) dX5_digit_73
  · refine r_aln (pc := 11) C 0 rfl dX5_digit_11 ?_
    refine r_get (pc := 12) C iX5_digit_X5 0 rfl rfl 1 (by decide) (mw 3 rfl) rfl rfl dX5_digit_12 ?_
    refine r_aln (pc := 15) C 0 rfl dX5_digit_15 ?_
    refine r_get (pc := 16) C iX5_digit_X5 0 rfl rfl 3 (by decide) (mw 1 rfl) rfl rfl dX5_digit_16 ?_
    refine r_ialN (pc := 19) C 1 rfl (by omega) (by decide) dX5_digit_19 ?_
    refine r_bi (pc := 20) (v := nI 48) C rfl dX5_digit_20 ?_
    refine r_isub (pc := 22) C dX5_digit_22 ?_
    refine r_goto (pc := 23) (tgt := 27) C dX5_digit_23 (by decide) ?_
    refine r_isn (pc := 27) C [1, 2, 3, 0] [(0, .ref mA), (1, .int (nI lo)), (2, .int (nI hi)), (3, .int (nI (sg mspot) - nI 48))] rfl (by decide) rfl dX5_digit_27 ?_
    refine r_aln (pc := 28) C 0 rfl dX5_digit_28 ?_
    refine r_iln (pc := 29) C 3 rfl dX5_digit_29 ?_
    refine r_i2l (pc := 30) C rfl dX5_digit_30 ?_
    refine r_lc (pc := 31) (v := 0) C rfl dX5_digit_31 ?_
    refine r_lc2 (pc := 32) C (mw 4 rfl) dX5_digit_32 ?_
    refine c_RS (pc := 35) (As := [.long ((nI (sg mspot) - nI 48).toInt64), .long 0, .long (9)]) (wc := [])  C (k_X5_in l D cT ((nI (sg mspot) - nI 48).toInt64) 0 (9)) (va_cwS 3 C.1.2.2.2.2 gX5_digit_X5_in rfl rfl rfl n_X5_in ⟨Nat.le_of_ble_eq_true rfl, Nat.le_of_ble_eq_true rfl⟩) [] rfl rfl rfl (Nat.le_of_ble_eq_true rfl) ⟨Nat.zero_le _, Nat.zero_le _⟩ dX5_digit_35 (fun r35 h6 => ?_)
    rcases h6 with ⟨rfl, h6⟩ | ⟨rfl, h6⟩
    · refine r_zeqN (pc := 38) (tgt := 57) C (by omega) dX5_digit_38 (by decide) (fun h => absurd h (by decide)) (fun _ => ?_)
      refine r_iln (pc := 41) C 3 rfl dX5_digit_41 ?_
      refine r_i2l (pc := 42) C rfl dX5_digit_42 ?_
      refine r_iln (pc := 43) C 1 rfl dX5_digit_43 ?_
      refine r_i2l (pc := 44) C rfl dX5_digit_44 ?_
      refine r_iln (pc := 45) C 2 rfl dX5_digit_45 ?_
      refine r_i2l (pc := 46) C rfl dX5_digit_46 ?_
      refine c_RS (pc := 47) (As := [.long ((nI (sg mspot) - nI 48).toInt64), .long ((nI lo).toInt64), .long ((nI hi).toInt64)]) (wc := [])  C (k_X5_in l D cT ((nI (sg mspot) - nI 48).toInt64) ((nI lo).toInt64) ((nI hi).toInt64)) (va_cwS 3 C.1.2.2.2.2 gX5_digit_X5_in rfl rfl rfl n_X5_in ⟨Nat.le_of_ble_eq_true rfl, Nat.le_of_ble_eq_true rfl⟩) [] rfl rfl rfl (Nat.le_of_ble_eq_true rfl) ⟨Nat.zero_le _, Nat.zero_le _⟩ dX5_digit_47 (fun r47 h7 => ?_)
      rcases h7 with ⟨rfl, h7⟩ | ⟨rfl, h7⟩
      · refine r_zeqN (pc := 50) (tgt := 57) C (by omega) dX5_digit_50 (by decide) (fun h => absurd h (by decide)) (fun _ => ?_)
        refine r_ic (pc := 53) (v := nI 1) C rfl dX5_digit_53 ?_
        refine r_goto (pc := 54) (tgt := 58) C dX5_digit_54 (by decide) ?_
        refine c_WVv (pc := 58) (As := [.int (nI 1)]) (wc := [(mA, cMo mref mscr msz mspot mgood mleft mread mnow mtri mdia macts mkept misk qp)]) (wr := [(mscr, aN (cT 0) 120 sg)]) (qr := 0) C hA (k_X5_accept l D cT mA mref mscr msz mspot mgood mleft mread mnow mtri mdia macts mkept misk qp 1 (by first | assumption | omega) (by first | assumption | omega)) (cwV 1 C.1.2.2.2.2 gX5_digit_X5_accept rfl rfl rfl n_X5_accept ⟨Nat.le_of_ble_eq_true rfl, Nat.le_of_ble_eq_true rfl⟩) rfl rfl [0] [1] rfl rfl ⟨by decide, by decide⟩ (by decide) [1, 0] (fun u9 => [(mA, cMo mref mscr msz u9.2 u9.1 mleft mread mnow mtri mdia macts mkept misk qp), (mscr, aN (cT 0) 120 sg)]) (fun _ => rfl) (by decide) rfl rfl (Nat.le_of_ble_eq_true rfl) ⟨Nat.zero_le _, Nat.zero_le _⟩ dX5_digit_58 (fun u9 h8 => ?_)
        obtain ⟨m10, m11⟩ := u9
        try dsimp only at h8 ⊢
        rcases h8 with ⟨h8a, h8b, rfl, rfl⟩ | ⟨h8c, rfl, rfl⟩
        · refine r_aln (pc := 61) C 0 rfl dX5_digit_61 ?_
          refine r_get (pc := 62) C iX5_digit_X5 0 rfl rfl 4 (by decide) (mw 5 rfl) rfl rfl dX5_digit_62 ?_
          refine r_zeqN (pc := 65) (tgt := 72) C (by omega) dX5_digit_65 (by decide) (fun h => absurd h (by decide)) (fun _ => ?_)
          refine r_iln (pc := 68) C 3 rfl dX5_digit_68 ?_
          refine r_goto (pc := 69) (tgt := 73) C dX5_digit_69 (by decide) ?_
          subst hQ
          exact e_iW C hr hk (Nat.le_refl _) (Nat.le_refl _) ⟨1, mspot + 1⟩ rfl (Or.inl ⟨h8a, _, pd_yes (by have := (in48_9 (hsg mspot (by omega))).mp h6; have := (in48 (hsg mspot (by omega)) hlo hhi).mp h7; omega), dg_val (by have := (in48_9 (hsg mspot (by omega))).mp h6; omega), rfl, rfl⟩) dX5_digit_73
        · refine r_aln (pc := 61) C 0 rfl dX5_digit_61 ?_
          refine r_get (pc := 62) C iX5_digit_X5 0 rfl rfl 4 (by decide) (mw 5 rfl) rfl rfl dX5_digit_62 ?_
          refine r_zeqN (pc := 65) (tgt := 72) C (by omega) dX5_digit_65 (by decide) (fun _ => ?_) (fun h => absurd h (by decide))
          refine r_iln (pc := 72) C 1 rfl dX5_digit_72 ?_
          subst hQ
          exact e_iW C hr hk (Nat.le_refl _) (Nat.le_refl _) ⟨0, mspot⟩ rfl (Or.inr ⟨Or.inl (by have := h8c; omega), rfl, rfl, rfl⟩) dX5_digit_73
      · refine r_zeqN (pc := 50) (tgt := 57) C (by omega) dX5_digit_50 (by decide) (fun _ => ?_) (fun h => absurd h (by decide))
        refine r_ic (pc := 57) (v := nI 0) C rfl dX5_digit_57 ?_
        refine c_WVv (pc := 58) (As := [.int (nI 0)]) (wc := [(mA, cMo mref mscr msz mspot mgood mleft mread mnow mtri mdia macts mkept misk qp)]) (wr := [(mscr, aN (cT 0) 120 sg)]) (qr := 0) C hA (k_X5_accept l D cT mA mref mscr msz mspot mgood mleft mread mnow mtri mdia macts mkept misk qp 0 (by first | assumption | omega) (by first | assumption | omega)) (cwV 1 C.1.2.2.2.2 gX5_digit_X5_accept rfl rfl rfl n_X5_accept ⟨Nat.le_of_ble_eq_true rfl, Nat.le_of_ble_eq_true rfl⟩) rfl rfl [0] [1] rfl rfl ⟨by decide, by decide⟩ (by decide) [1, 0] (fun u13 => [(mA, cMo mref mscr msz u13.2 u13.1 mleft mread mnow mtri mdia macts mkept misk qp), (mscr, aN (cT 0) 120 sg)]) (fun _ => rfl) (by decide) rfl rfl (Nat.le_of_ble_eq_true rfl) ⟨Nat.zero_le _, Nat.zero_le _⟩ dX5_digit_58 (fun u13 h12 => ?_)
        obtain ⟨m14, m15⟩ := u13
        try dsimp only at h12 ⊢
        obtain ⟨h12c, rfl, rfl⟩ := h12.resolve_left (fun q => absurd q.2.1 (by decide))
        refine r_aln (pc := 61) C 0 rfl dX5_digit_61 ?_
        refine r_get (pc := 62) C iX5_digit_X5 0 rfl rfl 4 (by decide) (mw 5 rfl) rfl rfl dX5_digit_62 ?_
        refine r_zeqN (pc := 65) (tgt := 72) C (by omega) dX5_digit_65 (by decide) (fun _ => ?_) (fun h => absurd h (by decide))
        refine r_iln (pc := 72) C 1 rfl dX5_digit_72 ?_
        subst hQ
        exact e_iW C hr hk (Nat.le_refl _) (Nat.le_refl _) ⟨0, mspot⟩ rfl (Or.inr ⟨Or.inr (pd_no (fun g => h7 ((in48 (hsg mspot (by omega)) hlo hhi).mpr g.2))), rfl, rfl, rfl⟩) dX5_digit_73
    · refine r_zeqN (pc := 38) (tgt := 57) C (by omega) dX5_digit_38 (by decide) (fun _ => ?_) (fun h => absurd h (by decide))
      refine r_ic (pc := 57) (v := nI 0) C rfl dX5_digit_57 ?_
      refine c_WVv (pc := 58) (As := [.int (nI 0)]) (wc := [(mA, cMo mref mscr msz mspot mgood mleft mread mnow mtri mdia macts mkept misk qp)]) (wr := [(mscr, aN (cT 0) 120 sg)]) (qr := 0) C hA (k_X5_accept l D cT mA mref mscr msz mspot mgood mleft mread mnow mtri mdia macts mkept misk qp 0 (by first | assumption | omega) (by first | assumption | omega)) (cwV 1 C.1.2.2.2.2 gX5_digit_X5_accept rfl rfl rfl n_X5_accept ⟨Nat.le_of_ble_eq_true rfl, Nat.le_of_ble_eq_true rfl⟩) rfl rfl [0] [1] rfl rfl ⟨by decide, by decide⟩ (by decide) [1, 0] (fun u17 => [(mA, cMo mref mscr msz u17.2 u17.1 mleft mread mnow mtri mdia macts mkept misk qp), (mscr, aN (cT 0) 120 sg)]) (fun _ => rfl) (by decide) rfl rfl (Nat.le_of_ble_eq_true rfl) ⟨Nat.zero_le _, Nat.zero_le _⟩ dX5_digit_58 (fun u17 h16 => ?_)
      obtain ⟨m18, m19⟩ := u17
      try dsimp only at h16 ⊢
      obtain ⟨h16c, rfl, rfl⟩ := h16.resolve_left (fun q => absurd q.2.1 (by decide))
      refine r_aln (pc := 61) C 0 rfl dX5_digit_61 ?_
      refine r_get (pc := 62) C iX5_digit_X5 0 rfl rfl 4 (by decide) (mw 5 rfl) rfl rfl dX5_digit_62 ?_
      refine r_zeqN (pc := 65) (tgt := 72) C (by omega) dX5_digit_65 (by decide) (fun _ => ?_) (fun h => absurd h (by decide))
      refine r_iln (pc := 72) C 1 rfl dX5_digit_72 ?_
      subst hQ
      exact e_iW C hr hk (Nat.le_refl _) (Nat.le_refl _) ⟨0, mspot⟩ rfl (Or.inr ⟨Or.inr (pd_no (fun g => h6 ((in48_9 (hsg mspot (by omega))).mpr (by omega)))), rfl, rfl, rfl⟩) dX5_digit_73

abbrev rmX5_two : Room := { frames := 2, cells := 0, slots := 0, locals := 48 }
theorem n_X5_two : yX5_two.cls = RX5 ∧ yX5_two.cls ≠ "java/lang/invoke/MethodHandle" ∧ yX5_two.cls ≠ "java/lang/invoke/VarHandle" ∧ (parseMethodDescriptor yX5_two.desc).map (fun d => d.parameters.length) = some 1 := by decide +kernel
set_option maxHeartbeats 4000000 in
set_option maxRecDepth 100000 in
theorem k_X5_two (l : Launch) (D : va_G) (cT : Nat → ClassId) (mA mref mscr msz mspot mgood mleft mread mnow mtri mdia macts mkept misk qp : Nat) (sg : Nat → Nat) (most : Nat) (hz : msz ≤ 120) (hp : mspot ≤ 120) (hsg : ∀ k, k < 120 → sg k < 256) (hg : mgood < 2) (hmo : most < 100) : MWi (S := Nat × Nat) l D cT yX5_two wsX5_two rmX5_two [.ref mA, .int (nI most)] [(mA, cMo mref mscr msz mspot mgood mleft mread mnow mtri mdia macts mkept misk qp), (mscr, aN (cT 0) 120 sg)] (fun r w9 => TWq msz sg mspot mgood most r w9.1 w9.2) (fun w9 => [(mA, cMo mref mscr msz w9.2 w9.1 mleft mread mnow mtri mdia macts mkept misk qp), (mscr, aN (cT 0) 120 sg)]) 0 0 := by
  refine m_Wi [(0, .ref mA), (1, .int (nI most))] (by decide +kernel) rfl (Nat.le_of_ble_eq_true rfl) rfl ?_
  intro p e s m args below meth c A hAe C hA hr hk hnm_
  generalize hQ : MQ below (va_Qi _ _ A) args s 0 0 A = Q
  rcases (show mgood = 0 ∨ mgood = 1 by omega) with rfl | rfl
  · refine r_aln (pc := 0) C 0 rfl dX5_two_0 ?_
    refine r_ic (pc := 1) (v := nI 0) C rfl dX5_two_1 ?_
    refine r_iln (pc := 2) C 1 rfl dX5_two_2 ?_
    refine r_bi (pc := 3) (v := nI 10) C rfl dX5_two_3 ?_
    refine r_idivN (pc := 5) C (by omega) (by omega) (by omega) dX5_two_5 ?_
    refine c_WVi (pc := 6) (As := [.int (nI 0), .int (nI (most / 10))]) (wc := [(mA, cMo mref mscr msz mspot 0 mleft mread mnow mtri mdia macts mkept misk qp), (mscr, aN (cT 0) 120 sg)]) (wr := []) (qr := 0) C hA (k_X5_digit l D cT mA mref mscr msz mspot 0 mleft mread mnow mtri mdia macts mkept misk qp sg 0 (most / 10) (by first | assumption | omega) (by first | assumption | omega) (by first | assumption | omega) (by first | assumption | omega) (by first | assumption | omega) (by first | assumption | omega)) (cwV 2 C.1.2.2.2.2 gX5_two_X5_digit rfl rfl rfl n_X5_digit ⟨Nat.le_of_ble_eq_true rfl, Nat.le_of_ble_eq_true rfl⟩) rfl rfl [0, 1] [] rfl rfl ⟨by decide, by decide⟩ (by decide) [0, 1] (fun u2 => [(mA, cMo mref mscr msz u2.2 u2.1 mleft mread mnow mtri mdia macts mkept misk qp), (mscr, aN (cT 0) 120 sg)]) (fun _ => rfl) (by decide) rfl rfl (Nat.le_of_ble_eq_true rfl) ⟨Nat.zero_le _, Nat.zero_le _⟩ dX5_two_6 (fun r6 u2 h1 => ?_)
    obtain ⟨m3, m4⟩ := u2
    try dsimp only at h1 ⊢
    obtain ⟨-, rfl, rfl, rfl⟩ := h1.resolve_left (fun q => absurd q.1 (by decide))
    refine r_isn (pc := 9) C [1, 2, 0] [(0, .ref mA), (1, .int (nI most)), (2, .int (nI 0))] rfl (by decide) rfl dX5_two_9 ?_
    refine r_iln (pc := 10) C 1 rfl dX5_two_10 ?_
    refine r_bi (pc := 11) (v := nI 10) C rfl dX5_two_11 ?_
    refine r_iln (pc := 13) C 2 rfl dX5_two_13 ?_
    refine r_imulN (pc := 14) C dX5_two_14 ?_
    refine r_isubN (pc := 15) C (by omega) dX5_two_15 ?_
    refine r_isn (pc := 16) C [1, 2, 3, 0] [(0, .ref mA), (1, .int (nI most)), (2, .int (nI 0)), (3, .int (nI (most - (10 * 0))))] rfl (by decide) rfl dX5_two_16 ?_
    refine r_bi (pc := 17) (v := nI 10) C rfl dX5_two_17 ?_
    refine r_iln (pc := 19) C 2 rfl dX5_two_19 ?_
    refine r_imulN (pc := 20) C dX5_two_20 ?_
    refine r_aln (pc := 21) C 0 rfl dX5_two_21 ?_
    refine r_ic (pc := 22) (v := nI 0) C rfl dX5_two_22 ?_
    refine r_iln (pc := 23) C 3 rfl dX5_two_23 ?_
    refine r_bi (pc := 24) (v := nI 9) C rfl dX5_two_24 ?_
    refine r_cleN (pc := 26) (tgt := 34) C (by omega) (by omega) dX5_two_26 (by decide) (fun c26 => ?_) (fun c26 => ?_)
    · refine r_iln (pc := 34) C 3 rfl dX5_two_34 ?_
      refine c_WVi (pc := 35) (As := [.int (nI 0), .int (nI (most - (10 * 0)))]) (wc := [(mA, cMo mref mscr msz mspot 0 mleft mread mnow mtri mdia macts mkept misk qp), (mscr, aN (cT 0) 120 sg)]) (wr := []) (qr := 0) C hA (k_X5_digit l D cT mA mref mscr msz mspot 0 mleft mread mnow mtri mdia macts mkept misk qp sg 0 (most - (10 * 0)) (by first | assumption | omega) (by first | assumption | omega) (by first | assumption | omega) (by first | assumption | omega) (by first | assumption | omega) (by first | assumption | omega)) (cwV 2 C.1.2.2.2.2 gX5_two_X5_digit rfl rfl rfl n_X5_digit ⟨Nat.le_of_ble_eq_true rfl, Nat.le_of_ble_eq_true rfl⟩) rfl rfl [0, 1] [] rfl rfl ⟨by decide, by decide⟩ (by decide) [0, 1] (fun u6 => [(mA, cMo mref mscr msz u6.2 u6.1 mleft mread mnow mtri mdia macts mkept misk qp), (mscr, aN (cT 0) 120 sg)]) (fun _ => rfl) (by decide) rfl rfl (Nat.le_of_ble_eq_true rfl) ⟨Nat.zero_le _, Nat.zero_le _⟩ dX5_two_35 (fun r35 u6 h5 => ?_)
      obtain ⟨m7, m8⟩ := u6
      try dsimp only at h5 ⊢
      obtain ⟨-, rfl, rfl, rfl⟩ := h5.resolve_left (fun q => absurd q.1 (by decide))
      refine r_iaddN (pc := 38) C dX5_two_38 ?_
      subst hQ
      exact e_iW C hr hk (Nat.le_refl _) (Nat.le_refl _) ⟨0, mspot⟩ rfl (Or.inr (Or.inr ⟨rfl, rfl, rfl⟩)) dX5_two_39
    · refine r_bi (pc := 29) (v := nI 9) C rfl dX5_two_29 ?_
      refine r_goto (pc := 31) (tgt := 35) C dX5_two_31 (by decide) ?_
      refine c_WVi (pc := 35) (As := [.int (nI 0), .int (nI 9)]) (wc := [(mA, cMo mref mscr msz mspot 0 mleft mread mnow mtri mdia macts mkept misk qp), (mscr, aN (cT 0) 120 sg)]) (wr := []) (qr := 0) C hA (k_X5_digit l D cT mA mref mscr msz mspot 0 mleft mread mnow mtri mdia macts mkept misk qp sg 0 9 (by first | assumption | omega) (by first | assumption | omega) (by first | assumption | omega) (by first | assumption | omega) (by first | assumption | omega) (by first | assumption | omega)) (cwV 2 C.1.2.2.2.2 gX5_two_X5_digit rfl rfl rfl n_X5_digit ⟨Nat.le_of_ble_eq_true rfl, Nat.le_of_ble_eq_true rfl⟩) rfl rfl [0, 1] [] rfl rfl ⟨by decide, by decide⟩ (by decide) [0, 1] (fun u10 => [(mA, cMo mref mscr msz u10.2 u10.1 mleft mread mnow mtri mdia macts mkept misk qp), (mscr, aN (cT 0) 120 sg)]) (fun _ => rfl) (by decide) rfl rfl (Nat.le_of_ble_eq_true rfl) ⟨Nat.zero_le _, Nat.zero_le _⟩ dX5_two_35 (fun r35 u10 h9 => ?_)
      obtain ⟨m11, m12⟩ := u10
      try dsimp only at h9 ⊢
      obtain ⟨-, rfl, rfl, rfl⟩ := h9.resolve_left (fun q => absurd q.1 (by decide))
      refine r_iaddN (pc := 38) C dX5_two_38 ?_
      subst hQ
      exact e_iW C hr hk (Nat.le_refl _) (Nat.le_refl _) ⟨0, mspot⟩ rfl (Or.inr (Or.inr ⟨rfl, rfl, rfl⟩)) dX5_two_39
  · refine r_aln (pc := 0) C 0 rfl dX5_two_0 ?_
    refine r_ic (pc := 1) (v := nI 0) C rfl dX5_two_1 ?_
    refine r_iln (pc := 2) C 1 rfl dX5_two_2 ?_
    refine r_bi (pc := 3) (v := nI 10) C rfl dX5_two_3 ?_
    refine r_idivN (pc := 5) C (by omega) (by omega) (by omega) dX5_two_5 ?_
    refine c_WVi (pc := 6) (As := [.int (nI 0), .int (nI (most / 10))]) (wc := [(mA, cMo mref mscr msz mspot 1 mleft mread mnow mtri mdia macts mkept misk qp), (mscr, aN (cT 0) 120 sg)]) (wr := []) (qr := 0) C hA (k_X5_digit l D cT mA mref mscr msz mspot 1 mleft mread mnow mtri mdia macts mkept misk qp sg 0 (most / 10) (by first | assumption | omega) (by first | assumption | omega) (by first | assumption | omega) (by first | assumption | omega) (by first | assumption | omega) (by first | assumption | omega)) (cwV 2 C.1.2.2.2.2 gX5_two_X5_digit rfl rfl rfl n_X5_digit ⟨Nat.le_of_ble_eq_true rfl, Nat.le_of_ble_eq_true rfl⟩) rfl rfl [0, 1] [] rfl rfl ⟨by decide, by decide⟩ (by decide) [0, 1] (fun u14 => [(mA, cMo mref mscr msz u14.2 u14.1 mleft mread mnow mtri mdia macts mkept misk qp), (mscr, aN (cT 0) 120 sg)]) (fun _ => rfl) (by decide) rfl rfl (Nat.le_of_ble_eq_true rfl) ⟨Nat.zero_le _, Nat.zero_le _⟩ dX5_two_6 (fun r6 u14 h13 => ?_)
    obtain ⟨m15, m16⟩ := u14
    try dsimp only at h13 ⊢
    rcases h13 with ⟨-, h13d, h13, rfl, rfl, rfl⟩ | ⟨h13, rfl, rfl, rfl⟩
    · have h13b := pd_some h13
      refine r_isn (pc := 9) C [1, 2, 0] [(0, .ref mA), (1, .int (nI most)), (2, .int (nI h13d))] rfl (by decide) rfl dX5_two_9 ?_
      refine r_iln (pc := 10) C 1 rfl dX5_two_10 ?_
      refine r_bi (pc := 11) (v := nI 10) C rfl dX5_two_11 ?_
      refine r_iln (pc := 13) C 2 rfl dX5_two_13 ?_
      refine r_imulN (pc := 14) C dX5_two_14 ?_
      refine r_isubN (pc := 15) C (by omega) dX5_two_15 ?_
      refine r_isn (pc := 16) C [1, 2, 3, 0] [(0, .ref mA), (1, .int (nI most)), (2, .int (nI h13d)), (3, .int (nI (most - (10 * h13d))))] rfl (by decide) rfl dX5_two_16 ?_
      refine r_bi (pc := 17) (v := nI 10) C rfl dX5_two_17 ?_
      refine r_iln (pc := 19) C 2 rfl dX5_two_19 ?_
      refine r_imulN (pc := 20) C dX5_two_20 ?_
      refine r_aln (pc := 21) C 0 rfl dX5_two_21 ?_
      refine r_ic (pc := 22) (v := nI 0) C rfl dX5_two_22 ?_
      refine r_iln (pc := 23) C 3 rfl dX5_two_23 ?_
      refine r_bi (pc := 24) (v := nI 9) C rfl dX5_two_24 ?_
      refine r_cleN (pc := 26) (tgt := 34) C (by omega) (by omega) dX5_two_26 (by decide) (fun c26 => ?_) (fun c26 => ?_)
      · refine r_iln (pc := 34) C 3 rfl dX5_two_34 ?_
        refine c_WVi (pc := 35) (As := [.int (nI 0), .int (nI (most - (10 * h13d)))]) (wc := [(mA, cMo mref mscr msz (mspot + 1) 1 mleft mread mnow mtri mdia macts mkept misk qp), (mscr, aN (cT 0) 120 sg)]) (wr := []) (qr := 0) C hA (k_X5_digit l D cT mA mref mscr msz (mspot + 1) 1 mleft mread mnow mtri mdia macts mkept misk qp sg 0 (most - (10 * h13d)) (by first | assumption | omega) (by first | assumption | omega) (by first | assumption | omega) (by first | assumption | omega) (by first | assumption | omega) (by first | assumption | omega)) (cwV 2 C.1.2.2.2.2 gX5_two_X5_digit rfl rfl rfl n_X5_digit ⟨Nat.le_of_ble_eq_true rfl, Nat.le_of_ble_eq_true rfl⟩) rfl rfl [0, 1] [] rfl rfl ⟨by decide, by decide⟩ (by decide) [0, 1] (fun u18 => [(mA, cMo mref mscr msz u18.2 u18.1 mleft mread mnow mtri mdia macts mkept misk qp), (mscr, aN (cT 0) 120 sg)]) (fun _ => rfl) (by decide) rfl rfl (Nat.le_of_ble_eq_true rfl) ⟨Nat.zero_le _, Nat.zero_le _⟩ dX5_two_35 (fun r35 u18 h17 => ?_)
        obtain ⟨m19, m20⟩ := u18
        try dsimp only at h17 ⊢
        rcases h17 with ⟨-, h17d, h17, rfl, rfl, rfl⟩ | ⟨h17, rfl, rfl, rfl⟩
        · have h17b := pd_some h17
          refine r_iaddN (pc := 38) C dX5_two_38 ?_
          subst hQ
          exact e_iW C hr hk (Nat.le_refl _) (Nat.le_refl _) ⟨1, (mspot + 1) + 1⟩ rfl (Or.inl ⟨rfl, _, _, tw_p h13 (m9_a c26).symm h17, rfl, rfl, rfl⟩) dX5_two_39
        · have h17 := h17.resolve_left (by decide)
          refine r_iaddN (pc := 38) C dX5_two_38 ?_
          subst hQ
          exact e_iW C hr hk (Nat.le_refl _) (Nat.le_refl _) ⟨0, mspot + 1⟩ rfl (Or.inr (Or.inl ⟨rfl, _, tw_f h13 (m9_a c26).symm h17, rfl, rfl⟩)) dX5_two_39
      · refine r_bi (pc := 29) (v := nI 9) C rfl dX5_two_29 ?_
        refine r_goto (pc := 31) (tgt := 35) C dX5_two_31 (by decide) ?_
        refine c_WVi (pc := 35) (As := [.int (nI 0), .int (nI 9)]) (wc := [(mA, cMo mref mscr msz (mspot + 1) 1 mleft mread mnow mtri mdia macts mkept misk qp), (mscr, aN (cT 0) 120 sg)]) (wr := []) (qr := 0) C hA (k_X5_digit l D cT mA mref mscr msz (mspot + 1) 1 mleft mread mnow mtri mdia macts mkept misk qp sg 0 9 (by first | assumption | omega) (by first | assumption | omega) (by first | assumption | omega) (by first | assumption | omega) (by first | assumption | omega) (by first | assumption | omega)) (cwV 2 C.1.2.2.2.2 gX5_two_X5_digit rfl rfl rfl n_X5_digit ⟨Nat.le_of_ble_eq_true rfl, Nat.le_of_ble_eq_true rfl⟩) rfl rfl [0, 1] [] rfl rfl ⟨by decide, by decide⟩ (by decide) [0, 1] (fun u22 => [(mA, cMo mref mscr msz u22.2 u22.1 mleft mread mnow mtri mdia macts mkept misk qp), (mscr, aN (cT 0) 120 sg)]) (fun _ => rfl) (by decide) rfl rfl (Nat.le_of_ble_eq_true rfl) ⟨Nat.zero_le _, Nat.zero_le _⟩ dX5_two_35 (fun r35 u22 h21 => ?_)
        obtain ⟨m23, m24⟩ := u22
        try dsimp only at h21 ⊢
        rcases h21 with ⟨-, h21d, h21, rfl, rfl, rfl⟩ | ⟨h21, rfl, rfl, rfl⟩
        · have h21b := pd_some h21
          refine r_iaddN (pc := 38) C dX5_two_38 ?_
          subst hQ
          exact e_iW C hr hk (Nat.le_refl _) (Nat.le_refl _) ⟨1, (mspot + 1) + 1⟩ rfl (Or.inl ⟨rfl, _, _, tw_p h13 (m9_b c26).symm h21, rfl, rfl, rfl⟩) dX5_two_39
        · have h21 := h21.resolve_left (by decide)
          refine r_iaddN (pc := 38) C dX5_two_38 ?_
          subst hQ
          exact e_iW C hr hk (Nat.le_refl _) (Nat.le_refl _) ⟨0, mspot + 1⟩ rfl (Or.inr (Or.inl ⟨rfl, _, tw_f h13 (m9_b c26).symm h21, rfl, rfl⟩)) dX5_two_39
    · have h13 := h13.resolve_left (by decide)
      refine r_isn (pc := 9) C [1, 2, 0] [(0, .ref mA), (1, .int (nI most)), (2, .int (nI 0))] rfl (by decide) rfl dX5_two_9 ?_
      refine r_iln (pc := 10) C 1 rfl dX5_two_10 ?_
      refine r_bi (pc := 11) (v := nI 10) C rfl dX5_two_11 ?_
      refine r_iln (pc := 13) C 2 rfl dX5_two_13 ?_
      refine r_imulN (pc := 14) C dX5_two_14 ?_
      refine r_isubN (pc := 15) C (by omega) dX5_two_15 ?_
      refine r_isn (pc := 16) C [1, 2, 3, 0] [(0, .ref mA), (1, .int (nI most)), (2, .int (nI 0)), (3, .int (nI (most - (10 * 0))))] rfl (by decide) rfl dX5_two_16 ?_
      refine r_bi (pc := 17) (v := nI 10) C rfl dX5_two_17 ?_
      refine r_iln (pc := 19) C 2 rfl dX5_two_19 ?_
      refine r_imulN (pc := 20) C dX5_two_20 ?_
      refine r_aln (pc := 21) C 0 rfl dX5_two_21 ?_
      refine r_ic (pc := 22) (v := nI 0) C rfl dX5_two_22 ?_
      refine r_iln (pc := 23) C 3 rfl dX5_two_23 ?_
      refine r_bi (pc := 24) (v := nI 9) C rfl dX5_two_24 ?_
      refine r_cleN (pc := 26) (tgt := 34) C (by omega) (by omega) dX5_two_26 (by decide) (fun c26 => ?_) (fun c26 => ?_)
      · refine r_iln (pc := 34) C 3 rfl dX5_two_34 ?_
        refine c_WVi (pc := 35) (As := [.int (nI 0), .int (nI (most - (10 * 0)))]) (wc := [(mA, cMo mref mscr msz mspot 0 mleft mread mnow mtri mdia macts mkept misk qp), (mscr, aN (cT 0) 120 sg)]) (wr := []) (qr := 0) C hA (k_X5_digit l D cT mA mref mscr msz mspot 0 mleft mread mnow mtri mdia macts mkept misk qp sg 0 (most - (10 * 0)) (by first | assumption | omega) (by first | assumption | omega) (by first | assumption | omega) (by first | assumption | omega) (by first | assumption | omega) (by first | assumption | omega)) (cwV 2 C.1.2.2.2.2 gX5_two_X5_digit rfl rfl rfl n_X5_digit ⟨Nat.le_of_ble_eq_true rfl, Nat.le_of_ble_eq_true rfl⟩) rfl rfl [0, 1] [] rfl rfl ⟨by decide, by decide⟩ (by decide) [0, 1] (fun u26 => [(mA, cMo mref mscr msz u26.2 u26.1 mleft mread mnow mtri mdia macts mkept misk qp), (mscr, aN (cT 0) 120 sg)]) (fun _ => rfl) (by decide) rfl rfl (Nat.le_of_ble_eq_true rfl) ⟨Nat.zero_le _, Nat.zero_le _⟩ dX5_two_35 (fun r35 u26 h25 => ?_)
        obtain ⟨m27, m28⟩ := u26
        try dsimp only at h25 ⊢
        obtain ⟨-, rfl, rfl, rfl⟩ := h25.resolve_left (fun q => absurd q.1 (by decide))
        refine r_iaddN (pc := 38) C dX5_two_38 ?_
        subst hQ
        exact e_iW C hr hk (Nat.le_refl _) (Nat.le_refl _) ⟨0, mspot⟩ rfl (Or.inr (Or.inl ⟨rfl, _, pn_f1 h13, rfl, rfl⟩)) dX5_two_39
      · refine r_bi (pc := 29) (v := nI 9) C rfl dX5_two_29 ?_
        refine r_goto (pc := 31) (tgt := 35) C dX5_two_31 (by decide) ?_
        refine c_WVi (pc := 35) (As := [.int (nI 0), .int (nI 9)]) (wc := [(mA, cMo mref mscr msz mspot 0 mleft mread mnow mtri mdia macts mkept misk qp), (mscr, aN (cT 0) 120 sg)]) (wr := []) (qr := 0) C hA (k_X5_digit l D cT mA mref mscr msz mspot 0 mleft mread mnow mtri mdia macts mkept misk qp sg 0 9 (by first | assumption | omega) (by first | assumption | omega) (by first | assumption | omega) (by first | assumption | omega) (by first | assumption | omega) (by first | assumption | omega)) (cwV 2 C.1.2.2.2.2 gX5_two_X5_digit rfl rfl rfl n_X5_digit ⟨Nat.le_of_ble_eq_true rfl, Nat.le_of_ble_eq_true rfl⟩) rfl rfl [0, 1] [] rfl rfl ⟨by decide, by decide⟩ (by decide) [0, 1] (fun u30 => [(mA, cMo mref mscr msz u30.2 u30.1 mleft mread mnow mtri mdia macts mkept misk qp), (mscr, aN (cT 0) 120 sg)]) (fun _ => rfl) (by decide) rfl rfl (Nat.le_of_ble_eq_true rfl) ⟨Nat.zero_le _, Nat.zero_le _⟩ dX5_two_35 (fun r35 u30 h29 => ?_)
        obtain ⟨m31, m32⟩ := u30
        try dsimp only at h29 ⊢
        obtain ⟨-, rfl, rfl, rfl⟩ := h29.resolve_left (fun q => absurd q.1 (by decide))
        refine r_iaddN (pc := 38) C dX5_two_38 ?_
        subst hQ
        exact e_iW C hr hk (Nat.le_refl _) (Nat.le_refl _) ⟨0, mspot⟩ rfl (Or.inr (Or.inl ⟨rfl, _, pn_f1 h13, rfl, rfl⟩)) dX5_two_39

theorem iX5_count_X5 : ∀ w ∈ u_ws RX5 TX5 14, w ∈ wsX5_count := by decide +kernel
abbrev rmX5_count : Room := { frames := 0, cells := 0, slots := 0, locals := 0 }
theorem n_X5_count : yX5_count.cls = RX5 ∧ yX5_count.cls ≠ "java/lang/invoke/MethodHandle" ∧ yX5_count.cls ≠ "java/lang/invoke/VarHandle" ∧ (parseMethodDescriptor yX5_count.desc).map (fun d => d.parameters.length) = some 1 := by decide +kernel
set_option maxHeartbeats 4000000 in
set_option maxRecDepth 100000 in
theorem k_X5_count (l : Launch) (D : va_G) (cT : Nat → ClassId) (mA mref mscr msz mspot mgood mleft mread mnow mtri mdia macts mkept misk qp can : Nat) (hcan : can < 2) : MWv (S := Nat) l D cT yX5_count wsX5_count rmX5_count [.ref mA, .int (nI can)] [(mA, cMo mref mscr msz mspot mgood mleft mread mnow mtri mdia macts mkept misk qp)] (fun w9 => (mleft + if can = 0 then 1 else 0) = w9) (fun w9 => [(mA, cMo mref mscr msz mspot mgood w9 mread mnow mtri mdia macts mkept misk qp)]) 0 0 := by
  refine m_Wv [(0, .ref mA), (1, .int (nI can))] (by decide +kernel) rfl (Nat.le_of_ble_eq_true rfl) rfl ?_
  intro p e s m args below meth c A hAe C hA hr hk hnm_
  generalize hQ : MQ below (va_Qv _ _ A) args s 0 0 A = Q
  refine r_aln (pc := 0) C 0 rfl dX5_count_0 ?_
  refine r_dup (pc := 1) C rfl dX5_count_1 ?_
  refine r_get (pc := 2) C iX5_count_X5 0 rfl rfl 5 (by decide) (mw 1 rfl) rfl rfl dX5_count_2 ?_
  refine r_iln (pc := 5) C 1 rfl dX5_count_5 ?_
  refine r_zeqN (pc := 6) (tgt := 13) C (by omega) dX5_count_6 (by decide) (fun c6 => ?_) (fun c6 => ?_)
  · refine r_ic (pc := 13) (v := nI 1) C rfl dX5_count_13 ?_
    refine r_iaddN (pc := 14) C dX5_count_14 ?_
    refine r_put (pc := 15) (ws2 := [(mA, cMo mref mscr msz mspot mgood (mleft + 1) mread mnow mtri mdia macts mkept misk qp)]) C iX5_count_X5 tyX5_ok nmX5 0 rfl rfl 5 (by decide) (mw 1 rfl) rfl rfl rfl rfl (Nat.le_of_ble_eq_true rfl) rfl dX5_count_15 ?_
    subst hQ
    exact e_vW C hr hk (Nat.le_refl _) (Nat.le_refl _) (mleft + 1) rfl (congrArg (mleft + ·) (if_pos c6)) dX5_count_18
  · refine r_ic (pc := 9) (v := nI 0) C rfl dX5_count_9 ?_
    refine r_goto (pc := 10) (tgt := 14) C dX5_count_10 (by decide) ?_
    refine r_iaddN (pc := 14) C dX5_count_14 ?_
    refine r_put (pc := 15) (ws2 := [(mA, cMo mref mscr msz mspot mgood (mleft + 0) mread mnow mtri mdia macts mkept misk qp)]) C iX5_count_X5 tyX5_ok nmX5 0 rfl rfl 5 (by decide) (mw 1 rfl) rfl rfl rfl rfl (Nat.le_of_ble_eq_true rfl) rfl dX5_count_15 ?_
    subst hQ
    exact e_vW C hr hk (Nat.le_refl _) (Nat.le_refl _) (mleft + 0) rfl (congrArg (mleft + ·) (if_neg (by omega))) dX5_count_18

theorem iX5_readConnect_X5 : ∀ w ∈ u_ws RX5 TX5 14, w ∈ wsX5_readConnect := by decide +kernel
abbrev rmX5_readConnect : Room := { frames := 8, cells := 0, slots := 0, locals := 192 }
theorem n_X5_readConnect : yX5_readConnect.cls = RX5 ∧ yX5_readConnect.cls ≠ "java/lang/invoke/MethodHandle" ∧ yX5_readConnect.cls ≠ "java/lang/invoke/VarHandle" ∧ (parseMethodDescriptor yX5_readConnect.desc).map (fun d => d.parameters.length) = some 0 := by decide +kernel
set_option maxHeartbeats 4000000 in
set_option maxRecDepth 100000 in
theorem k_X5_readConnect (l : Launch) (D : va_G) (cT : Nat → ClassId) (mA mref mscr msz mspot mleft mread mnow mtri mdia macts mkept misk qp : Nat) (sg : Nat → Nat) (pl f : Nat → Int32) (u : SS) (p0 : Nat) (hR : RowQ f u) (hJ : JQ u) (hz : msz ≤ 120) (hp : mspot ≤ 120) (hsg : ∀ k, k < 120 → sg k < 256) (hp0 : p0 < msz) (hlt : sg p0 = 99) (he : mspot = p0 + 1) : MWv (S := Nat × Nat × Nat × (Nat → Int32) × (Nat → Int32)) l D cT yX5_readConnect wsX5_readConnect rmX5_readConnect [.ref mA] [(mA, cMo mref mscr msz mspot 1 mleft mread mnow mtri mdia macts mkept misk qp), (mscr, aN (cT 0) 120 sg), (qp, aI (cT 0) 16 pl), (mread, aI (cT 0) 104 f)] (fun w9 => RDq (u.fst * u.wid) u.mid (u.las * u.wid) msz sg u p0 mleft w9.1 w9.2.1 w9.2.2.1 w9.2.2.2.2) (fun w9 => [(mA, cMo mref mscr msz w9.2.1 w9.1 w9.2.2.1 mread mnow mtri mdia macts mkept misk qp), (mscr, aN (cT 0) 120 sg), (qp, aI (cT 0) 16 w9.2.2.2.1), (mread, aI (cT 0) 104 w9.2.2.2.2)]) 0 0 := by
  refine m_Wv [(0, .ref mA)] (by decide +kernel) rfl (Nat.le_of_ble_eq_true rfl) rfl ?_
  intro p e s m args below meth c A hAe C hA hr hk hnm_
  generalize hQ : MQ below (va_Qv _ _ A) args s 0 0 A = Q
  have hB := bd_of hJ
  obtain ⟨hF, hW, hM, hL, hPa, hBr, hCn, hFL, hE⟩ := id hB
  have hFW1 := mul44 hF hW
  have hLW1 := mul44 hL hW
  subst he
  refine r_aln (pc := 0) C 0 rfl dX5_readConnect_0 ?_
  refine r_aln (pc := 1) C 0 rfl dX5_readConnect_1 ?_
  refine r_get (pc := 2) C iX5_readConnect_X5 0 rfl rfl 6 (by decide) (mw 1 rfl) rfl rfl dX5_readConnect_2 ?_
  refine c_RS (pc := 5) (As := [.ref mread]) (wc := [(mread, aI (cT 0) 104 f)])  C (k_X5_inputs l D cT mread f u (by first | assumption | omega) (by first | assumption | omega)) (va_cwS 1 C.1.2.2.2.2 gX5_readConnect_X5_inputs rfl rfl rfl n_X5_inputs ⟨Nat.le_of_ble_eq_true rfl, Nat.le_of_ble_eq_true rfl⟩) [3] rfl rfl rfl (Nat.le_of_ble_eq_true rfl) ⟨Nat.zero_le _, Nat.zero_le _⟩ dX5_readConnect_5 (fun r5 h1 => ?_)
  subst h1
  refine r_ic (pc := 8) (v := nI 1) C rfl dX5_readConnect_8 ?_
  refine r_isubN (pc := 9) C (by omega) dX5_readConnect_9 ?_
  refine c_WVi (pc := 10) (As := [.int (nI ((u.fst * u.wid) - 1))]) (wc := [(mA, cMo mref mscr msz (p0 + 1) 1 mleft mread mnow mtri mdia macts mkept misk qp), (mscr, aN (cT 0) 120 sg)]) (wr := [(qp, aI (cT 0) 16 pl), (mread, aI (cT 0) 104 f)]) (qr := 0) C hA (k_X5_two l D cT mA mref mscr msz (p0 + 1) 1 mleft mread mnow mtri mdia macts mkept misk qp sg ((u.fst * u.wid) - 1) (by first | assumption | omega) (by first | assumption | omega) (by first | assumption | omega) (by first | assumption | omega) (by first | assumption | omega)) (cwV 1 C.1.2.2.2.2 gX5_readConnect_X5_two rfl rfl rfl n_X5_two ⟨Nat.le_of_ble_eq_true rfl, Nat.le_of_ble_eq_true rfl⟩) rfl rfl [0, 1] [2, 3] rfl rfl ⟨by decide, by decide⟩ (by decide) [2, 3, 0, 1] (fun u3 => [(mA, cMo mref mscr msz u3.2 u3.1 mleft mread mnow mtri mdia macts mkept misk qp), (mscr, aN (cT 0) 120 sg), (qp, aI (cT 0) 16 pl), (mread, aI (cT 0) 104 f)]) (fun _ => rfl) (by decide) rfl rfl (Nat.le_of_ble_eq_true rfl) ⟨Nat.zero_le _, Nat.zero_le _⟩ dX5_readConnect_10 (fun r10 u3 h2 => ?_)
  obtain ⟨m4, m5⟩ := u3
  try dsimp only at h2 ⊢
  rcases h2 with ⟨-, h2v, h2e, h2, rfl, rfl, rfl⟩ | ⟨-, h2e, h2, rfl, rfl⟩ | ⟨h2, -⟩
  · have h2b := pn_cases hz (by omega) h2
    refine r_isn (pc := 13) C [1, 0] [(0, .ref mA), (1, .int (nI h2v))] rfl (by decide) rfl dX5_readConnect_13 ?_
    refine r_aln (pc := 14) C 0 rfl dX5_readConnect_14 ?_
    refine r_aln (pc := 15) C 0 rfl dX5_readConnect_15 ?_
    refine r_get (pc := 16) C iX5_readConnect_X5 0 rfl rfl 6 (by decide) (mw 1 rfl) rfl rfl dX5_readConnect_16 ?_
    refine c_RS (pc := 19) (As := [.ref mread]) (wc := [(mread, aI (cT 0) 104 f)])  C (k_X5_outputs l D cT mread f u (by first | assumption | omega) (by first | assumption | omega)) (va_cwS 1 C.1.2.2.2.2 gX5_readConnect_X5_outputs rfl rfl rfl n_X5_outputs ⟨Nat.le_of_ble_eq_true rfl, Nat.le_of_ble_eq_true rfl⟩) [3] rfl rfl rfl (Nat.le_of_ble_eq_true rfl) ⟨Nat.zero_le _, Nat.zero_le _⟩ dX5_readConnect_19 (fun r19 h6 => ?_)
    subst h6
    refine r_ic (pc := 22) (v := nI 1) C rfl dX5_readConnect_22 ?_
    refine r_isubN (pc := 23) C (by omega) dX5_readConnect_23 ?_
    refine c_WVi (pc := 24) (As := [.int (nI ((u.las * u.wid) - 1))]) (wc := [(mA, cMo mref mscr msz h2e 1 mleft mread mnow mtri mdia macts mkept misk qp), (mscr, aN (cT 0) 120 sg)]) (wr := [(qp, aI (cT 0) 16 pl), (mread, aI (cT 0) 104 f)]) (qr := 0) C hA (k_X5_two l D cT mA mref mscr msz h2e 1 mleft mread mnow mtri mdia macts mkept misk qp sg ((u.las * u.wid) - 1) (by first | assumption | omega) (by first | assumption | omega) (by first | assumption | omega) (by first | assumption | omega) (by first | assumption | omega)) (cwV 1 C.1.2.2.2.2 gX5_readConnect_X5_two rfl rfl rfl n_X5_two ⟨Nat.le_of_ble_eq_true rfl, Nat.le_of_ble_eq_true rfl⟩) rfl rfl [0, 1] [2, 3] rfl rfl ⟨by decide, by decide⟩ (by decide) [2, 3, 0, 1] (fun u8 => [(mA, cMo mref mscr msz u8.2 u8.1 mleft mread mnow mtri mdia macts mkept misk qp), (mscr, aN (cT 0) 120 sg), (qp, aI (cT 0) 16 pl), (mread, aI (cT 0) 104 f)]) (fun _ => rfl) (by decide) rfl rfl (Nat.le_of_ble_eq_true rfl) ⟨Nat.zero_le _, Nat.zero_le _⟩ dX5_readConnect_24 (fun r24 u8 h7 => ?_)
    obtain ⟨m9, m10⟩ := u8
    try dsimp only at h7 ⊢
    rcases h7 with ⟨-, h7v, h7e, h7, rfl, rfl, rfl⟩ | ⟨-, h7e, h7, rfl, rfl⟩ | ⟨h7, -⟩
    · have h7b := pn_cases hz (by omega) h7
      refine r_isn (pc := 27) C [1, 2, 0] [(0, .ref mA), (1, .int (nI h2v)), (2, .int (nI h7v))] rfl (by decide) rfl dX5_readConnect_27 ?_
      refine r_aln (pc := 28) C 0 rfl dX5_readConnect_28 ?_
      refine r_get (pc := 29) C iX5_readConnect_X5 0 rfl rfl 4 (by decide) (mw 2 rfl) rfl rfl dX5_readConnect_29 ?_
      refine r_zeqN (pc := 32) (tgt := 58) C (by omega) dX5_readConnect_32 (by decide) (fun h => absurd h (by decide)) (fun _ => ?_)
      refine r_aln (pc := 35) C 0 rfl dX5_readConnect_35 ?_
      refine r_aln (pc := 36) C 0 rfl dX5_readConnect_36 ?_
      refine r_aln (pc := 37) C 0 rfl dX5_readConnect_37 ?_
      refine r_get (pc := 38) C iX5_readConnect_X5 0 rfl rfl 6 (by decide) (mw 1 rfl) rfl rfl dX5_readConnect_38 ?_
      refine r_iln (pc := 41) C 1 rfl dX5_readConnect_41 ?_
      refine r_iln (pc := 42) C 2 rfl dX5_readConnect_42 ?_
      refine c_WVi (pc := 43) (As := [.ref mread, .int (nI h2v), .int (nI h7v)]) (wc := [(mA, cMo mref mscr msz h7e 1 mleft mread mnow mtri mdia macts mkept misk qp), (qp, aI (cT 0) 16 pl), (mread, aI (cT 0) 104 f)]) (wr := [(mscr, aN (cT 0) 120 sg)]) (qr := 0) C hA (k_X5_connectIn l D cT mA mref mscr msz h7e 1 mleft mread mnow mtri mdia macts mkept misk qp pl mread f h2v h7v u hR hJ (by have := h2b; omega) (by have := h7b; omega)) (cwV 3 C.1.2.2.2.2 gX5_readConnect_X5_connectIn rfl rfl rfl n_X5_connectIn ⟨Nat.le_of_ble_eq_true rfl, Nat.le_of_ble_eq_true rfl⟩) rfl rfl [0, 2, 3] [1] rfl rfl ⟨by decide, by decide⟩ (by decide) [1, 0, 2, 3] (fun u12 => [(mA, cMo mref mscr msz h7e 1 mleft mread mnow mtri mdia macts mkept misk qp), (mscr, aN (cT 0) 120 sg), (qp, aI (cT 0) 16 u12.1), (mread, aI (cT 0) 104 u12.2)]) (fun _ => rfl) (by decide) rfl rfl (Nat.le_of_ble_eq_true rfl) ⟨Nat.zero_le _, Nat.zero_le _⟩ dX5_readConnect_43 (fun r43 u12 h11 => ?_)
      refine r_ic (pc := 46) (v := (-1)) C rfl dX5_readConnect_46 ?_
      refine r_ceq (pc := 47) (tgt := 54) C dX5_readConnect_47 (by decide) (fun c47 => ?_) (fun c47 => ?_)
      · refine r_ic (pc := 54) (v := nI 0) C rfl dX5_readConnect_54 ?_
        refine c_WVv (pc := 55) (As := [.int (nI 0)]) (wc := [(mA, cMo mref mscr msz h7e 1 mleft mread mnow mtri mdia macts mkept misk qp)]) (wr := [(mscr, aN (cT 0) 120 sg), (qp, aI (cT 0) 16 u12.1), (mread, aI (cT 0) 104 u12.2)]) (qr := 0) C hA (k_X5_count l D cT mA mref mscr msz h7e 1 mleft mread mnow mtri mdia macts mkept misk qp 0 (by first | assumption | omega)) (cwV 1 C.1.2.2.2.2 gX5_readConnect_X5_count rfl rfl rfl n_X5_count ⟨Nat.le_of_ble_eq_true rfl, Nat.le_of_ble_eq_true rfl⟩) rfl rfl [0] [1, 2, 3] rfl rfl ⟨by decide, by decide⟩ (by decide) [3, 0, 1, 2] (fun u14 => [(mA, cMo mref mscr msz h7e 1 u14 mread mnow mtri mdia macts mkept misk qp), (mscr, aN (cT 0) 120 sg), (qp, aI (cT 0) 16 u12.1), (mread, aI (cT 0) 104 u12.2)]) (fun _ => rfl) (by decide) rfl rfl (Nat.le_of_ble_eq_true rfl) ⟨Nat.zero_le _, Nat.zero_le _⟩ dX5_readConnect_55 (fun u14 h13 => ?_)
        have h13 := (congrArg (mleft + ·) (if_pos rfl) : _ = mleft + 1).symm.trans h13
        subst h13
        subst hQ
        exact e_vW C hr hk (Nat.le_refl _) (Nat.le_refl _) ⟨1, h7e, mleft + 1, u12.1, u12.2⟩ rfl (rd_c3 hJ hp0 hlt h2 h7 h11 (congrArg (mleft + ·) (if_pos c47).symm)) dX5_readConnect_58
      · refine r_ic (pc := 50) (v := nI 1) C rfl dX5_readConnect_50 ?_
        refine r_goto (pc := 51) (tgt := 55) C dX5_readConnect_51 (by decide) ?_
        refine c_WVv (pc := 55) (As := [.int (nI 1)]) (wc := [(mA, cMo mref mscr msz h7e 1 mleft mread mnow mtri mdia macts mkept misk qp)]) (wr := [(mscr, aN (cT 0) 120 sg), (qp, aI (cT 0) 16 u12.1), (mread, aI (cT 0) 104 u12.2)]) (qr := 0) C hA (k_X5_count l D cT mA mref mscr msz h7e 1 mleft mread mnow mtri mdia macts mkept misk qp 1 (by first | assumption | omega)) (cwV 1 C.1.2.2.2.2 gX5_readConnect_X5_count rfl rfl rfl n_X5_count ⟨Nat.le_of_ble_eq_true rfl, Nat.le_of_ble_eq_true rfl⟩) rfl rfl [0] [1, 2, 3] rfl rfl ⟨by decide, by decide⟩ (by decide) [3, 0, 1, 2] (fun u16 => [(mA, cMo mref mscr msz h7e 1 u16 mread mnow mtri mdia macts mkept misk qp), (mscr, aN (cT 0) 120 sg), (qp, aI (cT 0) 16 u12.1), (mread, aI (cT 0) 104 u12.2)]) (fun _ => rfl) (by decide) rfl rfl (Nat.le_of_ble_eq_true rfl) ⟨Nat.zero_le _, Nat.zero_le _⟩ dX5_readConnect_55 (fun u16 h15 => ?_)
        have h15 := (congrArg (mleft + ·) (if_neg (by decide)) : _ = mleft + 0).symm.trans h15
        subst h15
        subst hQ
        exact e_vW C hr hk (Nat.le_refl _) (Nat.le_refl _) ⟨1, h7e, mleft + 0, u12.1, u12.2⟩ rfl (rd_c3 hJ hp0 hlt h2 h7 h11 (congrArg (mleft + ·) (if_neg c47).symm)) dX5_readConnect_58
    · have h7b := pn_cases hz (by omega) h7
      refine r_isn (pc := 27) C [1, 2, 0] [(0, .ref mA), (1, .int (nI h2v)), (2, .int r24)] rfl (by decide) rfl dX5_readConnect_27 ?_
      refine r_aln (pc := 28) C 0 rfl dX5_readConnect_28 ?_
      refine r_get (pc := 29) C iX5_readConnect_X5 0 rfl rfl 4 (by decide) (mw 2 rfl) rfl rfl dX5_readConnect_29 ?_
      refine r_zeqN (pc := 32) (tgt := 58) C (by omega) dX5_readConnect_32 (by decide) (fun _ => ?_) (fun h => absurd h (by decide))
      subst hQ
      exact e_vW C hr hk (Nat.le_refl _) (Nat.le_refl _) ⟨0, h7e, mleft, pl, f⟩ rfl (rd_c2 hp0 hlt h2 h7) dX5_readConnect_58
    · exact absurd h7 (by decide)
  · have h2b := pn_cases hz (by omega) h2
    refine r_isn (pc := 13) C [1, 0] [(0, .ref mA), (1, .int r10)] rfl (by decide) rfl dX5_readConnect_13 ?_
    refine r_aln (pc := 14) C 0 rfl dX5_readConnect_14 ?_
    refine r_aln (pc := 15) C 0 rfl dX5_readConnect_15 ?_
    refine r_get (pc := 16) C iX5_readConnect_X5 0 rfl rfl 6 (by decide) (mw 1 rfl) rfl rfl dX5_readConnect_16 ?_
    refine c_RS (pc := 19) (As := [.ref mread]) (wc := [(mread, aI (cT 0) 104 f)])  C (k_X5_outputs l D cT mread f u (by first | assumption | omega) (by first | assumption | omega)) (va_cwS 1 C.1.2.2.2.2 gX5_readConnect_X5_outputs rfl rfl rfl n_X5_outputs ⟨Nat.le_of_ble_eq_true rfl, Nat.le_of_ble_eq_true rfl⟩) [3] rfl rfl rfl (Nat.le_of_ble_eq_true rfl) ⟨Nat.zero_le _, Nat.zero_le _⟩ dX5_readConnect_19 (fun r19 h17 => ?_)
    subst h17
    refine r_ic (pc := 22) (v := nI 1) C rfl dX5_readConnect_22 ?_
    refine r_isubN (pc := 23) C (by omega) dX5_readConnect_23 ?_
    refine c_WVi (pc := 24) (As := [.int (nI ((u.las * u.wid) - 1))]) (wc := [(mA, cMo mref mscr msz h2e 0 mleft mread mnow mtri mdia macts mkept misk qp), (mscr, aN (cT 0) 120 sg)]) (wr := [(qp, aI (cT 0) 16 pl), (mread, aI (cT 0) 104 f)]) (qr := 0) C hA (k_X5_two l D cT mA mref mscr msz h2e 0 mleft mread mnow mtri mdia macts mkept misk qp sg ((u.las * u.wid) - 1) (by first | assumption | omega) (by first | assumption | omega) (by first | assumption | omega) (by first | assumption | omega) (by first | assumption | omega)) (cwV 1 C.1.2.2.2.2 gX5_readConnect_X5_two rfl rfl rfl n_X5_two ⟨Nat.le_of_ble_eq_true rfl, Nat.le_of_ble_eq_true rfl⟩) rfl rfl [0, 1] [2, 3] rfl rfl ⟨by decide, by decide⟩ (by decide) [2, 3, 0, 1] (fun u19 => [(mA, cMo mref mscr msz u19.2 u19.1 mleft mread mnow mtri mdia macts mkept misk qp), (mscr, aN (cT 0) 120 sg), (qp, aI (cT 0) 16 pl), (mread, aI (cT 0) 104 f)]) (fun _ => rfl) (by decide) rfl rfl (Nat.le_of_ble_eq_true rfl) ⟨Nat.zero_le _, Nat.zero_le _⟩ dX5_readConnect_24 (fun r24 u19 h18 => ?_)
    obtain ⟨m20, m21⟩ := u19
    try dsimp only at h18 ⊢
    obtain ⟨-, rfl, rfl⟩ := (h18.resolve_left (fun q => absurd q.1 (by decide))).resolve_left (fun q => absurd q.1 (by decide))
    refine r_isn (pc := 27) C [1, 2, 0] [(0, .ref mA), (1, .int r10), (2, .int r24)] rfl (by decide) rfl dX5_readConnect_27 ?_
    refine r_aln (pc := 28) C 0 rfl dX5_readConnect_28 ?_
    refine r_get (pc := 29) C iX5_readConnect_X5 0 rfl rfl 4 (by decide) (mw 2 rfl) rfl rfl dX5_readConnect_29 ?_
    refine r_zeqN (pc := 32) (tgt := 58) C (by omega) dX5_readConnect_32 (by decide) (fun _ => ?_) (fun h => absurd h (by decide))
    subst hQ
    exact e_vW C hr hk (Nat.le_refl _) (Nat.le_refl _) ⟨0, h2e, mleft, pl, f⟩ rfl (rd_c1 hp0 hlt h2) dX5_readConnect_58
  · exact absurd h2 (by decide)

theorem iX5_readJoin_X5 : ∀ w ∈ u_ws RX5 TX5 14, w ∈ wsX5_readJoin := by decide +kernel
abbrev rmX5_readJoin : Room := { frames := 8, cells := 0, slots := 0, locals := 191 }
theorem n_X5_readJoin : yX5_readJoin.cls = RX5 ∧ yX5_readJoin.cls ≠ "java/lang/invoke/MethodHandle" ∧ yX5_readJoin.cls ≠ "java/lang/invoke/VarHandle" ∧ (parseMethodDescriptor yX5_readJoin.desc).map (fun d => d.parameters.length) = some 0 := by decide +kernel
set_option maxHeartbeats 4000000 in
set_option maxRecDepth 100000 in
theorem k_X5_readJoin (l : Launch) (D : va_G) (cT : Nat → ClassId) (mA mref mscr msz mspot mleft mread mnow mtri mdia macts mkept misk qp : Nat) (sg : Nat → Nat) (pl f : Nat → Int32) (u : SS) (p0 : Nat) (hR : RowQ f u) (hJ : JQ u) (hz : msz ≤ 120) (hp : mspot ≤ 120) (hsg : ∀ k, k < 120 → sg k < 256) (hp0 : p0 < msz) (hlt : sg p0 = 106) (he : mspot = p0 + 1) : MWv (S := Nat × Nat × Nat × (Nat → Int32) × (Nat → Int32)) l D cT yX5_readJoin wsX5_readJoin rmX5_readJoin [.ref mA] [(mA, cMo mref mscr msz mspot 1 mleft mread mnow mtri mdia macts mkept misk qp), (mscr, aN (cT 0) 120 sg), (qp, aI (cT 0) 16 pl), (mread, aI (cT 0) 104 f)] (fun w9 => RDq (u.fst * u.wid) u.mid (u.las * u.wid) msz sg u p0 mleft w9.1 w9.2.1 w9.2.2.1 w9.2.2.2.2) (fun w9 => [(mA, cMo mref mscr msz w9.2.1 w9.1 w9.2.2.1 mread mnow mtri mdia macts mkept misk qp), (mscr, aN (cT 0) 120 sg), (qp, aI (cT 0) 16 w9.2.2.2.1), (mread, aI (cT 0) 104 w9.2.2.2.2)]) 0 0 := by
  refine m_Wv [(0, .ref mA)] (by decide +kernel) rfl (Nat.le_of_ble_eq_true rfl) rfl ?_
  intro p e s m args below meth c A hAe C hA hr hk hnm_
  generalize hQ : MQ below (va_Qv _ _ A) args s 0 0 A = Q
  have hB := bd_of hJ
  obtain ⟨hF, hW, hM, hL, hPa, hBr, hCn, hFL, hE⟩ := id hB
  have hFW1 := mul44 hF hW
  have hLW1 := mul44 hL hW
  subst he
  refine r_aln (pc := 0) C 0 rfl dX5_readJoin_0 ?_
  refine r_bi (pc := 1) (v := nI 15) C rfl dX5_readJoin_1 ?_
  refine c_WVi (pc := 3) (As := [.int (nI 15)]) (wc := [(mA, cMo mref mscr msz (p0 + 1) 1 mleft mread mnow mtri mdia macts mkept misk qp), (mscr, aN (cT 0) 120 sg)]) (wr := [(qp, aI (cT 0) 16 pl), (mread, aI (cT 0) 104 f)]) (qr := 0) C hA (k_X5_two l D cT mA mref mscr msz (p0 + 1) 1 mleft mread mnow mtri mdia macts mkept misk qp sg 15 (by first | assumption | omega) (by first | assumption | omega) (by first | assumption | omega) (by first | assumption | omega) (by first | assumption | omega)) (cwV 1 C.1.2.2.2.2 gX5_readJoin_X5_two rfl rfl rfl n_X5_two ⟨Nat.le_of_ble_eq_true rfl, Nat.le_of_ble_eq_true rfl⟩) rfl rfl [0, 1] [2, 3] rfl rfl ⟨by decide, by decide⟩ (by decide) [2, 3, 0, 1] (fun u2 => [(mA, cMo mref mscr msz u2.2 u2.1 mleft mread mnow mtri mdia macts mkept misk qp), (mscr, aN (cT 0) 120 sg), (qp, aI (cT 0) 16 pl), (mread, aI (cT 0) 104 f)]) (fun _ => rfl) (by decide) rfl rfl (Nat.le_of_ble_eq_true rfl) ⟨Nat.zero_le _, Nat.zero_le _⟩ dX5_readJoin_3 (fun r3 u2 h1 => ?_)
  obtain ⟨m3, m4⟩ := u2
  try dsimp only at h1 ⊢
  rcases h1 with ⟨-, h1v, h1e, h1, rfl, rfl, rfl⟩ | ⟨-, h1e, h1, rfl, rfl⟩ | ⟨h1, -⟩
  · have h1b := pn_cases hz (by omega) h1
    refine r_isn (pc := 6) C [1, 0] [(0, .ref mA), (1, .int (nI h1v))] rfl (by decide) rfl dX5_readJoin_6 ?_
    refine r_aln (pc := 7) C 0 rfl dX5_readJoin_7 ?_
    refine r_aln (pc := 8) C 0 rfl dX5_readJoin_8 ?_
    refine r_get (pc := 9) C iX5_readJoin_X5 0 rfl rfl 6 (by decide) (mw 1 rfl) rfl rfl dX5_readJoin_9 ?_
    refine c_RS (pc := 12) (As := [.ref mread]) (wc := [(mread, aI (cT 0) 104 f)])  C (k_X5_outputs l D cT mread f u (by first | assumption | omega) (by first | assumption | omega)) (va_cwS 1 C.1.2.2.2.2 gX5_readJoin_X5_outputs rfl rfl rfl n_X5_outputs ⟨Nat.le_of_ble_eq_true rfl, Nat.le_of_ble_eq_true rfl⟩) [3] rfl rfl rfl (Nat.le_of_ble_eq_true rfl) ⟨Nat.zero_le _, Nat.zero_le _⟩ dX5_readJoin_12 (fun r12 h5 => ?_)
    subst h5
    refine r_ic (pc := 15) (v := nI 1) C rfl dX5_readJoin_15 ?_
    refine r_isubN (pc := 16) C (by first | omega | (have := h1b; omega) | (have := h2b; omega)) dX5_readJoin_16 ?_
    refine c_WVi (pc := 17) (As := [.int (nI ((u.las * u.wid) - 1))]) (wc := [(mA, cMo mref mscr msz h1e 1 mleft mread mnow mtri mdia macts mkept misk qp), (mscr, aN (cT 0) 120 sg)]) (wr := [(qp, aI (cT 0) 16 pl), (mread, aI (cT 0) 104 f)]) (qr := 0) C hA (k_X5_two l D cT mA mref mscr msz h1e 1 mleft mread mnow mtri mdia macts mkept misk qp sg ((u.las * u.wid) - 1) (by first | assumption | omega) (by first | assumption | omega) (by first | assumption | omega) (by first | assumption | omega) (by first | assumption | omega)) (cwV 1 C.1.2.2.2.2 gX5_readJoin_X5_two rfl rfl rfl n_X5_two ⟨Nat.le_of_ble_eq_true rfl, Nat.le_of_ble_eq_true rfl⟩) rfl rfl [0, 1] [2, 3] rfl rfl ⟨by decide, by decide⟩ (by decide) [2, 3, 0, 1] (fun u7 => [(mA, cMo mref mscr msz u7.2 u7.1 mleft mread mnow mtri mdia macts mkept misk qp), (mscr, aN (cT 0) 120 sg), (qp, aI (cT 0) 16 pl), (mread, aI (cT 0) 104 f)]) (fun _ => rfl) (by decide) rfl rfl (Nat.le_of_ble_eq_true rfl) ⟨Nat.zero_le _, Nat.zero_le _⟩ dX5_readJoin_17 (fun r17 u7 h6 => ?_)
    obtain ⟨m8, m9⟩ := u7
    try dsimp only at h6 ⊢
    rcases h6 with ⟨-, h6v, h6e, h6, rfl, rfl, rfl⟩ | ⟨-, h6e, h6, rfl, rfl⟩ | ⟨h6, -⟩
    · have h6b := pn_cases hz (by omega) h6
      refine r_isn (pc := 20) C [1, 2, 0] [(0, .ref mA), (1, .int (nI h1v)), (2, .int (nI h6v))] rfl (by decide) rfl dX5_readJoin_20 ?_
      refine r_aln (pc := 21) C 0 rfl dX5_readJoin_21 ?_
      refine r_get (pc := 22) C iX5_readJoin_X5 0 rfl rfl 4 (by decide) (mw 2 rfl) rfl rfl dX5_readJoin_22 ?_
      refine r_zeqN (pc := 25) (tgt := 61) C (by first | omega | (have := h1b; omega) | (have := h2b; omega)) dX5_readJoin_25 (by decide) (fun h => absurd h (by decide)) (fun _ => ?_)
      refine r_aln (pc := 28) C 0 rfl dX5_readJoin_28 ?_
      refine r_iln (pc := 29) C 1 rfl dX5_readJoin_29 ?_
      refine r_aln (pc := 30) C 0 rfl dX5_readJoin_30 ?_
      refine r_get (pc := 31) C iX5_readJoin_X5 0 rfl rfl 6 (by decide) (mw 1 rfl) rfl rfl dX5_readJoin_31 ?_
      refine r_ic (pc := 34) (v := nI 4) C rfl dX5_readJoin_34 ?_
      refine r_ialI (pc := 35) C 3 rfl (by first | omega | (have := h1b; omega) | (have := h2b; omega)) (by decide) dX5_readJoin_35 ?_
      refine r_v (y := nI u.cnt) hR.1.2.2.2.2.1 ?_
      refine r_cgeN (pc := 36) (tgt := 57) C (by first | omega | (have := h1b; omega) | (have := h2b; omega)) (by first | omega | (have := h1b; omega) | (have := h2b; omega)) dX5_readJoin_36 (by decide) (fun c36 => ?_) (fun c36 => ?_)
      · refine r_ic (pc := 57) (v := nI 0) C rfl dX5_readJoin_57 ?_
        refine c_WVv (pc := 58) (As := [.int (nI 0)]) (wc := [(mA, cMo mref mscr msz h6e 1 mleft mread mnow mtri mdia macts mkept misk qp)]) (wr := [(mscr, aN (cT 0) 120 sg), (qp, aI (cT 0) 16 pl), (mread, aI (cT 0) 104 f)]) (qr := 0) C hA (k_X5_count l D cT mA mref mscr msz h6e 1 mleft mread mnow mtri mdia macts mkept misk qp 0 (by first | assumption | omega)) (cwV 1 C.1.2.2.2.2 gX5_readJoin_X5_count rfl rfl rfl n_X5_count ⟨Nat.le_of_ble_eq_true rfl, Nat.le_of_ble_eq_true rfl⟩) rfl rfl [0] [1, 2, 3] rfl rfl ⟨by decide, by decide⟩ (by decide) [3, 0, 1, 2] (fun u11 => [(mA, cMo mref mscr msz h6e 1 u11 mread mnow mtri mdia macts mkept misk qp), (mscr, aN (cT 0) 120 sg), (qp, aI (cT 0) 16 pl), (mread, aI (cT 0) 104 f)]) (fun _ => rfl) (by decide) rfl rfl (Nat.le_of_ble_eq_true rfl) ⟨Nat.zero_le _, Nat.zero_le _⟩ dX5_readJoin_58 (fun u11 h10 => ?_)
        have h10 := (congrArg (mleft + ·) (if_pos rfl) : _ = mleft + 1).symm.trans h10
        subst h10
        subst hQ
        exact e_vW C hr hk (Nat.le_refl _) (Nat.le_refl _) ⟨1, h6e, mleft + 1, pl, f⟩ rfl (rd_j4 hJ hp0 hlt h1 h6 (by omega) (by have := h1b; omega) hR) dX5_readJoin_61
      · refine r_aln (pc := 39) C 0 rfl dX5_readJoin_39 ?_
        refine r_aln (pc := 40) C 0 rfl dX5_readJoin_40 ?_
        refine r_get (pc := 41) C iX5_readJoin_X5 0 rfl rfl 6 (by decide) (mw 1 rfl) rfl rfl dX5_readJoin_41 ?_
        refine r_iln (pc := 44) C 1 rfl dX5_readJoin_44 ?_
        refine r_iln (pc := 45) C 2 rfl dX5_readJoin_45 ?_
        refine c_WVi (pc := 46) (As := [.ref mread, .int (nI h1v), .int (nI h6v)]) (wc := [(mA, cMo mref mscr msz h6e 1 mleft mread mnow mtri mdia macts mkept misk qp), (qp, aI (cT 0) 16 pl), (mread, aI (cT 0) 104 f)]) (wr := [(mscr, aN (cT 0) 120 sg)]) (qr := 0) C hA (k_X5_joinIn l D cT mA mref mscr msz h6e 1 mleft mread mnow mtri mdia macts mkept misk qp pl mread f h1v h6v u hR hJ (by omega) (by have := h6b; omega)) (cwV 3 C.1.2.2.2.2 gX5_readJoin_X5_joinIn rfl rfl rfl n_X5_joinIn ⟨Nat.le_of_ble_eq_true rfl, Nat.le_of_ble_eq_true rfl⟩) rfl rfl [0, 2, 3] [1] rfl rfl ⟨by decide, by decide⟩ (by decide) [1, 0, 2, 3] (fun u13 => [(mA, cMo mref mscr msz h6e 1 mleft mread mnow mtri mdia macts mkept misk qp), (mscr, aN (cT 0) 120 sg), (qp, aI (cT 0) 16 u13.1), (mread, aI (cT 0) 104 u13.2)]) (fun _ => rfl) (by decide) rfl rfl (Nat.le_of_ble_eq_true rfl) ⟨Nat.zero_le _, Nat.zero_le _⟩ dX5_readJoin_46 (fun r46 u13 h12 => ?_)
        refine r_ic (pc := 49) (v := (-1)) C rfl dX5_readJoin_49 ?_
        refine r_ceq (pc := 50) (tgt := 57) C dX5_readJoin_50 (by decide) (fun c50 => ?_) (fun c50 => ?_)
        · refine r_ic (pc := 57) (v := nI 0) C rfl dX5_readJoin_57 ?_
          refine c_WVv (pc := 58) (As := [.int (nI 0)]) (wc := [(mA, cMo mref mscr msz h6e 1 mleft mread mnow mtri mdia macts mkept misk qp)]) (wr := [(mscr, aN (cT 0) 120 sg), (qp, aI (cT 0) 16 u13.1), (mread, aI (cT 0) 104 u13.2)]) (qr := 0) C hA (k_X5_count l D cT mA mref mscr msz h6e 1 mleft mread mnow mtri mdia macts mkept misk qp 0 (by first | assumption | omega)) (cwV 1 C.1.2.2.2.2 gX5_readJoin_X5_count rfl rfl rfl n_X5_count ⟨Nat.le_of_ble_eq_true rfl, Nat.le_of_ble_eq_true rfl⟩) rfl rfl [0] [1, 2, 3] rfl rfl ⟨by decide, by decide⟩ (by decide) [3, 0, 1, 2] (fun u15 => [(mA, cMo mref mscr msz h6e 1 u15 mread mnow mtri mdia macts mkept misk qp), (mscr, aN (cT 0) 120 sg), (qp, aI (cT 0) 16 u13.1), (mread, aI (cT 0) 104 u13.2)]) (fun _ => rfl) (by decide) rfl rfl (Nat.le_of_ble_eq_true rfl) ⟨Nat.zero_le _, Nat.zero_le _⟩ dX5_readJoin_58 (fun u15 h14 => ?_)
          have h14 := (congrArg (mleft + ·) (if_pos rfl) : _ = mleft + 1).symm.trans h14
          subst h14
          subst hQ
          exact e_vW C hr hk (Nat.le_refl _) (Nat.le_refl _) ⟨1, h6e, mleft + 1, u13.1, u13.2⟩ rfl (rd_j3 hJ hp0 hlt h1 h6 h12 (congrArg (mleft + ·) (if_pos c50).symm)) dX5_readJoin_61
        · refine r_ic (pc := 53) (v := nI 1) C rfl dX5_readJoin_53 ?_
          refine r_goto (pc := 54) (tgt := 58) C dX5_readJoin_54 (by decide) ?_
          refine c_WVv (pc := 58) (As := [.int (nI 1)]) (wc := [(mA, cMo mref mscr msz h6e 1 mleft mread mnow mtri mdia macts mkept misk qp)]) (wr := [(mscr, aN (cT 0) 120 sg), (qp, aI (cT 0) 16 u13.1), (mread, aI (cT 0) 104 u13.2)]) (qr := 0) C hA (k_X5_count l D cT mA mref mscr msz h6e 1 mleft mread mnow mtri mdia macts mkept misk qp 1 (by first | assumption | omega)) (cwV 1 C.1.2.2.2.2 gX5_readJoin_X5_count rfl rfl rfl n_X5_count ⟨Nat.le_of_ble_eq_true rfl, Nat.le_of_ble_eq_true rfl⟩) rfl rfl [0] [1, 2, 3] rfl rfl ⟨by decide, by decide⟩ (by decide) [3, 0, 1, 2] (fun u17 => [(mA, cMo mref mscr msz h6e 1 u17 mread mnow mtri mdia macts mkept misk qp), (mscr, aN (cT 0) 120 sg), (qp, aI (cT 0) 16 u13.1), (mread, aI (cT 0) 104 u13.2)]) (fun _ => rfl) (by decide) rfl rfl (Nat.le_of_ble_eq_true rfl) ⟨Nat.zero_le _, Nat.zero_le _⟩ dX5_readJoin_58 (fun u17 h16 => ?_)
          have h16 := (congrArg (mleft + ·) (if_neg (by decide)) : _ = mleft + 0).symm.trans h16
          subst h16
          subst hQ
          exact e_vW C hr hk (Nat.le_refl _) (Nat.le_refl _) ⟨1, h6e, mleft + 0, u13.1, u13.2⟩ rfl (rd_j3 hJ hp0 hlt h1 h6 h12 (congrArg (mleft + ·) (if_neg c50).symm)) dX5_readJoin_61
    · have h6b := pn_cases hz (by omega) h6
      refine r_isn (pc := 20) C [1, 2, 0] [(0, .ref mA), (1, .int (nI h1v)), (2, .int r17)] rfl (by decide) rfl dX5_readJoin_20 ?_
      refine r_aln (pc := 21) C 0 rfl dX5_readJoin_21 ?_
      refine r_get (pc := 22) C iX5_readJoin_X5 0 rfl rfl 4 (by decide) (mw 2 rfl) rfl rfl dX5_readJoin_22 ?_
      refine r_zeqN (pc := 25) (tgt := 61) C (by first | omega | (have := h1b; omega) | (have := h2b; omega)) dX5_readJoin_25 (by decide) (fun _ => ?_) (fun h => absurd h (by decide))
      subst hQ
      exact e_vW C hr hk (Nat.le_refl _) (Nat.le_refl _) ⟨0, h6e, mleft, pl, f⟩ rfl (rd_j2 hp0 hlt h1 h6) dX5_readJoin_61
    · exact absurd h6 (by decide)
  · have h1b := pn_cases hz (by omega) h1
    refine r_isn (pc := 6) C [1, 0] [(0, .ref mA), (1, .int r3)] rfl (by decide) rfl dX5_readJoin_6 ?_
    refine r_aln (pc := 7) C 0 rfl dX5_readJoin_7 ?_
    refine r_aln (pc := 8) C 0 rfl dX5_readJoin_8 ?_
    refine r_get (pc := 9) C iX5_readJoin_X5 0 rfl rfl 6 (by decide) (mw 1 rfl) rfl rfl dX5_readJoin_9 ?_
    refine c_RS (pc := 12) (As := [.ref mread]) (wc := [(mread, aI (cT 0) 104 f)])  C (k_X5_outputs l D cT mread f u (by first | assumption | omega) (by first | assumption | omega)) (va_cwS 1 C.1.2.2.2.2 gX5_readJoin_X5_outputs rfl rfl rfl n_X5_outputs ⟨Nat.le_of_ble_eq_true rfl, Nat.le_of_ble_eq_true rfl⟩) [3] rfl rfl rfl (Nat.le_of_ble_eq_true rfl) ⟨Nat.zero_le _, Nat.zero_le _⟩ dX5_readJoin_12 (fun r12 h18 => ?_)
    subst h18
    refine r_ic (pc := 15) (v := nI 1) C rfl dX5_readJoin_15 ?_
    refine r_isubN (pc := 16) C (by first | omega | (have := h1b; omega) | (have := h2b; omega)) dX5_readJoin_16 ?_
    refine c_WVi (pc := 17) (As := [.int (nI ((u.las * u.wid) - 1))]) (wc := [(mA, cMo mref mscr msz h1e 0 mleft mread mnow mtri mdia macts mkept misk qp), (mscr, aN (cT 0) 120 sg)]) (wr := [(qp, aI (cT 0) 16 pl), (mread, aI (cT 0) 104 f)]) (qr := 0) C hA (k_X5_two l D cT mA mref mscr msz h1e 0 mleft mread mnow mtri mdia macts mkept misk qp sg ((u.las * u.wid) - 1) (by first | assumption | omega) (by first | assumption | omega) (by first | assumption | omega) (by first | assumption | omega) (by first | assumption | omega)) (cwV 1 C.1.2.2.2.2 gX5_readJoin_X5_two rfl rfl rfl n_X5_two ⟨Nat.le_of_ble_eq_true rfl, Nat.le_of_ble_eq_true rfl⟩) rfl rfl [0, 1] [2, 3] rfl rfl ⟨by decide, by decide⟩ (by decide) [2, 3, 0, 1] (fun u20 => [(mA, cMo mref mscr msz u20.2 u20.1 mleft mread mnow mtri mdia macts mkept misk qp), (mscr, aN (cT 0) 120 sg), (qp, aI (cT 0) 16 pl), (mread, aI (cT 0) 104 f)]) (fun _ => rfl) (by decide) rfl rfl (Nat.le_of_ble_eq_true rfl) ⟨Nat.zero_le _, Nat.zero_le _⟩ dX5_readJoin_17 (fun r17 u20 h19 => ?_)
    obtain ⟨m21, m22⟩ := u20
    try dsimp only at h19 ⊢
    obtain ⟨-, rfl, rfl⟩ := (h19.resolve_left (fun q => absurd q.1 (by decide))).resolve_left (fun q => absurd q.1 (by decide))
    refine r_isn (pc := 20) C [1, 2, 0] [(0, .ref mA), (1, .int r3), (2, .int r17)] rfl (by decide) rfl dX5_readJoin_20 ?_
    refine r_aln (pc := 21) C 0 rfl dX5_readJoin_21 ?_
    refine r_get (pc := 22) C iX5_readJoin_X5 0 rfl rfl 4 (by decide) (mw 2 rfl) rfl rfl dX5_readJoin_22 ?_
    refine r_zeqN (pc := 25) (tgt := 61) C (by first | omega | (have := h1b; omega) | (have := h2b; omega)) dX5_readJoin_25 (by decide) (fun _ => ?_) (fun h => absurd h (by decide))
    subst hQ
    exact e_vW C hr hk (Nat.le_refl _) (Nat.le_refl _) ⟨0, h1e, mleft, pl, f⟩ rfl (rd_j1 hp0 hlt h1) dX5_readJoin_61
  · exact absurd h1 (by decide)

theorem iX5_readHang_X5 : ∀ w ∈ u_ws RX5 TX5 14, w ∈ wsX5_readHang := by decide +kernel
abbrev rmX5_readHang : Room := { frames := 3, cells := 0, slots := 0, locals := 71 }
theorem n_X5_readHang : yX5_readHang.cls = RX5 ∧ yX5_readHang.cls ≠ "java/lang/invoke/MethodHandle" ∧ yX5_readHang.cls ≠ "java/lang/invoke/VarHandle" ∧ (parseMethodDescriptor yX5_readHang.desc).map (fun d => d.parameters.length) = some 0 := by decide +kernel
set_option maxHeartbeats 4000000 in
set_option maxRecDepth 100000 in
theorem k_X5_readHang (l : Launch) (D : va_G) (cT : Nat → ClassId) (mA mref mscr msz mspot mleft mread mnow mtri mdia macts mkept misk qp : Nat) (sg : Nat → Nat) (pl f : Nat → Int32) (u : SS) (p0 : Nat) (hR : RowQ f u) (hJ : JQ u) (hz : msz ≤ 120) (hp : mspot ≤ 120) (hsg : ∀ k, k < 120 → sg k < 256) (hp0 : p0 < msz) (hlt : sg p0 = 104) (he : mspot = p0 + 1) : MWv (S := Nat × Nat × Nat × (Nat → Int32) × (Nat → Int32)) l D cT yX5_readHang wsX5_readHang rmX5_readHang [.ref mA] [(mA, cMo mref mscr msz mspot 1 mleft mread mnow mtri mdia macts mkept misk qp), (mscr, aN (cT 0) 120 sg), (qp, aI (cT 0) 16 pl), (mread, aI (cT 0) 104 f)] (fun w9 => RDq (u.fst * u.wid) u.mid (u.las * u.wid) msz sg u p0 mleft w9.1 w9.2.1 w9.2.2.1 w9.2.2.2.2) (fun w9 => [(mA, cMo mref mscr msz w9.2.1 w9.1 w9.2.2.1 mread mnow mtri mdia macts mkept misk qp), (mscr, aN (cT 0) 120 sg), (qp, aI (cT 0) 16 w9.2.2.2.1), (mread, aI (cT 0) 104 w9.2.2.2.2)]) 0 0 := by
  refine m_Wv [(0, .ref mA)] (by decide +kernel) rfl (Nat.le_of_ble_eq_true rfl) rfl ?_
  intro p e s m args below meth c A hAe C hA hr hk hnm_
  generalize hQ : MQ below (va_Qv _ _ A) args s 0 0 A = Q
  have hB := bd_of hJ
  obtain ⟨hF, hW, hM, hL, hPa, hBr, hCn, hFL, hE⟩ := id hB
  have hFW1 := mul44 hF hW
  have hLW1 := mul44 hL hW
  subst he
  refine r_aln (pc := 0) C 0 rfl dX5_readHang_0 ?_
  refine r_bi (pc := 1) (v := nI 15) C rfl dX5_readHang_1 ?_
  refine c_WVi (pc := 3) (As := [.int (nI 15)]) (wc := [(mA, cMo mref mscr msz (p0 + 1) 1 mleft mread mnow mtri mdia macts mkept misk qp), (mscr, aN (cT 0) 120 sg)]) (wr := [(qp, aI (cT 0) 16 pl), (mread, aI (cT 0) 104 f)]) (qr := 0) C hA (k_X5_two l D cT mA mref mscr msz (p0 + 1) 1 mleft mread mnow mtri mdia macts mkept misk qp sg 15 (by first | assumption | omega) (by first | assumption | omega) (by first | assumption | omega) (by first | assumption | omega) (by first | assumption | omega)) (cwV 1 C.1.2.2.2.2 gX5_readHang_X5_two rfl rfl rfl n_X5_two ⟨Nat.le_of_ble_eq_true rfl, Nat.le_of_ble_eq_true rfl⟩) rfl rfl [0, 1] [2, 3] rfl rfl ⟨by decide, by decide⟩ (by decide) [2, 3, 0, 1] (fun u2 => [(mA, cMo mref mscr msz u2.2 u2.1 mleft mread mnow mtri mdia macts mkept misk qp), (mscr, aN (cT 0) 120 sg), (qp, aI (cT 0) 16 pl), (mread, aI (cT 0) 104 f)]) (fun _ => rfl) (by decide) rfl rfl (Nat.le_of_ble_eq_true rfl) ⟨Nat.zero_le _, Nat.zero_le _⟩ dX5_readHang_3 (fun r3 u2 h1 => ?_)
  obtain ⟨m3, m4⟩ := u2
  try dsimp only at h1 ⊢
  rcases h1 with ⟨-, h1v, h1e, h1, rfl, rfl, rfl⟩ | ⟨-, h1e, h1, rfl, rfl⟩ | ⟨h1, -⟩
  · have h1b := pn_cases hz (by omega) h1
    refine r_isn (pc := 6) C [1, 0] [(0, .ref mA), (1, .int (nI h1v))] rfl (by decide) rfl dX5_readHang_6 ?_
    refine r_aln (pc := 7) C 0 rfl dX5_readHang_7 ?_
    refine r_get (pc := 8) C iX5_readHang_X5 0 rfl rfl 4 (by decide) (mw 1 rfl) rfl rfl dX5_readHang_8 ?_
    refine r_zeqN (pc := 11) (tgt := 51) C (by omega) dX5_readHang_11 (by decide) (fun h => absurd h (by decide)) (fun _ => ?_)
    refine r_aln (pc := 14) C 0 rfl dX5_readHang_14 ?_
    refine r_iln (pc := 15) C 1 rfl dX5_readHang_15 ?_
    refine r_aln (pc := 16) C 0 rfl dX5_readHang_16 ?_
    refine r_get (pc := 17) C iX5_readHang_X5 0 rfl rfl 6 (by decide) (mw 2 rfl) rfl rfl dX5_readHang_17 ?_
    refine r_ic (pc := 20) (v := nI 4) C rfl dX5_readHang_20 ?_
    refine r_ialI (pc := 21) C 3 rfl (by omega) (by decide) dX5_readHang_21 ?_
    refine r_v (y := nI u.cnt) hR.1.2.2.2.2.1 ?_
    refine r_cgeN (pc := 22) (tgt := 29) C (by omega) (by omega) dX5_readHang_22 (by decide) (fun c22 => ?_) (fun c22 => ?_)
    · refine r_ic (pc := 29) (v := nI 0) C rfl dX5_readHang_29 ?_
      refine c_WVv (pc := 30) (As := [.int (nI 0)]) (wc := [(mA, cMo mref mscr msz h1e 1 mleft mread mnow mtri mdia macts mkept misk qp)]) (wr := [(mscr, aN (cT 0) 120 sg), (qp, aI (cT 0) 16 pl), (mread, aI (cT 0) 104 f)]) (qr := 0) C hA (k_X5_count l D cT mA mref mscr msz h1e 1 mleft mread mnow mtri mdia macts mkept misk qp 0 (by first | assumption | omega)) (cwV 1 C.1.2.2.2.2 gX5_readHang_X5_count rfl rfl rfl n_X5_count ⟨Nat.le_of_ble_eq_true rfl, Nat.le_of_ble_eq_true rfl⟩) rfl rfl [0] [1, 2, 3] rfl rfl ⟨by decide, by decide⟩ (by decide) [3, 0, 1, 2] (fun u6 => [(mA, cMo mref mscr msz h1e 1 u6 mread mnow mtri mdia macts mkept misk qp), (mscr, aN (cT 0) 120 sg), (qp, aI (cT 0) 16 pl), (mread, aI (cT 0) 104 f)]) (fun _ => rfl) (by decide) rfl rfl (Nat.le_of_ble_eq_true rfl) ⟨Nat.zero_le _, Nat.zero_le _⟩ dX5_readHang_30 (fun u6 h5 => ?_)
      have h5 := (congrArg (mleft + ·) (if_pos rfl) : _ = mleft + 1).symm.trans h5
      subst h5
      refine r_iln (pc := 33) C 1 rfl dX5_readHang_33 ?_
      refine r_aln (pc := 34) C 0 rfl dX5_readHang_34 ?_
      refine r_get (pc := 35) C iX5_readHang_X5 0 rfl rfl 6 (by decide) (mw 2 rfl) rfl rfl dX5_readHang_35 ?_
      refine r_ic (pc := 38) (v := nI 4) C rfl dX5_readHang_38 ?_
      refine r_ialI (pc := 39) C 3 rfl (by omega) (by decide) dX5_readHang_39 ?_
      refine r_v (y := nI u.cnt) hR.1.2.2.2.2.1 ?_
      refine r_cgeN (pc := 40) (tgt := 51) C (by omega) (by omega) dX5_readHang_40 (by decide) (fun c40 => ?_) (fun c40 => absurd c40 (by omega))
      subst hQ
      exact e_vW C hr hk (Nat.le_refl _) (Nat.le_refl _) ⟨1, h1e, mleft + 1, pl, f⟩ rfl (rd_h3 hJ hp0 hlt h1 (by omega) (by have := h1b; omega) hR) dX5_readHang_51
    · refine r_ic (pc := 25) (v := nI 1) C rfl dX5_readHang_25 ?_
      refine r_goto (pc := 26) (tgt := 30) C dX5_readHang_26 (by decide) ?_
      refine c_WVv (pc := 30) (As := [.int (nI 1)]) (wc := [(mA, cMo mref mscr msz h1e 1 mleft mread mnow mtri mdia macts mkept misk qp)]) (wr := [(mscr, aN (cT 0) 120 sg), (qp, aI (cT 0) 16 pl), (mread, aI (cT 0) 104 f)]) (qr := 0) C hA (k_X5_count l D cT mA mref mscr msz h1e 1 mleft mread mnow mtri mdia macts mkept misk qp 1 (by first | assumption | omega)) (cwV 1 C.1.2.2.2.2 gX5_readHang_X5_count rfl rfl rfl n_X5_count ⟨Nat.le_of_ble_eq_true rfl, Nat.le_of_ble_eq_true rfl⟩) rfl rfl [0] [1, 2, 3] rfl rfl ⟨by decide, by decide⟩ (by decide) [3, 0, 1, 2] (fun u8 => [(mA, cMo mref mscr msz h1e 1 u8 mread mnow mtri mdia macts mkept misk qp), (mscr, aN (cT 0) 120 sg), (qp, aI (cT 0) 16 pl), (mread, aI (cT 0) 104 f)]) (fun _ => rfl) (by decide) rfl rfl (Nat.le_of_ble_eq_true rfl) ⟨Nat.zero_le _, Nat.zero_le _⟩ dX5_readHang_30 (fun u8 h7 => ?_)
      have h7 := (congrArg (mleft + ·) (if_neg (by decide)) : _ = mleft + 0).symm.trans h7
      subst h7
      refine r_iln (pc := 33) C 1 rfl dX5_readHang_33 ?_
      refine r_aln (pc := 34) C 0 rfl dX5_readHang_34 ?_
      refine r_get (pc := 35) C iX5_readHang_X5 0 rfl rfl 6 (by decide) (mw 2 rfl) rfl rfl dX5_readHang_35 ?_
      refine r_ic (pc := 38) (v := nI 4) C rfl dX5_readHang_38 ?_
      refine r_ialI (pc := 39) C 3 rfl (by omega) (by decide) dX5_readHang_39 ?_
      refine r_v (y := nI u.cnt) hR.1.2.2.2.2.1 ?_
      refine r_cgeN (pc := 40) (tgt := 51) C (by omega) (by omega) dX5_readHang_40 (by decide) (fun c40 => absurd c40 (by omega)) (fun c40 => ?_)
      refine r_aln (pc := 43) C 0 rfl dX5_readHang_43 ?_
      refine r_get (pc := 44) C iX5_readHang_X5 0 rfl rfl 6 (by decide) (mw 2 rfl) rfl rfl dX5_readHang_44 ?_
      refine r_iln (pc := 47) C 1 rfl dX5_readHang_47 ?_
      refine c_WSv (pc := 48) (As := [.ref mread, .int (nI h1v)]) (wc := [(mread, aI (cT 0) 104 f)]) (wr := [(mA, cMo mref mscr msz h1e 1 (mleft + 0) mread mnow mtri mdia macts mkept misk qp), (mscr, aN (cT 0) 120 sg), (qp, aI (cT 0) 16 pl)])  C hA (k_X5_hangIn l D cT mread f h1v u (by first | assumption | omega) (by first | assumption | omega) (by first | assumption | omega)) (va_cwS 2 C.1.2.2.2.2 gX5_readHang_X5_hangIn rfl rfl rfl n_X5_hangIn ⟨Nat.le_of_ble_eq_true rfl, Nat.le_of_ble_eq_true rfl⟩) [3] [0, 1, 2] rfl rfl ⟨by decide, by decide⟩ (by decide) [0, 1, 2, 3] (fun u10 => [(mA, cMo mref mscr msz h1e 1 (mleft + 0) mread mnow mtri mdia macts mkept misk qp), (mscr, aN (cT 0) 120 sg), (qp, aI (cT 0) 16 pl), (mread, aI (cT 0) 104 u10)]) (fun _ => rfl) (by decide) rfl rfl (Nat.le_of_ble_eq_true rfl) ⟨Nat.zero_le _, Nat.zero_le _⟩ dX5_readHang_48 (fun u10 h9 => ?_)
      subst hQ
      exact e_vW C hr hk (Nat.le_refl _) (Nat.le_refl _) ⟨1, h1e, mleft + 0, pl, u10⟩ rfl (rd_h2 hJ hp0 hlt h1 (by omega) h9) dX5_readHang_51
  · have h1b := pn_cases hz (by omega) h1
    refine r_isn (pc := 6) C [1, 0] [(0, .ref mA), (1, .int r3)] rfl (by decide) rfl dX5_readHang_6 ?_
    refine r_aln (pc := 7) C 0 rfl dX5_readHang_7 ?_
    refine r_get (pc := 8) C iX5_readHang_X5 0 rfl rfl 4 (by decide) (mw 1 rfl) rfl rfl dX5_readHang_8 ?_
    refine r_zeqN (pc := 11) (tgt := 51) C (by omega) dX5_readHang_11 (by decide) (fun _ => ?_) (fun h => absurd h (by decide))
    subst hQ
    exact e_vW C hr hk (Nat.le_refl _) (Nat.le_refl _) ⟨0, h1e, mleft, pl, f⟩ rfl (rd_h1 hp0 hlt h1) dX5_readHang_51
  · exact absurd h1 (by decide)

theorem iX5_readBreak_X5 : ∀ w ∈ u_ws RX5 TX5 14, w ∈ wsX5_readBreak := by decide +kernel
abbrev rmX5_readBreak : Room := { frames := 2, cells := 0, slots := 0, locals := 48 }
theorem n_X5_readBreak : yX5_readBreak.cls = RX5 ∧ yX5_readBreak.cls ≠ "java/lang/invoke/MethodHandle" ∧ yX5_readBreak.cls ≠ "java/lang/invoke/VarHandle" ∧ (parseMethodDescriptor yX5_readBreak.desc).map (fun d => d.parameters.length) = some 0 := by decide +kernel
set_option maxHeartbeats 4000000 in
set_option maxRecDepth 100000 in
theorem k_X5_readBreak (l : Launch) (D : va_G) (cT : Nat → ClassId) (mA mref mscr msz mspot mleft mread mnow mtri mdia macts mkept misk qp : Nat) (sg : Nat → Nat) (pl f : Nat → Int32) (u : SS) (p0 : Nat) (hR : RowQ f u) (hJ : JQ u) (hz : msz ≤ 120) (hp : mspot ≤ 120) (hsg : ∀ k, k < 120 → sg k < 256) (hp0 : p0 < msz) (hlt : sg p0 = 98) (he : mspot = p0 + 1) : MWv (S := Nat × Nat × Nat × (Nat → Int32) × (Nat → Int32)) l D cT yX5_readBreak wsX5_readBreak rmX5_readBreak [.ref mA] [(mA, cMo mref mscr msz mspot 1 mleft mread mnow mtri mdia macts mkept misk qp), (mscr, aN (cT 0) 120 sg), (qp, aI (cT 0) 16 pl), (mread, aI (cT 0) 104 f)] (fun w9 => RDq (u.fst * u.wid) u.mid (u.las * u.wid) msz sg u p0 mleft w9.1 w9.2.1 w9.2.2.1 w9.2.2.2.2) (fun w9 => [(mA, cMo mref mscr msz w9.2.1 w9.1 w9.2.2.1 mread mnow mtri mdia macts mkept misk qp), (mscr, aN (cT 0) 120 sg), (qp, aI (cT 0) 16 w9.2.2.2.1), (mread, aI (cT 0) 104 w9.2.2.2.2)]) 0 0 := by
  refine m_Wv [(0, .ref mA)] (by decide +kernel) rfl (Nat.le_of_ble_eq_true rfl) rfl ?_
  intro p e s m args below meth c A hAe C hA hr hk hnm_
  generalize hQ : MQ below (va_Qv _ _ A) args s 0 0 A = Q
  have hB := bd_of hJ
  obtain ⟨hF, hW, hM, hL, hPa, hBr, hCn, hFL, hE⟩ := id hB
  have hFW1 := mul44 hF hW
  have hLW1 := mul44 hL hW
  subst he
  refine r_aln (pc := 0) C 0 rfl dX5_readBreak_0 ?_
  refine r_ic (pc := 1) (v := nI 0) C rfl dX5_readBreak_1 ?_
  refine r_aln (pc := 2) C 0 rfl dX5_readBreak_2 ?_
  refine r_get (pc := 3) C iX5_readBreak_X5 0 rfl rfl 6 (by decide) (mw 1 rfl) rfl rfl dX5_readBreak_3 ?_
  refine r_ic (pc := 6) (v := nI 2) C rfl dX5_readBreak_6 ?_
  refine r_ialI (pc := 7) C 3 rfl (by first | omega | (have := h1b; omega)) (by decide) dX5_readBreak_7 ?_
  refine r_v (y := nI u.mid) hR.1.2.2.1 ?_
  refine r_ic (pc := 8) (v := nI 1) C rfl dX5_readBreak_8 ?_
  refine r_isubN (pc := 9) C (by first | omega | (have := h1b; omega)) dX5_readBreak_9 ?_
  refine c_WVi (pc := 10) (As := [.int (nI 0), .int (nI (u.mid - 1))]) (wc := [(mA, cMo mref mscr msz (p0 + 1) 1 mleft mread mnow mtri mdia macts mkept misk qp), (mscr, aN (cT 0) 120 sg)]) (wr := [(qp, aI (cT 0) 16 pl), (mread, aI (cT 0) 104 f)]) (qr := 0) C hA (k_X5_digit l D cT mA mref mscr msz (p0 + 1) 1 mleft mread mnow mtri mdia macts mkept misk qp sg 0 (u.mid - 1) (by first | assumption | omega) (by first | assumption | omega) (by first | assumption | omega) (by first | assumption | omega) (by first | assumption | omega) (by first | assumption | omega)) (cwV 2 C.1.2.2.2.2 gX5_readBreak_X5_digit rfl rfl rfl n_X5_digit ⟨Nat.le_of_ble_eq_true rfl, Nat.le_of_ble_eq_true rfl⟩) rfl rfl [0, 1] [2, 3] rfl rfl ⟨by decide, by decide⟩ (by decide) [2, 3, 0, 1] (fun u2 => [(mA, cMo mref mscr msz u2.2 u2.1 mleft mread mnow mtri mdia macts mkept misk qp), (mscr, aN (cT 0) 120 sg), (qp, aI (cT 0) 16 pl), (mread, aI (cT 0) 104 f)]) (fun _ => rfl) (by decide) rfl rfl (Nat.le_of_ble_eq_true rfl) ⟨Nat.zero_le _, Nat.zero_le _⟩ dX5_readBreak_10 (fun r10 u2 h1 => ?_)
  obtain ⟨m3, m4⟩ := u2
  try dsimp only at h1 ⊢
  rcases h1 with ⟨-, h1d, h1, rfl, rfl, rfl⟩ | ⟨h1, rfl, rfl, rfl⟩
  · have h1b := pd_some h1
    refine r_isn (pc := 13) C [1, 0] [(0, .ref mA), (1, .int (nI h1d))] rfl (by decide) rfl dX5_readBreak_13 ?_
    refine r_aln (pc := 14) C 0 rfl dX5_readBreak_14 ?_
    refine r_get (pc := 15) C iX5_readBreak_X5 0 rfl rfl 4 (by decide) (mw 2 rfl) rfl rfl dX5_readBreak_15 ?_
    refine r_zeqN (pc := 18) (tgt := 80) C (by first | omega | (have := h1b; omega)) dX5_readBreak_18 (by decide) (fun h => absurd h (by decide)) (fun _ => ?_)
    refine r_aln (pc := 21) C 0 rfl dX5_readBreak_21 ?_
    refine r_get (pc := 22) C iX5_readBreak_X5 0 rfl rfl 6 (by decide) (mw 1 rfl) rfl rfl dX5_readBreak_22 ?_
    refine r_bi (pc := 25) (v := nI 7) C rfl dX5_readBreak_25 ?_
    refine r_ialI (pc := 27) C 3 rfl (by first | omega | (have := h1b; omega)) (by decide) dX5_readBreak_27 ?_
    refine r_v (y := nI u.bro) hR.1.2.2.2.2.2.2.2 ?_
    refine r_iln (pc := 28) C 1 rfl dX5_readBreak_28 ?_
    refine r_ishrN (pc := 29) C (by omega) (by first | omega | (have := h1b; omega)) dX5_readBreak_29 ?_
    refine r_ic (pc := 30) (v := nI 1) C rfl dX5_readBreak_30 ?_
    refine r_iandN (pc := 31) C dX5_readBreak_31 ?_
    refine r_v (y := nI (u.bro.testBit h1d).toNat) (congrArg nI (rw_bit _ _)) ?_
    refine r_zneN (pc := 32) (tgt := 39) C bool_lt dX5_readBreak_32 (by decide) (fun c32 => ?_) (fun c32 => ?_)
    · have c32 := bool_1.mp c32
      refine r_ic (pc := 39) (v := nI 0) C rfl dX5_readBreak_39 ?_
      refine r_isn (pc := 40) C [1, 2, 0] [(0, .ref mA), (1, .int (nI h1d)), (2, .int (nI 0))] rfl (by decide) rfl dX5_readBreak_40 ?_
      refine r_iln (pc := 41) C 2 rfl dX5_readBreak_41 ?_
      refine r_zeqN (pc := 42) (tgt := 56) C (by first | omega | (have := h1b; omega)) dX5_readBreak_42 (by decide) (fun _ => ?_) (fun h => absurd h (by decide))
      refine r_ic (pc := 56) (v := nI 1) C rfl dX5_readBreak_56 ?_
      refine r_goto (pc := 57) (tgt := 61) C dX5_readBreak_57 (by decide) ?_
      refine r_isn (pc := 61) C [1, 2, 3, 0] [(0, .ref mA), (1, .int (nI h1d)), (2, .int (nI 0)), (3, .int (nI 1))] rfl (by decide) rfl dX5_readBreak_61 ?_
      refine r_aln (pc := 62) C 0 rfl dX5_readBreak_62 ?_
      refine r_iln (pc := 63) C 3 rfl dX5_readBreak_63 ?_
      refine c_WVv (pc := 64) (As := [.int (nI 1)]) (wc := [(mA, cMo mref mscr msz ((p0 + 1) + 1) 1 mleft mread mnow mtri mdia macts mkept misk qp)]) (wr := [(mscr, aN (cT 0) 120 sg), (qp, aI (cT 0) 16 pl), (mread, aI (cT 0) 104 f)]) (qr := 0) C hA (k_X5_count l D cT mA mref mscr msz ((p0 + 1) + 1) 1 mleft mread mnow mtri mdia macts mkept misk qp 1 (by first | assumption | omega)) (cwV 1 C.1.2.2.2.2 gX5_readBreak_X5_count rfl rfl rfl n_X5_count ⟨Nat.le_of_ble_eq_true rfl, Nat.le_of_ble_eq_true rfl⟩) rfl rfl [0] [1, 2, 3] rfl rfl ⟨by decide, by decide⟩ (by decide) [3, 0, 1, 2] (fun u6 => [(mA, cMo mref mscr msz ((p0 + 1) + 1) 1 u6 mread mnow mtri mdia macts mkept misk qp), (mscr, aN (cT 0) 120 sg), (qp, aI (cT 0) 16 pl), (mread, aI (cT 0) 104 f)]) (fun _ => rfl) (by decide) rfl rfl (Nat.le_of_ble_eq_true rfl) ⟨Nat.zero_le _, Nat.zero_le _⟩ dX5_readBreak_64 (fun u6 h5 => ?_)
      have h5 := (congrArg (mleft + ·) (if_neg (by decide)) : _ = mleft + 0).symm.trans h5
      subst h5
      refine r_iln (pc := 67) C 3 rfl dX5_readBreak_67 ?_
      refine r_zeqN (pc := 68) (tgt := 80) C (by first | omega | (have := h1b; omega)) dX5_readBreak_68 (by decide) (fun h => absurd h (by decide)) (fun _ => ?_)
      refine r_aln (pc := 71) C 0 rfl dX5_readBreak_71 ?_
      refine r_get (pc := 72) C iX5_readBreak_X5 0 rfl rfl 6 (by decide) (mw 1 rfl) rfl rfl dX5_readBreak_72 ?_
      refine r_iln (pc := 75) C 1 rfl dX5_readBreak_75 ?_
      refine r_iln (pc := 76) C 2 rfl dX5_readBreak_76 ?_
      refine c_WSv (pc := 77) (As := [.ref mread, .int (nI h1d), .int (nI 0)]) (wc := [(mread, aI (cT 0) 104 f)]) (wr := [(mA, cMo mref mscr msz ((p0 + 1) + 1) 1 (mleft + 0) mread mnow mtri mdia macts mkept misk qp), (mscr, aN (cT 0) 120 sg), (qp, aI (cT 0) 16 pl)])  C hA (k_X5_breakIn l D cT mread f h1d 0 u (by first | assumption | omega) (by first | assumption | omega) (by first | assumption | omega) (by first | assumption | omega)) (va_cwS 3 C.1.2.2.2.2 gX5_readBreak_X5_breakIn rfl rfl rfl n_X5_breakIn ⟨Nat.le_of_ble_eq_true rfl, Nat.le_of_ble_eq_true rfl⟩) [3] [0, 1, 2] rfl rfl ⟨by decide, by decide⟩ (by decide) [0, 1, 2, 3] (fun u8 => [(mA, cMo mref mscr msz ((p0 + 1) + 1) 1 (mleft + 0) mread mnow mtri mdia macts mkept misk qp), (mscr, aN (cT 0) 120 sg), (qp, aI (cT 0) 16 pl), (mread, aI (cT 0) 104 u8)]) (fun _ => rfl) (by decide) rfl rfl (Nat.le_of_ble_eq_true rfl) ⟨Nat.zero_le _, Nat.zero_le _⟩ dX5_readBreak_77 (fun u8 h7 => ?_)
      subst hQ
      exact e_vW C hr hk (Nat.le_refl _) (Nat.le_refl _) ⟨1, (p0 + 1) + 1, mleft + 0, pl, u8⟩ rfl (rd_b2 (is := 0) hJ hp0 hlt h1 (by have := h1b; omega) (if_pos c32).symm (fun q => absurd q (by decide)) h7) dX5_readBreak_80
    · have c32 := bool_0.mp c32
      refine r_ic (pc := 35) (v := nI 1) C rfl dX5_readBreak_35 ?_
      refine r_goto (pc := 36) (tgt := 40) C dX5_readBreak_36 (by decide) ?_
      refine r_isn (pc := 40) C [1, 2, 0] [(0, .ref mA), (1, .int (nI h1d)), (2, .int (nI 1))] rfl (by decide) rfl dX5_readBreak_40 ?_
      refine r_iln (pc := 41) C 2 rfl dX5_readBreak_41 ?_
      refine r_zeqN (pc := 42) (tgt := 56) C (by first | omega | (have := h1b; omega)) dX5_readBreak_42 (by decide) (fun h => absurd h (by decide)) (fun _ => ?_)
      refine r_aln (pc := 45) C 0 rfl dX5_readBreak_45 ?_
      refine r_get (pc := 46) C iX5_readBreak_X5 0 rfl rfl 6 (by decide) (mw 1 rfl) rfl rfl dX5_readBreak_46 ?_
      refine r_iln (pc := 49) C 1 rfl dX5_readBreak_49 ?_
      refine c_RS (pc := 50) (As := [.ref mread, .int (nI h1d)]) (wc := [(mread, aI (cT 0) 104 f)])  C (k_X5_canBreak l D cT mread f h1d u (by first | assumption | omega) (by first | assumption | omega) (by first | assumption | omega)) (va_cwS 2 C.1.2.2.2.2 gX5_readBreak_X5_canBreak rfl rfl rfl n_X5_canBreak ⟨Nat.le_of_ble_eq_true rfl, Nat.le_of_ble_eq_true rfl⟩) [3] rfl rfl rfl (Nat.le_of_ble_eq_true rfl) ⟨Nat.zero_le _, Nat.zero_le _⟩ dX5_readBreak_50 (fun r50 h9 => ?_)
      rcases h9 with ⟨rfl, h9⟩ | ⟨rfl, h9⟩
      · refine r_zeqN (pc := 53) (tgt := 60) C (by first | omega | (have := h1b; omega)) dX5_readBreak_53 (by decide) (fun h => absurd h (by decide)) (fun _ => ?_)
        refine r_ic (pc := 56) (v := nI 1) C rfl dX5_readBreak_56 ?_
        refine r_goto (pc := 57) (tgt := 61) C dX5_readBreak_57 (by decide) ?_
        refine r_isn (pc := 61) C [1, 2, 3, 0] [(0, .ref mA), (1, .int (nI h1d)), (2, .int (nI 1)), (3, .int (nI 1))] rfl (by decide) rfl dX5_readBreak_61 ?_
        refine r_aln (pc := 62) C 0 rfl dX5_readBreak_62 ?_
        refine r_iln (pc := 63) C 3 rfl dX5_readBreak_63 ?_
        refine c_WVv (pc := 64) (As := [.int (nI 1)]) (wc := [(mA, cMo mref mscr msz ((p0 + 1) + 1) 1 mleft mread mnow mtri mdia macts mkept misk qp)]) (wr := [(mscr, aN (cT 0) 120 sg), (qp, aI (cT 0) 16 pl), (mread, aI (cT 0) 104 f)]) (qr := 0) C hA (k_X5_count l D cT mA mref mscr msz ((p0 + 1) + 1) 1 mleft mread mnow mtri mdia macts mkept misk qp 1 (by first | assumption | omega)) (cwV 1 C.1.2.2.2.2 gX5_readBreak_X5_count rfl rfl rfl n_X5_count ⟨Nat.le_of_ble_eq_true rfl, Nat.le_of_ble_eq_true rfl⟩) rfl rfl [0] [1, 2, 3] rfl rfl ⟨by decide, by decide⟩ (by decide) [3, 0, 1, 2] (fun u11 => [(mA, cMo mref mscr msz ((p0 + 1) + 1) 1 u11 mread mnow mtri mdia macts mkept misk qp), (mscr, aN (cT 0) 120 sg), (qp, aI (cT 0) 16 pl), (mread, aI (cT 0) 104 f)]) (fun _ => rfl) (by decide) rfl rfl (Nat.le_of_ble_eq_true rfl) ⟨Nat.zero_le _, Nat.zero_le _⟩ dX5_readBreak_64 (fun u11 h10 => ?_)
        have h10 := (congrArg (mleft + ·) (if_neg (by decide)) : _ = mleft + 0).symm.trans h10
        subst h10
        refine r_iln (pc := 67) C 3 rfl dX5_readBreak_67 ?_
        refine r_zeqN (pc := 68) (tgt := 80) C (by first | omega | (have := h1b; omega)) dX5_readBreak_68 (by decide) (fun h => absurd h (by decide)) (fun _ => ?_)
        refine r_aln (pc := 71) C 0 rfl dX5_readBreak_71 ?_
        refine r_get (pc := 72) C iX5_readBreak_X5 0 rfl rfl 6 (by decide) (mw 1 rfl) rfl rfl dX5_readBreak_72 ?_
        refine r_iln (pc := 75) C 1 rfl dX5_readBreak_75 ?_
        refine r_iln (pc := 76) C 2 rfl dX5_readBreak_76 ?_
        refine c_WSv (pc := 77) (As := [.ref mread, .int (nI h1d), .int (nI 1)]) (wc := [(mread, aI (cT 0) 104 f)]) (wr := [(mA, cMo mref mscr msz ((p0 + 1) + 1) 1 (mleft + 0) mread mnow mtri mdia macts mkept misk qp), (mscr, aN (cT 0) 120 sg), (qp, aI (cT 0) 16 pl)])  C hA (k_X5_breakIn l D cT mread f h1d 1 u (by first | assumption | omega) (by first | assumption | omega) (by first | assumption | omega) (by first | assumption | omega)) (va_cwS 3 C.1.2.2.2.2 gX5_readBreak_X5_breakIn rfl rfl rfl n_X5_breakIn ⟨Nat.le_of_ble_eq_true rfl, Nat.le_of_ble_eq_true rfl⟩) [3] [0, 1, 2] rfl rfl ⟨by decide, by decide⟩ (by decide) [0, 1, 2, 3] (fun u13 => [(mA, cMo mref mscr msz ((p0 + 1) + 1) 1 (mleft + 0) mread mnow mtri mdia macts mkept misk qp), (mscr, aN (cT 0) 120 sg), (qp, aI (cT 0) 16 pl), (mread, aI (cT 0) 104 u13)]) (fun _ => rfl) (by decide) rfl rfl (Nat.le_of_ble_eq_true rfl) ⟨Nat.zero_le _, Nat.zero_le _⟩ dX5_readBreak_77 (fun u13 h12 => ?_)
        subst hQ
        exact e_vW C hr hk (Nat.le_refl _) (Nat.le_refl _) ⟨1, (p0 + 1) + 1, mleft + 0, pl, u13⟩ rfl (rd_b2 (is := 1) hJ hp0 hlt h1 (by have := h1b; omega) (if_neg (by rw [c32]; decide)).symm (fun _ => h9) h12) dX5_readBreak_80
      · refine r_zeqN (pc := 53) (tgt := 60) C (by first | omega | (have := h1b; omega)) dX5_readBreak_53 (by decide) (fun _ => ?_) (fun h => absurd h (by decide))
        refine r_ic (pc := 60) (v := nI 0) C rfl dX5_readBreak_60 ?_
        refine r_isn (pc := 61) C [1, 2, 3, 0] [(0, .ref mA), (1, .int (nI h1d)), (2, .int (nI 1)), (3, .int (nI 0))] rfl (by decide) rfl dX5_readBreak_61 ?_
        refine r_aln (pc := 62) C 0 rfl dX5_readBreak_62 ?_
        refine r_iln (pc := 63) C 3 rfl dX5_readBreak_63 ?_
        refine c_WVv (pc := 64) (As := [.int (nI 0)]) (wc := [(mA, cMo mref mscr msz ((p0 + 1) + 1) 1 mleft mread mnow mtri mdia macts mkept misk qp)]) (wr := [(mscr, aN (cT 0) 120 sg), (qp, aI (cT 0) 16 pl), (mread, aI (cT 0) 104 f)]) (qr := 0) C hA (k_X5_count l D cT mA mref mscr msz ((p0 + 1) + 1) 1 mleft mread mnow mtri mdia macts mkept misk qp 0 (by first | assumption | omega)) (cwV 1 C.1.2.2.2.2 gX5_readBreak_X5_count rfl rfl rfl n_X5_count ⟨Nat.le_of_ble_eq_true rfl, Nat.le_of_ble_eq_true rfl⟩) rfl rfl [0] [1, 2, 3] rfl rfl ⟨by decide, by decide⟩ (by decide) [3, 0, 1, 2] (fun u15 => [(mA, cMo mref mscr msz ((p0 + 1) + 1) 1 u15 mread mnow mtri mdia macts mkept misk qp), (mscr, aN (cT 0) 120 sg), (qp, aI (cT 0) 16 pl), (mread, aI (cT 0) 104 f)]) (fun _ => rfl) (by decide) rfl rfl (Nat.le_of_ble_eq_true rfl) ⟨Nat.zero_le _, Nat.zero_le _⟩ dX5_readBreak_64 (fun u15 h14 => ?_)
        have h14 := (congrArg (mleft + ·) (if_pos rfl) : _ = mleft + 1).symm.trans h14
        subst h14
        refine r_iln (pc := 67) C 3 rfl dX5_readBreak_67 ?_
        refine r_zeqN (pc := 68) (tgt := 80) C (by first | omega | (have := h1b; omega)) dX5_readBreak_68 (by decide) (fun _ => ?_) (fun h => absurd h (by decide))
        subst hQ
        exact e_vW C hr hk (Nat.le_refl _) (Nat.le_refl _) ⟨1, (p0 + 1) + 1, mleft + 1, pl, f⟩ rfl (rd_b3 (is := 1) hJ hp0 hlt h1 (by have := h1b; omega) (if_neg (by rw [c32]; decide)).symm (by decide) h9 hR) dX5_readBreak_80
  · have h1 := h1.resolve_left (by decide)
    refine r_isn (pc := 13) C [1, 0] [(0, .ref mA), (1, .int (nI 0))] rfl (by decide) rfl dX5_readBreak_13 ?_
    refine r_aln (pc := 14) C 0 rfl dX5_readBreak_14 ?_
    refine r_get (pc := 15) C iX5_readBreak_X5 0 rfl rfl 4 (by decide) (mw 2 rfl) rfl rfl dX5_readBreak_15 ?_
    refine r_zeqN (pc := 18) (tgt := 80) C (by first | omega | (have := h1b; omega)) dX5_readBreak_18 (by decide) (fun _ => ?_) (fun h => absurd h (by decide))
    subst hQ
    exact e_vW C hr hk (Nat.le_refl _) (Nat.le_refl _) ⟨0, p0 + 1, mleft, pl, f⟩ rfl (rd_b1 hp0 hlt h1) dX5_readBreak_80

theorem iX5_readCommand_X5 : ∀ w ∈ u_ws RX5 TX5 14, w ∈ wsX5_readCommand := by decide +kernel
abbrev rmX5_readCommand : Room := { frames := 9, cells := 0, slots := 0, locals := 214 }
theorem n_X5_readCommand : yX5_readCommand.cls = RX5 ∧ yX5_readCommand.cls ≠ "java/lang/invoke/MethodHandle" ∧ yX5_readCommand.cls ≠ "java/lang/invoke/VarHandle" ∧ (parseMethodDescriptor yX5_readCommand.desc).map (fun d => d.parameters.length) = some 0 := by decide +kernel
set_option maxHeartbeats 4000000 in
set_option maxRecDepth 100000 in
theorem k_X5_readCommand (l : Launch) (D : va_G) (cT : Nat → ClassId) (mA mref mscr msz mspot mleft mread mnow mtri mdia macts mkept misk qp : Nat) (sg : Nat → Nat) (pl f : Nat → Int32) (u : SS) (hR : RowQ f u) (hJ : JQ u) (hz : msz ≤ 120) (hp : mspot ≤ 120) (hsg : ∀ k, k < 120 → sg k < 256) (hps : mspot < msz) : MWv (S := Nat × Nat × Nat × (Nat → Int32) × (Nat → Int32)) l D cT yX5_readCommand wsX5_readCommand rmX5_readCommand [.ref mA] [(mA, cMo mref mscr msz mspot 1 mleft mread mnow mtri mdia macts mkept misk qp), (mscr, aN (cT 0) 120 sg), (qp, aI (cT 0) 16 pl), (mread, aI (cT 0) 104 f)] (fun w9 => RDq (u.fst * u.wid) u.mid (u.las * u.wid) msz sg u mspot mleft w9.1 w9.2.1 w9.2.2.1 w9.2.2.2.2) (fun w9 => [(mA, cMo mref mscr msz w9.2.1 w9.1 w9.2.2.1 mread mnow mtri mdia macts mkept misk qp), (mscr, aN (cT 0) 120 sg), (qp, aI (cT 0) 16 w9.2.2.2.1), (mread, aI (cT 0) 104 w9.2.2.2.2)]) 0 0 := by
  refine m_Wv [(0, .ref mA)] (by decide +kernel) rfl (Nat.le_of_ble_eq_true rfl) rfl ?_
  intro p e s m args below meth c A hAe C hA hr hk hnm_
  generalize hQ : MQ below (va_Qv _ _ A) args s 0 0 A = Q
  have hB := bd_of hJ
  obtain ⟨hF, hW, hM, hL, hPa, hBr, hCn, hFL, hE⟩ := id hB
  have hFW1 := mul44 hF hW
  have hLW1 := mul44 hL hW
  refine r_aln (pc := 0) C 0 rfl dX5_readCommand_0 ?_
  refine r_get (pc := 1) C iX5_readCommand_X5 0 rfl rfl 1 (by decide) (mw 1 rfl) rfl rfl dX5_readCommand_1 ?_
  refine r_aln (pc := 4) C 0 rfl dX5_readCommand_4 ?_
  refine r_get (pc := 5) C iX5_readCommand_X5 0 rfl rfl 3 (by decide) (mw 2 rfl) rfl rfl dX5_readCommand_5 ?_
  refine r_ialN (pc := 8) C 1 rfl (by first | omega | (have := hsg mspot (by omega); omega)) (by decide) dX5_readCommand_8 ?_
  refine r_isn (pc := 9) C [1, 0] [(0, .ref mA), (1, .int (nI (sg mspot)))] rfl (by decide) rfl dX5_readCommand_9 ?_
  refine r_aln (pc := 10) C 0 rfl dX5_readCommand_10 ?_
  refine r_iln (pc := 11) C 1 rfl dX5_readCommand_11 ?_
  refine r_bi (pc := 12) (v := nI 99) C rfl dX5_readCommand_12 ?_
  refine r_ceqN (pc := 14) (tgt := 41) C (by first | omega | (have := hsg mspot (by omega); omega)) (by first | omega | (have := hsg mspot (by omega); omega)) dX5_readCommand_14 (by decide) (fun c14 => ?_) (fun c14 => ?_)
  · refine r_ic (pc := 41) (v := nI 1) C rfl dX5_readCommand_41 ?_
    refine r_goto (pc := 42) (tgt := 46) C dX5_readCommand_42 (by decide) ?_
    refine c_WVv (pc := 46) (As := [.int (nI 1)]) (wc := [(mA, cMo mref mscr msz mspot 1 mleft mread mnow mtri mdia macts mkept misk qp)]) (wr := [(mscr, aN (cT 0) 120 sg), (qp, aI (cT 0) 16 pl), (mread, aI (cT 0) 104 f)]) (qr := 0) C hA (k_X5_accept l D cT mA mref mscr msz mspot 1 mleft mread mnow mtri mdia macts mkept misk qp 1 (by first | assumption | omega) (by first | assumption | omega)) (cwV 1 C.1.2.2.2.2 gX5_readCommand_X5_accept rfl rfl rfl n_X5_accept ⟨Nat.le_of_ble_eq_true rfl, Nat.le_of_ble_eq_true rfl⟩) rfl rfl [0] [1, 2, 3] rfl rfl ⟨by decide, by decide⟩ (by decide) [3, 0, 1, 2] (fun u2 => [(mA, cMo mref mscr msz u2.2 u2.1 mleft mread mnow mtri mdia macts mkept misk qp), (mscr, aN (cT 0) 120 sg), (qp, aI (cT 0) 16 pl), (mread, aI (cT 0) 104 f)]) (fun _ => rfl) (by decide) rfl rfl (Nat.le_of_ble_eq_true rfl) ⟨Nat.zero_le _, Nat.zero_le _⟩ dX5_readCommand_46 (fun u2 h1 => ?_)
    obtain ⟨m3, m4⟩ := u2
    try dsimp only at h1 ⊢
    obtain ⟨h1a, h1b, rfl, rfl⟩ := h1.resolve_right (fun q => q.1 ⟨rfl, rfl⟩)
    refine r_aln (pc := 49) C 0 rfl dX5_readCommand_49 ?_
    refine r_get (pc := 50) C iX5_readCommand_X5 0 rfl rfl 4 (by decide) (mw 3 rfl) rfl rfl dX5_readCommand_50 ?_
    refine r_zneN (pc := 53) (tgt := 57) C (by first | omega | (have := hsg mspot (by omega); omega)) dX5_readCommand_53 (by decide) (fun _ => ?_) (fun h => absurd h (by decide))
    refine r_iln (pc := 57) C 1 rfl dX5_readCommand_57 ?_
    refine r_bi (pc := 58) (v := nI 99) C rfl dX5_readCommand_58 ?_
    refine r_cneN (pc := 60) (tgt := 70) C (by first | omega | (have := hsg mspot (by omega); omega)) (by first | omega | (have := hsg mspot (by omega); omega)) dX5_readCommand_60 (by decide) (fun c60 => absurd c60 (by omega)) (fun c60 => ?_)
    refine r_aln (pc := 63) C 0 rfl dX5_readCommand_63 ?_
    refine c_WVv (pc := 64) (As := []) (wc := [(mA, cMo mref mscr msz (mspot + 1) 1 mleft mread mnow mtri mdia macts mkept misk qp), (mscr, aN (cT 0) 120 sg), (qp, aI (cT 0) 16 pl), (mread, aI (cT 0) 104 f)]) (wr := []) (qr := 0) C hA (k_X5_readConnect l D cT mA mref mscr msz (mspot + 1) mleft mread mnow mtri mdia macts mkept misk qp sg pl f u mspot (by first | assumption | omega) (by first | assumption | omega) (by first | assumption | omega) (by first | assumption | omega) (by first | assumption | omega) (by first | assumption | omega) (by first | assumption | omega) (by first | assumption | omega)) (cwV 0 C.1.2.2.2.2 gX5_readCommand_X5_readConnect rfl rfl rfl n_X5_readConnect ⟨Nat.le_of_ble_eq_true rfl, Nat.le_of_ble_eq_true rfl⟩) rfl rfl [0, 1, 2, 3] [] rfl rfl ⟨by decide, by decide⟩ (by decide) [0, 1, 2, 3] (fun u6 => [(mA, cMo mref mscr msz u6.2.1 u6.1 u6.2.2.1 mread mnow mtri mdia macts mkept misk qp), (mscr, aN (cT 0) 120 sg), (qp, aI (cT 0) 16 u6.2.2.2.1), (mread, aI (cT 0) 104 u6.2.2.2.2)]) (fun _ => rfl) (by decide) rfl rfl (Nat.le_of_ble_eq_true rfl) ⟨Nat.zero_le _, Nat.zero_le _⟩ dX5_readCommand_64 (fun u6 h5 => ?_)
    refine r_goto (pc := 67) (tgt := 139) C dX5_readCommand_67 (by decide) ?_
    subst hQ
    exact e_vW C hr hk (Nat.le_refl _) (Nat.le_refl _) ⟨u6.1, u6.2.1, u6.2.2.1, u6.2.2.2.1, u6.2.2.2.2⟩ rfl h5 dX5_readCommand_139
  · refine r_iln (pc := 17) C 1 rfl dX5_readCommand_17 ?_
    refine r_bi (pc := 18) (v := nI 106) C rfl dX5_readCommand_18 ?_
    refine r_ceqN (pc := 20) (tgt := 41) C (by first | omega | (have := hsg mspot (by omega); omega)) (by first | omega | (have := hsg mspot (by omega); omega)) dX5_readCommand_20 (by decide) (fun c20 => ?_) (fun c20 => ?_)
    · refine r_ic (pc := 41) (v := nI 1) C rfl dX5_readCommand_41 ?_
      refine r_goto (pc := 42) (tgt := 46) C dX5_readCommand_42 (by decide) ?_
      refine c_WVv (pc := 46) (As := [.int (nI 1)]) (wc := [(mA, cMo mref mscr msz mspot 1 mleft mread mnow mtri mdia macts mkept misk qp)]) (wr := [(mscr, aN (cT 0) 120 sg), (qp, aI (cT 0) 16 pl), (mread, aI (cT 0) 104 f)]) (qr := 0) C hA (k_X5_accept l D cT mA mref mscr msz mspot 1 mleft mread mnow mtri mdia macts mkept misk qp 1 (by first | assumption | omega) (by first | assumption | omega)) (cwV 1 C.1.2.2.2.2 gX5_readCommand_X5_accept rfl rfl rfl n_X5_accept ⟨Nat.le_of_ble_eq_true rfl, Nat.le_of_ble_eq_true rfl⟩) rfl rfl [0] [1, 2, 3] rfl rfl ⟨by decide, by decide⟩ (by decide) [3, 0, 1, 2] (fun u8 => [(mA, cMo mref mscr msz u8.2 u8.1 mleft mread mnow mtri mdia macts mkept misk qp), (mscr, aN (cT 0) 120 sg), (qp, aI (cT 0) 16 pl), (mread, aI (cT 0) 104 f)]) (fun _ => rfl) (by decide) rfl rfl (Nat.le_of_ble_eq_true rfl) ⟨Nat.zero_le _, Nat.zero_le _⟩ dX5_readCommand_46 (fun u8 h7 => ?_)
      obtain ⟨m9, m10⟩ := u8
      try dsimp only at h7 ⊢
      obtain ⟨h7a, h7b, rfl, rfl⟩ := h7.resolve_right (fun q => q.1 ⟨rfl, rfl⟩)
      refine r_aln (pc := 49) C 0 rfl dX5_readCommand_49 ?_
      refine r_get (pc := 50) C iX5_readCommand_X5 0 rfl rfl 4 (by decide) (mw 3 rfl) rfl rfl dX5_readCommand_50 ?_
      refine r_zneN (pc := 53) (tgt := 57) C (by first | omega | (have := hsg mspot (by omega); omega)) dX5_readCommand_53 (by decide) (fun _ => ?_) (fun h => absurd h (by decide))
      refine r_iln (pc := 57) C 1 rfl dX5_readCommand_57 ?_
      refine r_bi (pc := 58) (v := nI 99) C rfl dX5_readCommand_58 ?_
      refine r_cneN (pc := 60) (tgt := 70) C (by first | omega | (have := hsg mspot (by omega); omega)) (by first | omega | (have := hsg mspot (by omega); omega)) dX5_readCommand_60 (by decide) (fun c60 => ?_) (fun c60 => absurd c60 (by omega))
      refine r_iln (pc := 70) C 1 rfl dX5_readCommand_70 ?_
      refine r_bi (pc := 71) (v := nI 106) C rfl dX5_readCommand_71 ?_
      refine r_cneN (pc := 73) (tgt := 83) C (by first | omega | (have := hsg mspot (by omega); omega)) (by first | omega | (have := hsg mspot (by omega); omega)) dX5_readCommand_73 (by decide) (fun c73 => absurd c73 (by omega)) (fun c73 => ?_)
      refine r_aln (pc := 76) C 0 rfl dX5_readCommand_76 ?_
      refine c_WVv (pc := 77) (As := []) (wc := [(mA, cMo mref mscr msz (mspot + 1) 1 mleft mread mnow mtri mdia macts mkept misk qp), (mscr, aN (cT 0) 120 sg), (qp, aI (cT 0) 16 pl), (mread, aI (cT 0) 104 f)]) (wr := []) (qr := 0) C hA (k_X5_readJoin l D cT mA mref mscr msz (mspot + 1) mleft mread mnow mtri mdia macts mkept misk qp sg pl f u mspot (by first | assumption | omega) (by first | assumption | omega) (by first | assumption | omega) (by first | assumption | omega) (by first | assumption | omega) (by first | assumption | omega) (by first | assumption | omega) (by first | assumption | omega)) (cwV 0 C.1.2.2.2.2 gX5_readCommand_X5_readJoin rfl rfl rfl n_X5_readJoin ⟨Nat.le_of_ble_eq_true rfl, Nat.le_of_ble_eq_true rfl⟩) rfl rfl [0, 1, 2, 3] [] rfl rfl ⟨by decide, by decide⟩ (by decide) [0, 1, 2, 3] (fun u12 => [(mA, cMo mref mscr msz u12.2.1 u12.1 u12.2.2.1 mread mnow mtri mdia macts mkept misk qp), (mscr, aN (cT 0) 120 sg), (qp, aI (cT 0) 16 u12.2.2.2.1), (mread, aI (cT 0) 104 u12.2.2.2.2)]) (fun _ => rfl) (by decide) rfl rfl (Nat.le_of_ble_eq_true rfl) ⟨Nat.zero_le _, Nat.zero_le _⟩ dX5_readCommand_77 (fun u12 h11 => ?_)
      refine r_goto (pc := 80) (tgt := 139) C dX5_readCommand_80 (by decide) ?_
      subst hQ
      exact e_vW C hr hk (Nat.le_refl _) (Nat.le_refl _) ⟨u12.1, u12.2.1, u12.2.2.1, u12.2.2.2.1, u12.2.2.2.2⟩ rfl h11 dX5_readCommand_139
    · refine r_iln (pc := 23) C 1 rfl dX5_readCommand_23 ?_
      refine r_bi (pc := 24) (v := nI 104) C rfl dX5_readCommand_24 ?_
      refine r_ceqN (pc := 26) (tgt := 41) C (by first | omega | (have := hsg mspot (by omega); omega)) (by first | omega | (have := hsg mspot (by omega); omega)) dX5_readCommand_26 (by decide) (fun c26 => ?_) (fun c26 => ?_)
      · refine r_ic (pc := 41) (v := nI 1) C rfl dX5_readCommand_41 ?_
        refine r_goto (pc := 42) (tgt := 46) C dX5_readCommand_42 (by decide) ?_
        refine c_WVv (pc := 46) (As := [.int (nI 1)]) (wc := [(mA, cMo mref mscr msz mspot 1 mleft mread mnow mtri mdia macts mkept misk qp)]) (wr := [(mscr, aN (cT 0) 120 sg), (qp, aI (cT 0) 16 pl), (mread, aI (cT 0) 104 f)]) (qr := 0) C hA (k_X5_accept l D cT mA mref mscr msz mspot 1 mleft mread mnow mtri mdia macts mkept misk qp 1 (by first | assumption | omega) (by first | assumption | omega)) (cwV 1 C.1.2.2.2.2 gX5_readCommand_X5_accept rfl rfl rfl n_X5_accept ⟨Nat.le_of_ble_eq_true rfl, Nat.le_of_ble_eq_true rfl⟩) rfl rfl [0] [1, 2, 3] rfl rfl ⟨by decide, by decide⟩ (by decide) [3, 0, 1, 2] (fun u14 => [(mA, cMo mref mscr msz u14.2 u14.1 mleft mread mnow mtri mdia macts mkept misk qp), (mscr, aN (cT 0) 120 sg), (qp, aI (cT 0) 16 pl), (mread, aI (cT 0) 104 f)]) (fun _ => rfl) (by decide) rfl rfl (Nat.le_of_ble_eq_true rfl) ⟨Nat.zero_le _, Nat.zero_le _⟩ dX5_readCommand_46 (fun u14 h13 => ?_)
        obtain ⟨m15, m16⟩ := u14
        try dsimp only at h13 ⊢
        obtain ⟨h13a, h13b, rfl, rfl⟩ := h13.resolve_right (fun q => q.1 ⟨rfl, rfl⟩)
        refine r_aln (pc := 49) C 0 rfl dX5_readCommand_49 ?_
        refine r_get (pc := 50) C iX5_readCommand_X5 0 rfl rfl 4 (by decide) (mw 3 rfl) rfl rfl dX5_readCommand_50 ?_
        refine r_zneN (pc := 53) (tgt := 57) C (by first | omega | (have := hsg mspot (by omega); omega)) dX5_readCommand_53 (by decide) (fun _ => ?_) (fun h => absurd h (by decide))
        refine r_iln (pc := 57) C 1 rfl dX5_readCommand_57 ?_
        refine r_bi (pc := 58) (v := nI 99) C rfl dX5_readCommand_58 ?_
        refine r_cneN (pc := 60) (tgt := 70) C (by first | omega | (have := hsg mspot (by omega); omega)) (by first | omega | (have := hsg mspot (by omega); omega)) dX5_readCommand_60 (by decide) (fun c60 => ?_) (fun c60 => absurd c60 (by omega))
        refine r_iln (pc := 70) C 1 rfl dX5_readCommand_70 ?_
        refine r_bi (pc := 71) (v := nI 106) C rfl dX5_readCommand_71 ?_
        refine r_cneN (pc := 73) (tgt := 83) C (by first | omega | (have := hsg mspot (by omega); omega)) (by first | omega | (have := hsg mspot (by omega); omega)) dX5_readCommand_73 (by decide) (fun c73 => ?_) (fun c73 => absurd c73 (by omega))
        refine r_iln (pc := 83) C 1 rfl dX5_readCommand_83 ?_
        refine r_bi (pc := 84) (v := nI 104) C rfl dX5_readCommand_84 ?_
        refine r_cneN (pc := 86) (tgt := 96) C (by first | omega | (have := hsg mspot (by omega); omega)) (by first | omega | (have := hsg mspot (by omega); omega)) dX5_readCommand_86 (by decide) (fun c86 => absurd c86 (by omega)) (fun c86 => ?_)
        refine r_aln (pc := 89) C 0 rfl dX5_readCommand_89 ?_
        refine c_WVv (pc := 90) (As := []) (wc := [(mA, cMo mref mscr msz (mspot + 1) 1 mleft mread mnow mtri mdia macts mkept misk qp), (mscr, aN (cT 0) 120 sg), (qp, aI (cT 0) 16 pl), (mread, aI (cT 0) 104 f)]) (wr := []) (qr := 0) C hA (k_X5_readHang l D cT mA mref mscr msz (mspot + 1) mleft mread mnow mtri mdia macts mkept misk qp sg pl f u mspot (by first | assumption | omega) (by first | assumption | omega) (by first | assumption | omega) (by first | assumption | omega) (by first | assumption | omega) (by first | assumption | omega) (by first | assumption | omega) (by first | assumption | omega)) (cwV 0 C.1.2.2.2.2 gX5_readCommand_X5_readHang rfl rfl rfl n_X5_readHang ⟨Nat.le_of_ble_eq_true rfl, Nat.le_of_ble_eq_true rfl⟩) rfl rfl [0, 1, 2, 3] [] rfl rfl ⟨by decide, by decide⟩ (by decide) [0, 1, 2, 3] (fun u18 => [(mA, cMo mref mscr msz u18.2.1 u18.1 u18.2.2.1 mread mnow mtri mdia macts mkept misk qp), (mscr, aN (cT 0) 120 sg), (qp, aI (cT 0) 16 u18.2.2.2.1), (mread, aI (cT 0) 104 u18.2.2.2.2)]) (fun _ => rfl) (by decide) rfl rfl (Nat.le_of_ble_eq_true rfl) ⟨Nat.zero_le _, Nat.zero_le _⟩ dX5_readCommand_90 (fun u18 h17 => ?_)
        refine r_goto (pc := 93) (tgt := 139) C dX5_readCommand_93 (by decide) ?_
        subst hQ
        exact e_vW C hr hk (Nat.le_refl _) (Nat.le_refl _) ⟨u18.1, u18.2.1, u18.2.2.1, u18.2.2.2.1, u18.2.2.2.2⟩ rfl h17 dX5_readCommand_139
      · refine r_iln (pc := 29) C 1 rfl dX5_readCommand_29 ?_
        refine r_bi (pc := 30) (v := nI 98) C rfl dX5_readCommand_30 ?_
        refine r_ceqN (pc := 32) (tgt := 41) C (by first | omega | (have := hsg mspot (by omega); omega)) (by first | omega | (have := hsg mspot (by omega); omega)) dX5_readCommand_32 (by decide) (fun c32 => ?_) (fun c32 => ?_)
        · refine r_ic (pc := 41) (v := nI 1) C rfl dX5_readCommand_41 ?_
          refine r_goto (pc := 42) (tgt := 46) C dX5_readCommand_42 (by decide) ?_
          refine c_WVv (pc := 46) (As := [.int (nI 1)]) (wc := [(mA, cMo mref mscr msz mspot 1 mleft mread mnow mtri mdia macts mkept misk qp)]) (wr := [(mscr, aN (cT 0) 120 sg), (qp, aI (cT 0) 16 pl), (mread, aI (cT 0) 104 f)]) (qr := 0) C hA (k_X5_accept l D cT mA mref mscr msz mspot 1 mleft mread mnow mtri mdia macts mkept misk qp 1 (by first | assumption | omega) (by first | assumption | omega)) (cwV 1 C.1.2.2.2.2 gX5_readCommand_X5_accept rfl rfl rfl n_X5_accept ⟨Nat.le_of_ble_eq_true rfl, Nat.le_of_ble_eq_true rfl⟩) rfl rfl [0] [1, 2, 3] rfl rfl ⟨by decide, by decide⟩ (by decide) [3, 0, 1, 2] (fun u20 => [(mA, cMo mref mscr msz u20.2 u20.1 mleft mread mnow mtri mdia macts mkept misk qp), (mscr, aN (cT 0) 120 sg), (qp, aI (cT 0) 16 pl), (mread, aI (cT 0) 104 f)]) (fun _ => rfl) (by decide) rfl rfl (Nat.le_of_ble_eq_true rfl) ⟨Nat.zero_le _, Nat.zero_le _⟩ dX5_readCommand_46 (fun u20 h19 => ?_)
          obtain ⟨m21, m22⟩ := u20
          try dsimp only at h19 ⊢
          obtain ⟨h19a, h19b, rfl, rfl⟩ := h19.resolve_right (fun q => q.1 ⟨rfl, rfl⟩)
          refine r_aln (pc := 49) C 0 rfl dX5_readCommand_49 ?_
          refine r_get (pc := 50) C iX5_readCommand_X5 0 rfl rfl 4 (by decide) (mw 3 rfl) rfl rfl dX5_readCommand_50 ?_
          refine r_zneN (pc := 53) (tgt := 57) C (by first | omega | (have := hsg mspot (by omega); omega)) dX5_readCommand_53 (by decide) (fun _ => ?_) (fun h => absurd h (by decide))
          refine r_iln (pc := 57) C 1 rfl dX5_readCommand_57 ?_
          refine r_bi (pc := 58) (v := nI 99) C rfl dX5_readCommand_58 ?_
          refine r_cneN (pc := 60) (tgt := 70) C (by first | omega | (have := hsg mspot (by omega); omega)) (by first | omega | (have := hsg mspot (by omega); omega)) dX5_readCommand_60 (by decide) (fun c60 => ?_) (fun c60 => absurd c60 (by omega))
          refine r_iln (pc := 70) C 1 rfl dX5_readCommand_70 ?_
          refine r_bi (pc := 71) (v := nI 106) C rfl dX5_readCommand_71 ?_
          refine r_cneN (pc := 73) (tgt := 83) C (by first | omega | (have := hsg mspot (by omega); omega)) (by first | omega | (have := hsg mspot (by omega); omega)) dX5_readCommand_73 (by decide) (fun c73 => ?_) (fun c73 => absurd c73 (by omega))
          refine r_iln (pc := 83) C 1 rfl dX5_readCommand_83 ?_
          refine r_bi (pc := 84) (v := nI 104) C rfl dX5_readCommand_84 ?_
          refine r_cneN (pc := 86) (tgt := 96) C (by first | omega | (have := hsg mspot (by omega); omega)) (by first | omega | (have := hsg mspot (by omega); omega)) dX5_readCommand_86 (by decide) (fun c86 => ?_) (fun c86 => absurd c86 (by omega))
          refine r_iln (pc := 96) C 1 rfl dX5_readCommand_96 ?_
          refine r_bi (pc := 97) (v := nI 98) C rfl dX5_readCommand_97 ?_
          refine r_cneN (pc := 99) (tgt := 109) C (by first | omega | (have := hsg mspot (by omega); omega)) (by first | omega | (have := hsg mspot (by omega); omega)) dX5_readCommand_99 (by decide) (fun c99 => absurd c99 (by omega)) (fun c99 => ?_)
          refine r_aln (pc := 102) C 0 rfl dX5_readCommand_102 ?_
          refine c_WVv (pc := 103) (As := []) (wc := [(mA, cMo mref mscr msz (mspot + 1) 1 mleft mread mnow mtri mdia macts mkept misk qp), (mscr, aN (cT 0) 120 sg), (qp, aI (cT 0) 16 pl), (mread, aI (cT 0) 104 f)]) (wr := []) (qr := 0) C hA (k_X5_readBreak l D cT mA mref mscr msz (mspot + 1) mleft mread mnow mtri mdia macts mkept misk qp sg pl f u mspot (by first | assumption | omega) (by first | assumption | omega) (by first | assumption | omega) (by first | assumption | omega) (by first | assumption | omega) (by first | assumption | omega) (by first | assumption | omega) (by first | assumption | omega)) (cwV 0 C.1.2.2.2.2 gX5_readCommand_X5_readBreak rfl rfl rfl n_X5_readBreak ⟨Nat.le_of_ble_eq_true rfl, Nat.le_of_ble_eq_true rfl⟩) rfl rfl [0, 1, 2, 3] [] rfl rfl ⟨by decide, by decide⟩ (by decide) [0, 1, 2, 3] (fun u24 => [(mA, cMo mref mscr msz u24.2.1 u24.1 u24.2.2.1 mread mnow mtri mdia macts mkept misk qp), (mscr, aN (cT 0) 120 sg), (qp, aI (cT 0) 16 u24.2.2.2.1), (mread, aI (cT 0) 104 u24.2.2.2.2)]) (fun _ => rfl) (by decide) rfl rfl (Nat.le_of_ble_eq_true rfl) ⟨Nat.zero_le _, Nat.zero_le _⟩ dX5_readCommand_103 (fun u24 h23 => ?_)
          refine r_goto (pc := 106) (tgt := 139) C dX5_readCommand_106 (by decide) ?_
          subst hQ
          exact e_vW C hr hk (Nat.le_refl _) (Nat.le_refl _) ⟨u24.1, u24.2.1, u24.2.2.1, u24.2.2.2.1, u24.2.2.2.2⟩ rfl h23 dX5_readCommand_139
        · refine r_iln (pc := 35) C 1 rfl dX5_readCommand_35 ?_
          refine r_bi (pc := 36) (v := nI 112) C rfl dX5_readCommand_36 ?_
          refine r_cneN (pc := 38) (tgt := 45) C (by first | omega | (have := hsg mspot (by omega); omega)) (by first | omega | (have := hsg mspot (by omega); omega)) dX5_readCommand_38 (by decide) (fun c38 => ?_) (fun c38 => ?_)
          · refine r_ic (pc := 45) (v := nI 0) C rfl dX5_readCommand_45 ?_
            refine c_WVv (pc := 46) (As := [.int (nI 0)]) (wc := [(mA, cMo mref mscr msz mspot 1 mleft mread mnow mtri mdia macts mkept misk qp)]) (wr := [(mscr, aN (cT 0) 120 sg), (qp, aI (cT 0) 16 pl), (mread, aI (cT 0) 104 f)]) (qr := 0) C hA (k_X5_accept l D cT mA mref mscr msz mspot 1 mleft mread mnow mtri mdia macts mkept misk qp 0 (by first | assumption | omega) (by first | assumption | omega)) (cwV 1 C.1.2.2.2.2 gX5_readCommand_X5_accept rfl rfl rfl n_X5_accept ⟨Nat.le_of_ble_eq_true rfl, Nat.le_of_ble_eq_true rfl⟩) rfl rfl [0] [1, 2, 3] rfl rfl ⟨by decide, by decide⟩ (by decide) [3, 0, 1, 2] (fun u26 => [(mA, cMo mref mscr msz u26.2 u26.1 mleft mread mnow mtri mdia macts mkept misk qp), (mscr, aN (cT 0) 120 sg), (qp, aI (cT 0) 16 pl), (mread, aI (cT 0) 104 f)]) (fun _ => rfl) (by decide) rfl rfl (Nat.le_of_ble_eq_true rfl) ⟨Nat.zero_le _, Nat.zero_le _⟩ dX5_readCommand_46 (fun u26 h25 => ?_)
            obtain ⟨m27, m28⟩ := u26
            try dsimp only at h25 ⊢
            obtain ⟨h25c, rfl, rfl⟩ := h25.resolve_left (fun q => absurd q.2.1 (by decide))
            refine r_aln (pc := 49) C 0 rfl dX5_readCommand_49 ?_
            refine r_get (pc := 50) C iX5_readCommand_X5 0 rfl rfl 4 (by decide) (mw 3 rfl) rfl rfl dX5_readCommand_50 ?_
            refine r_zneN (pc := 53) (tgt := 57) C (by first | omega | (have := hsg mspot (by omega); omega)) dX5_readCommand_53 (by decide) (fun h => absurd h (by decide)) (fun _ => ?_)
            subst hQ
            exact e_vW C hr hk (Nat.le_refl _) (Nat.le_refl _) ⟨0, mspot, mleft, pl, f⟩ rfl (rd_n hps ⟨c14, c20, c26, c32, c38⟩) dX5_readCommand_56
          · refine r_ic (pc := 41) (v := nI 1) C rfl dX5_readCommand_41 ?_
            refine r_goto (pc := 42) (tgt := 46) C dX5_readCommand_42 (by decide) ?_
            refine c_WVv (pc := 46) (As := [.int (nI 1)]) (wc := [(mA, cMo mref mscr msz mspot 1 mleft mread mnow mtri mdia macts mkept misk qp)]) (wr := [(mscr, aN (cT 0) 120 sg), (qp, aI (cT 0) 16 pl), (mread, aI (cT 0) 104 f)]) (qr := 0) C hA (k_X5_accept l D cT mA mref mscr msz mspot 1 mleft mread mnow mtri mdia macts mkept misk qp 1 (by first | assumption | omega) (by first | assumption | omega)) (cwV 1 C.1.2.2.2.2 gX5_readCommand_X5_accept rfl rfl rfl n_X5_accept ⟨Nat.le_of_ble_eq_true rfl, Nat.le_of_ble_eq_true rfl⟩) rfl rfl [0] [1, 2, 3] rfl rfl ⟨by decide, by decide⟩ (by decide) [3, 0, 1, 2] (fun u30 => [(mA, cMo mref mscr msz u30.2 u30.1 mleft mread mnow mtri mdia macts mkept misk qp), (mscr, aN (cT 0) 120 sg), (qp, aI (cT 0) 16 pl), (mread, aI (cT 0) 104 f)]) (fun _ => rfl) (by decide) rfl rfl (Nat.le_of_ble_eq_true rfl) ⟨Nat.zero_le _, Nat.zero_le _⟩ dX5_readCommand_46 (fun u30 h29 => ?_)
            obtain ⟨m31, m32⟩ := u30
            try dsimp only at h29 ⊢
            obtain ⟨h29a, h29b, rfl, rfl⟩ := h29.resolve_right (fun q => q.1 ⟨rfl, rfl⟩)
            refine r_aln (pc := 49) C 0 rfl dX5_readCommand_49 ?_
            refine r_get (pc := 50) C iX5_readCommand_X5 0 rfl rfl 4 (by decide) (mw 3 rfl) rfl rfl dX5_readCommand_50 ?_
            refine r_zneN (pc := 53) (tgt := 57) C (by first | omega | (have := hsg mspot (by omega); omega)) dX5_readCommand_53 (by decide) (fun _ => ?_) (fun h => absurd h (by decide))
            refine r_iln (pc := 57) C 1 rfl dX5_readCommand_57 ?_
            refine r_bi (pc := 58) (v := nI 99) C rfl dX5_readCommand_58 ?_
            refine r_cneN (pc := 60) (tgt := 70) C (by first | omega | (have := hsg mspot (by omega); omega)) (by first | omega | (have := hsg mspot (by omega); omega)) dX5_readCommand_60 (by decide) (fun c60 => ?_) (fun c60 => absurd c60 (by omega))
            refine r_iln (pc := 70) C 1 rfl dX5_readCommand_70 ?_
            refine r_bi (pc := 71) (v := nI 106) C rfl dX5_readCommand_71 ?_
            refine r_cneN (pc := 73) (tgt := 83) C (by first | omega | (have := hsg mspot (by omega); omega)) (by first | omega | (have := hsg mspot (by omega); omega)) dX5_readCommand_73 (by decide) (fun c73 => ?_) (fun c73 => absurd c73 (by omega))
            refine r_iln (pc := 83) C 1 rfl dX5_readCommand_83 ?_
            refine r_bi (pc := 84) (v := nI 104) C rfl dX5_readCommand_84 ?_
            refine r_cneN (pc := 86) (tgt := 96) C (by first | omega | (have := hsg mspot (by omega); omega)) (by first | omega | (have := hsg mspot (by omega); omega)) dX5_readCommand_86 (by decide) (fun c86 => ?_) (fun c86 => absurd c86 (by omega))
            refine r_iln (pc := 96) C 1 rfl dX5_readCommand_96 ?_
            refine r_bi (pc := 97) (v := nI 98) C rfl dX5_readCommand_97 ?_
            refine r_cneN (pc := 99) (tgt := 109) C (by first | omega | (have := hsg mspot (by omega); omega)) (by first | omega | (have := hsg mspot (by omega); omega)) dX5_readCommand_99 (by decide) (fun c99 => ?_) (fun c99 => absurd c99 (by omega))
            refine r_aln (pc := 109) C 0 rfl dX5_readCommand_109 ?_
            refine r_ic (pc := 110) (v := nI 0) C rfl dX5_readCommand_110 ?_
            refine r_ic (pc := 111) (v := nI 3) C rfl dX5_readCommand_111 ?_
            refine c_WVi (pc := 112) (As := [.int (nI 0), .int (nI 3)]) (wc := [(mA, cMo mref mscr msz (mspot + 1) 1 mleft mread mnow mtri mdia macts mkept misk qp), (mscr, aN (cT 0) 120 sg)]) (wr := [(qp, aI (cT 0) 16 pl), (mread, aI (cT 0) 104 f)]) (qr := 0) C hA (k_X5_digit l D cT mA mref mscr msz (mspot + 1) 1 mleft mread mnow mtri mdia macts mkept misk qp sg 0 3 (by first | assumption | omega) (by first | assumption | omega) (by first | assumption | omega) (by first | assumption | omega) (by first | assumption | omega) (by first | assumption | omega)) (cwV 2 C.1.2.2.2.2 gX5_readCommand_X5_digit rfl rfl rfl n_X5_digit ⟨Nat.le_of_ble_eq_true rfl, Nat.le_of_ble_eq_true rfl⟩) rfl rfl [0, 1] [2, 3] rfl rfl ⟨by decide, by decide⟩ (by decide) [2, 3, 0, 1] (fun u34 => [(mA, cMo mref mscr msz u34.2 u34.1 mleft mread mnow mtri mdia macts mkept misk qp), (mscr, aN (cT 0) 120 sg), (qp, aI (cT 0) 16 pl), (mread, aI (cT 0) 104 f)]) (fun _ => rfl) (by decide) rfl rfl (Nat.le_of_ble_eq_true rfl) ⟨Nat.zero_le _, Nat.zero_le _⟩ dX5_readCommand_112 (fun r112 u34 h33 => ?_)
            obtain ⟨m35, m36⟩ := u34
            try dsimp only at h33 ⊢
            rcases h33 with ⟨-, h33d, h33, rfl, rfl, rfl⟩ | ⟨h33, rfl, rfl, rfl⟩
            · have h33b := pd_some h33
              refine r_isn (pc := 115) C [1, 2, 0] [(0, .ref mA), (1, .int (nI (sg mspot))), (2, .int (nI h33d))] rfl (by decide) rfl dX5_readCommand_115 ?_
              refine r_aln (pc := 116) C 0 rfl dX5_readCommand_116 ?_
              refine r_get (pc := 117) C iX5_readCommand_X5 0 rfl rfl 6 (by decide) (mw 4 rfl) rfl rfl dX5_readCommand_117 ?_
              refine r_ic (pc := 120) (v := nI 5) C rfl dX5_readCommand_120 ?_
              refine r_aln (pc := 121) C 0 rfl dX5_readCommand_121 ?_
              refine r_get (pc := 122) C iX5_readCommand_X5 0 rfl rfl 4 (by decide) (mw 3 rfl) rfl rfl dX5_readCommand_122 ?_
              refine r_zeqN (pc := 125) (tgt := 132) C (by first | omega | (have := hsg mspot (by omega); omega)) dX5_readCommand_125 (by decide) (fun h => absurd h (by decide)) (fun _ => ?_)
              refine r_iln (pc := 128) C 2 rfl dX5_readCommand_128 ?_
              refine r_goto (pc := 129) (tgt := 138) C dX5_readCommand_129 (by decide) ?_
              refine r_iasI (pc := 138) (ws2 := [(mA, cMo mref mscr msz ((mspot + 1) + 1) 1 mleft mread mnow mtri mdia macts mkept misk qp), (mscr, aN (cT 0) 120 sg), (qp, aI (cT 0) 16 pl), (mread, aI (cT 0) 104 (upd f 5 (nI h33d)))]) C 3 rfl (by first | omega | (have := hsg mspot (by omega); omega)) (by decide) rfl dX5_readCommand_138 ?_
              subst hQ
              exact e_vW C hr hk (Nat.le_refl _) (Nat.le_refl _) ⟨1, (mspot + 1) + 1, mleft, pl, upd f 5 (nI h33d)⟩ rfl (rd_p2 hJ hps c38 h33 (by have := h33b; omega) (rq_pat hR)) dX5_readCommand_139
            · have h33 := h33.resolve_left (by decide)
              refine r_isn (pc := 115) C [1, 2, 0] [(0, .ref mA), (1, .int (nI (sg mspot))), (2, .int (nI 0))] rfl (by decide) rfl dX5_readCommand_115 ?_
              refine r_aln (pc := 116) C 0 rfl dX5_readCommand_116 ?_
              refine r_get (pc := 117) C iX5_readCommand_X5 0 rfl rfl 6 (by decide) (mw 4 rfl) rfl rfl dX5_readCommand_117 ?_
              refine r_ic (pc := 120) (v := nI 5) C rfl dX5_readCommand_120 ?_
              refine r_aln (pc := 121) C 0 rfl dX5_readCommand_121 ?_
              refine r_get (pc := 122) C iX5_readCommand_X5 0 rfl rfl 4 (by decide) (mw 3 rfl) rfl rfl dX5_readCommand_122 ?_
              refine r_zeqN (pc := 125) (tgt := 132) C (by first | omega | (have := hsg mspot (by omega); omega)) dX5_readCommand_125 (by decide) (fun _ => ?_) (fun h => absurd h (by decide))
              refine r_aln (pc := 132) C 0 rfl dX5_readCommand_132 ?_
              refine r_get (pc := 133) C iX5_readCommand_X5 0 rfl rfl 6 (by decide) (mw 4 rfl) rfl rfl dX5_readCommand_133 ?_
              refine r_ic (pc := 136) (v := nI 5) C rfl dX5_readCommand_136 ?_
              refine r_ialI (pc := 137) C 3 rfl (by first | omega | (have := hsg mspot (by omega); omega)) (by decide) dX5_readCommand_137 ?_
              refine r_v (y := nI u.pat) hR.1.2.2.2.2.2.1 ?_
              refine r_iasI (pc := 138) (ws2 := [(mA, cMo mref mscr msz (mspot + 1) 0 mleft mread mnow mtri mdia macts mkept misk qp), (mscr, aN (cT 0) 120 sg), (qp, aI (cT 0) 16 pl), (mread, aI (cT 0) 104 (upd f 5 (nI u.pat)))]) C 3 rfl (by first | omega | (have := hsg mspot (by omega); omega)) (by decide) rfl dX5_readCommand_138 ?_
              subst hQ
              exact e_vW C hr hk (Nat.le_refl _) (Nat.le_refl _) ⟨0, mspot + 1, mleft, pl, upd f 5 (nI u.pat)⟩ rfl (rd_p1 hps c38 h33) dX5_readCommand_139

