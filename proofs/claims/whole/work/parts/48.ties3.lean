/-! the law's cases: fewest, weakest, open -/
section WKd
variable {wid mid bro cnt : Nat} {inp outs brd : Nat → Nat} {m : Nat} {fm wm fm' wm' : Int32}
theorem wk_det (h1 : WKI wid mid bro cnt inp outs brd m fm wm) (h2 : WKI wid mid bro cnt inp outs brd m fm' wm') : fm = fm' ∧ wm = wm' := by
  rcases h1 with ⟨a1, a2, a3⟩ | ⟨k, w, π, a1, a2, a3, a4, a5, a6, a7⟩
  · rcases h2 with ⟨b1, b2, -⟩ | ⟨k, w, π, -, -, -, b4, b5, b6, -⟩
    · exact ⟨a1.trans b1.symm, a2.trans b2.symm⟩
    · exact absurd b6 (a3 w b4 b5 π k)
  · rcases h2 with ⟨-, -, b3⟩ | ⟨k', w', π', b1, b2, b3, b4, b5, b6, b7⟩
    · exact absurd a6 (b3 w a4 a5 π k)
    · obtain ⟨p1, p2⟩ := a7 w' b4 b5 π' k' b6
      obtain ⟨q1, q2⟩ := b7 w a4 a5 π k a6
      have e1 : k = k' := by omega
      have e2 : w = w' := by
        rcases Nat.lt_trichotomy w w' with g | g | g
        · have := q2 g; omega
        · exact g
        · have := p2 g; omega
      subst e1; subst e2
      exact ⟨a1.trans b1.symm, a3.trans b3.symm⟩
end WKd
/-! fewest: whole boards by their rank -/
theorem rk_ge {b i : Nat} : ∀ {j : Nat}, i ≤ j → rkB b i ≤ rkB b j := by
  intro j
  induction j with
  | zero => intro h; rw [Nat.le_zero.mp h]; exact Nat.le_refl _
  | succ j ih =>
    intro h
    rcases Nat.lt_or_ge j i with g | g
    · rw [show i = j + 1 by omega]; exact Nat.le_refl _
    · refine Nat.le_trans (ih g) ?_
      cases e : b.testBit j with
      | true => rw [rk_s0 e]; exact Nat.le_refl _
      | false => rw [rk_s1 e]; exact Nat.le_succ _
theorem rk_lt {b i j : Nat} (h : i < j) (hw : b.testBit i = false) : rkB b i < rkB b j := by
  have := rk_ge (b := b) (i := i + 1) (j := j) h
  rw [rk_s1 hw] at this
  omega
theorem rk_inj {b i j : Nat} (hi : b.testBit i = false) (hj : b.testBit j = false) (h : rkB b i = rkB b j) : i = j := by
  rcases Nat.lt_trichotomy i j with g | g | g
  · have := rk_lt g hi; omega
  · exact g
  · have := rk_lt g hj; omega
theorem rk_sur {b : Nat} : ∀ (m j : Nat), j < rkB b m → ∃ i, i < m ∧ b.testBit i = false ∧ rkB b i = j
  | 0, j, h => absurd h (Nat.not_lt_zero _)
  | m + 1, j, h => by
    cases e : b.testBit m with
    | true =>
      rw [rk_s0 e] at h
      obtain ⟨i, h1, h2⟩ := rk_sur (b := b) m j h
      exact ⟨i, by omega, h2⟩
    | false =>
      rw [rk_s1 e] at h
      by_cases g : j = rkB b m
      · exact ⟨m, Nat.lt_succ_self _, e, g.symm⟩
      · obtain ⟨i, h1, h2⟩ := rk_sur (b := b) m j (by omega)
        exact ⟨i, by omega, h2⟩
theorem gn_ex {u : SS} {n : Nat} (hm : u.mid ≤ 4) : ∀ d lo, lo + d = u.mid → ∃ gone, GNp u n lo gone
  | 0, lo, h => by
    have e : lo = u.mid := by omega
    subst e
    exact ⟨0, gn_0⟩
  | d + 1, lo, h => by
    obtain ⟨g, hg⟩ := gn_ex hm d (lo + 1) (by omega)
    by_cases c : u.bro.testBit lo = false ∧ n ≤ rkB u.bro lo
    · exact ⟨_, gn_drop hm hg (by omega) c.1 c.2⟩
    · refine ⟨_, gn_keep hg ?_⟩
      cases e : u.bro.testBit lo with
      | true => exact Or.inl rfl
      | false => exact Or.inr (by have : ¬ n ≤ rkB u.bro lo := fun q => c ⟨e, q⟩; omega)
theorem fw_iff {u : SS} (hJ : JQ u) (n : Nat) : HPn u n ↔ ∃ π, Val u.cnt (fun j => decide (j < n)) (frm u) (tom u) π := by
  obtain ⟨⟨g1, g2, g3, g4, g5, g6, g7, g8, g9, g10, g11⟩, -⟩ := hJ
  constructor
  · rintro ⟨gone, π, hg, hv⟩
    have key : ∀ c, c < u.cnt → π c < u.mid ∧ u.bro.testBit (π c) = false ∧ rkB u.bro (π c) < n := fun c hc => by
      obtain ⟨q1, q2, q3⟩ := alm_iff.mp (hv c hc).2.1
      refine ⟨q1, q2, Nat.lt_of_not_le fun q => ?_⟩
      have := (hg.2.2 (π c) (Nat.zero_le _) q1).mpr ⟨q2, q⟩
      rw [this] at q3
      cases q3
    refine ⟨fun c => rkB u.bro (π c), fun c hc => ⟨?_, decide_eq_true (key c hc).2.2, fun d hd e => ?_⟩⟩
    · have : rkB u.bro (π c) ≤ π c := rk_le
      have := (hv c hc).1
      show rkB u.bro (π c) < 4
      omega
    · exact (hv c hc).2.2 d hd (rk_inj (key d (by omega)).2.1 (key c hc).2.1 e)
  · rintro ⟨π, hv⟩
    obtain ⟨gone, hg⟩ := gn_ex (n := n) g3.2 u.mid 0 (by omega)
    by_cases hW : n ≤ rkB u.bro u.mid
    · have hs : ∀ j, ∃ i, j < n → i < u.mid ∧ u.bro.testBit i = false ∧ rkB u.bro i = j := fun j => by
        by_cases h : j < n
        · obtain ⟨i, h1⟩ := rk_sur (b := u.bro) u.mid j (by omega)
          exact ⟨i, fun _ => h1⟩
        · exact ⟨0, fun q => absurd q h⟩
      have hsp := fun j => Classical.choose_spec (hs j)
      have hn : ∀ c, c < u.cnt → π c < n := fun c hc => of_decide_eq_true (hv c hc).2.1
      refine ⟨gone, fun c => Classical.choose (hs (π c)), hg, fun c hc => ⟨?_, alm_iff.mpr ⟨(hsp _ (hn c hc)).1, (hsp _ (hn c hc)).2.1, ?_⟩, fun d hd e => ?_⟩⟩
      · have h1 := (hsp _ (hn c hc)).1
        have h2 := g3.2
        show Classical.choose (hs (π c)) < 4
        exact Nat.lt_of_lt_of_le h1 h2
      · cases e : gone.testBit (Classical.choose (hs (π c))) with
        | false => rfl
        | true =>
          have h1 := ((hg.2.2 _ (Nat.zero_le _) (hsp _ (hn c hc)).1).mp e).2
          rw [(hsp _ (hn c hc)).2.2] at h1
          have h2 := hn c hc
          omega
      · refine (hv c hc).2.2 d hd ?_
        have h1 := (hsp _ (hn c hc)).2.2
        have h2 := (hsp _ (hn d (by omega))).2.2
        have e' : Classical.choose (hs (π d)) = Classical.choose (hs (π c)) := e
        rw [e'] at h2
        exact h2.symm.trans h1
    · refine ⟨gone, u.brd, hg, fun c hc => ⟨?_, alm_iff.mpr ⟨(g9 c hc).2.2.2.1, (g9 c hc).2.2.2.2, ?_⟩, fun d hd e => ?_⟩⟩
      · have h1 := (g9 c hc).2.2.2.1
        have h2 := g3.2
        exact Nat.lt_of_lt_of_le h1 h2
      · cases e : gone.testBit (u.brd c) with
        | false => rfl
        | true =>
          have h1 := ((hg.2.2 _ (Nat.zero_le _) (g9 c hc).2.2.2.1).mp e).2
          have h2 := rk_lt (g9 c hc).2.2.2.1 (g9 c hc).2.2.2.2
          omega
      · exact g11 d c (by omega) hc (by omega) e
/-! open: pairs of an input and an output, by their boards -/
theorem sumTo_scale {f : Nat → Nat} {k : Nat} : ∀ {n : Nat}, sumTo (fun i => f i * k) n = sumTo f n * k
  | 0 => (Nat.zero_mul _).symm
  | n + 1 => by
    show sumTo (fun i => f i * k) n + f n * k = (sumTo f n + f n) * k
    rw [sumTo_scale, Nat.add_mul]
theorem sumTo_scl {f : Nat → Nat} {k : Nat} {n : Nat} : sumTo (fun i => k * f i) n = k * sumTo f n := by
  rw [Nat.mul_comm, ← sumTo_scale]
  exact sumTo_congr fun i _ => Nat.mul_comm _ _
theorem sumTo_add {f : Nat → Nat} {n : Nat} : ∀ {m : Nat}, sumTo f (n + m) = sumTo f n + sumTo (fun i => f (n + i)) m
  | 0 => rfl
  | m + 1 => by
    show sumTo f (n + m) + f (n + m) = sumTo f n + (sumTo (fun i => f (n + i)) m + f (n + m))
    rw [sumTo_add, Nat.add_assoc]
theorem sumTo_blk {f : Nat → Nat} {w : Nat} : ∀ {n : Nat}, sumTo f (n * w) = sumTo (fun a => sumTo (fun i => f (a * w + i)) w) n
  | 0 => by rw [Nat.zero_mul]; rfl
  | n + 1 => by
    rw [Nat.succ_mul, sumTo_add, sumTo_blk]
    rfl
theorem op_iff {u : SS} (hJ : JQ u) {m x y : Nat} (hm : m ≤ 3) (hx : x < u.fst * u.wid) (hy : y < u.las * u.wid) : (∃ k v, k ≤ m ∧ ACs u (nI x) (nI y) (nI k) v) ↔ freeIn u.cnt u.inp x ∧ freeOut u.cnt u.outs y ∧ ∃ k π, k ≤ u.pat ∧ k ≤ m ∧ OPN u.wid u.mid u.bro u.cnt u.inp u.outs u.brd (x / u.wid) (y / u.wid) π k := by
  obtain ⟨⟨g1, g2, g3, g4, g5, g6, g7, g8, g9, g10, g11⟩, -⟩ := id hJ
  have hf : u.fst * u.wid ≤ 16 := mul16 g1.2 g2.2
  have hl : u.las * u.wid ≤ 16 := mul16 g4.2 g2.2
  constructor
  · rintro ⟨k, v, hk, h, -⟩
    rcases h with ⟨e, n, -⟩ | ⟨e, -⟩ | ⟨jx, jy, k', π, brd1, mvd1, a1, a2, a3, a4, f1, f2, f3, a5, a6, a7, -⟩
    · exact absurd ⟨⟨x, rfl, hx⟩, y, rfl, hy⟩ n
    · exact absurd e (nI_m3 (by omega))
    · obtain rfl := nI_inj4 (by omega) (by omega) a1
      obtain rfl := nI_inj4 (by omega) (by omega) a3
      obtain rfl := nI_inj4 (by omega) (by omega) a5
      exact ⟨f1, f2, k, π, a6, hk, a7⟩
  · rintro ⟨f1, f2, k, π, a1, a2, a3⟩
    obtain ⟨brd1, hb⟩ : ∃ brd1 : Nat → Nat, ∀ c, c < 16 → brd1 c = if c < u.cnt then π c else u.brd c := ⟨fun c => if c < u.cnt then π c else u.brd c, fun _ _ => rfl⟩
    obtain ⟨mvd1, hv⟩ : ∃ mvd1 : Nat → Nat, ∀ c, c < 16 → mvd1 c = u.mvd c + (if c < u.cnt then mvn (u.brd c) (π c) else 0) := ⟨fun c => u.mvd c + (if c < u.cnt then mvn (u.brd c) (π c) else 0), fun _ _ => rfl⟩
    obtain ⟨got1, hg⟩ : ∃ got1 : Nat → Nat, ∀ z, z < 16 → got1 z = u.got z + sumTo (gtF u.inp u.brd π u.cnt z) u.cnt := ⟨fun z => u.got z + sumTo (gtF u.inp u.brd π u.cnt z) u.cnt, fun _ _ => rfl⟩
    obtain ⟨owe1, ho⟩ : ∃ owe1 : Nat → Nat, ∀ z, z < 16 → owe1 z = u.owe z + (if z = x then sumTo (owF u.brd π u.cnt) u.cnt else 0) := ⟨fun z => u.owe z + (if z = x then sumTo (owF u.brd π u.cnt) u.cnt else 0), fun _ _ => rfl⟩
    have hM : MO u.inp u.brd u.mvd u.got u.owe π u.mov u.cnt x u.cnt brd1 mvd1 got1 owe1 (u.mov + sumTo (fun c => mvn (u.brd c) (π c)) u.cnt) := ⟨hb, hv, rfl, hg, ho⟩
    have hA : ACq u.fst u.wid u.mid u.las u.pat u.bro u.mov u.cnt u.inp u.outs u.brd u.mvd u.got u.owe (nI x) (nI y) (nI k) (u.mov + sumTo (fun c => mvn (u.brd c) (π c)) u.cnt) (u.cnt + 1) (va_up u.inp u.cnt x) (va_up u.outs u.cnt (2 ^ y)) (va_up brd1 u.cnt (π u.cnt)) (va_up mvd1 u.cnt 0) got1 owe1 := Or.inr (Or.inr ⟨x, y, k, π, brd1, mvd1, rfl, hx, rfl, hy, f1, f2, free16 hJ f1 hx, rfl, a1, a3, hM, rfl, rfl, rfl, rfl, rfl⟩)
    exact ⟨k, SS.mk u.fst u.wid u.mid u.las u.pat u.bro (u.mov + sumTo (fun c => mvn (u.brd c) (π c)) u.cnt) (u.cnt + 1) (va_up u.inp u.cnt x) (va_up u.outs u.cnt (2 ^ y)) (va_up brd1 u.cnt (π u.cnt)) (va_up mvd1 u.cnt 0) got1 owe1, a2, hA, rfl, rfl, rfl, rfl, rfl, rfl⟩
def fI (cnt : Nat) (inp : Nat → Nat) (x : Nat) : Nat := if anyTo (fun c => decide (inp c = x)) cnt = true then 0 else 1
def fO (cnt : Nat) (outs : Nat → Nat) (y : Nat) : Nat := if anyTo (fun c => (outs c).testBit y) cnt = true then 0 else 1
noncomputable def gG (u : SS) (m a b : Nat) : Nat := @ite Nat (∃ k π, k ≤ u.pat ∧ k ≤ m ∧ OPN u.wid u.mid u.bro u.cnt u.inp u.outs u.brd a b π k) (Classical.propDecidable _) 1 0
theorem op_val {u : SS} (hJ : JQ u) {m x y : Nat} (hm : m ≤ 3) (hx : x < u.fst * u.wid) (hy : y < u.las * u.wid) : opV u m x y = fI u.cnt u.inp x * (fO u.cnt u.outs y * gG u m (x / u.wid) (y / u.wid)) := by
  unfold opV fI fO gG
  by_cases h : ∃ k v, k ≤ m ∧ ACs u (nI x) (nI y) (nI k) v
  · obtain ⟨f1, f2, f3⟩ := (op_iff hJ hm hx hy).mp h
    rw [if_pos h, if_neg (any_no f1), if_neg (any_noB f2), if_pos f3]
  · rw [if_neg h]
    by_cases f1 : freeIn u.cnt u.inp x
    · by_cases f2 : freeOut u.cnt u.outs y
      · rw [if_neg (c := ∃ k π, k ≤ u.pat ∧ k ≤ m ∧ OPN u.wid u.mid u.bro u.cnt u.inp u.outs u.brd (x / u.wid) (y / u.wid) π k) (fun f3 => h ((op_iff hJ hm hx hy).mpr ⟨f1, f2, f3⟩)), Nat.mul_zero, Nat.mul_zero]
      · have : anyTo (fun c => (u.outs c).testBit y) u.cnt = true := Classical.byContradiction fun q => f2 fun k hk e => q (any_yesB hk e)
        rw [if_pos this, Nat.zero_mul, Nat.mul_zero]
    · have : anyTo (fun c => decide (u.inp c = x)) u.cnt = true := Classical.byContradiction fun q => f1 fun k hk e => q (any_yes hk e)
      rw [if_pos this, Nat.zero_mul]
theorem ob_val {u : SS} {m a b : Nat} : obV u.wid u.mid u.pat u.bro u.cnt u.inp u.outs u.brd m a b = FI u.wid u.cnt u.inp a * (FO u.wid u.cnt u.outs b * gG u m a b) := by
  unfold obV gG
  by_cases h : FI u.wid u.cnt u.inp a * FO u.wid u.cnt u.outs b = 0
  · rw [if_pos h, ← Nat.mul_assoc, h, Nat.zero_mul]
  · rw [if_neg h]
    by_cases g : ∃ k π, k ≤ u.pat ∧ k ≤ m ∧ OPN u.wid u.mid u.bro u.cnt u.inp u.outs u.brd a b π k
    · rw [if_pos g, if_pos g, Nat.mul_one]
    · rw [if_neg g, if_neg g, Nat.mul_zero, Nat.mul_zero]
theorem op_sum {u : SS} (hJ : JQ u) {m : Nat} (hm : m ≤ 3) : sumTo (fun x => sumTo (fun y => opV u m x y) (u.las * u.wid)) (u.fst * u.wid) = sumTo (fun a => sumTo (fun b => obV u.wid u.mid u.pat u.bro u.cnt u.inp u.outs u.brd m a b) u.las) u.fst := by
  obtain ⟨⟨g1, g2, g3, g4, g5, g6, g7, g8, g9, g10, g11⟩, -⟩ := id hJ
  have hw : 0 < u.wid := g2.1
  have hd : ∀ a i, i < u.wid → (a * u.wid + i) / u.wid = a := fun a i hi => by
    rw [Nat.mul_comm, Nat.mul_add_div hw, Nat.div_eq_of_lt hi, Nat.add_zero]
  have hlt : ∀ a i n, a < n → i < u.wid → a * u.wid + i < n * u.wid := fun a i n ha hi => by
    have := Nat.mul_le_mul_right u.wid ha
    rw [Nat.succ_mul] at this
    omega
  rw [sumTo_blk]
  refine sumTo_congr fun a ha => ?_
  have h1 : ∀ i, i < u.wid → sumTo (fun y => opV u m (a * u.wid + i) y) (u.las * u.wid) = fI u.cnt u.inp (a * u.wid + i) * sumTo (fun b => FO u.wid u.cnt u.outs b * gG u m a b) u.las := fun i hi => by
    rw [sumTo_blk, ← sumTo_scl]
    refine sumTo_congr fun b hb => ?_
    show sumTo (fun l => opV u m (a * u.wid + i) (b * u.wid + l)) u.wid = fI u.cnt u.inp (a * u.wid + i) * (FO u.wid u.cnt u.outs b * gG u m a b)
    rw [show FO u.wid u.cnt u.outs b * gG u m a b = sumTo (fun l => fO u.cnt u.outs (b * u.wid + l) * gG u m a b) u.wid from sumTo_scale.symm, ← sumTo_scl]
    refine sumTo_congr fun l hl => ?_
    rw [op_val hJ hm (hlt a i _ ha hi) (hlt b l _ hb hl), hd a i hi, hd b l hl]
  rw [sumTo_congr h1, sumTo_scale, ← sumTo_scl]
  refine sumTo_congr fun b hb => ?_
  exact (ob_val (u := u)).symm
theorem tie_open {fst : Nat} {wid : Nat} {mid : Nat} {las : Nat} {pat : Nat} {bro : Nat} {mov : Nat} {cnt : Nat} {inp : Nat → Nat} {outs : Nat → Nat} {brd : Nat → Nat} {mvd : Nat → Nat} {got : Nat → Nat} {owe : Nat → Nat} {f : Nat → Int32} {x : Int32} {pfr' : Nat → Nat} {pto' : Nat → Nat} {kk9 : Int32} {og' : Nat → Int64} {mref' : Nat} {bb9 : Int32} (eU : LU (SS.mk fst wid mid las pat bro mov cnt inp outs brd mvd got owe) f)
    (h1 : (∃ v9, ((∃ j, x = nI j ∧ j ≤ 3 ∧ v9 = nI (sumTo (fun a => sumTo (fun b => obV wid mid pat bro cnt inp outs brd j a b) las) fst)) ∧ (∀ c, c < 16 → pfr' c < 65536 ∧ pto' c < 65536)) ∧ kk9 = nI 0 ∧ og' 0 = v9.toInt64) ∨ ∃ E, ((E = xIA ∧ ¬ CIn 4 x) ∧ (∀ c, c < 16 → pfr' c < 65536 ∧ pto' c < 65536)) ∧ ((E = xIA ∧ kk9 = nI 1)))
    (h2 : (mref' = 1 ∧ ¬ CIn 4 x) ∨ (mref' = 0 ∧ ∃ j, x = nI j ∧ j ≤ 3 ∧ bb9 = nI (sumTo (fun a1 => sumTo (fun b => opV (SS.mk fst wid mid las pat bro mov cnt inp outs brd mvd got owe) j a1 b) (las * wid)) (fst * wid)))) :
    AGR kk9 mref' og' bb9 ∧ FRq pfr' pto' := by
  have es : ∀ j, j ≤ 3 → sumTo (fun a1 => sumTo (fun b => opV (SS.mk fst wid mid las pat bro mov cnt inp outs brd mvd got owe) j a1 b) (las * wid)) (fst * wid) = sumTo (fun a => sumTo (fun b => obV wid mid pat bro cnt inp outs brd j a b) las) fst := fun j hj => op_sum eU.1 hj
  refine tie_1F (P := fun v => ∃ j, x = nI j ∧ j ≤ 3 ∧ v = nI (sumTo (fun a => sumTo (fun b => obV wid mid pat bro cnt inp outs brd j a b) las) fst)) (Q := fun v => ∃ j, x = nI j ∧ j ≤ 3 ∧ v = nI (sumTo (fun a1 => sumTo (fun b => opV (SS.mk fst wid mid las pat bro mov cnt inp outs brd mvd got owe) j a1 b) (las * wid)) (fst * wid))) (C := CIn 4 x) (fun v ⟨j, q1, q2, _⟩ => ⟨j, q1, by omega⟩) (fun ⟨j, q1, q2, _⟩ => ⟨j, q1, by omega⟩) ?_ h1 h2
  rintro v ⟨j, q1, q2, q3⟩ ⟨j', p1, p2, p3⟩
  obtain rfl := nI_inj4 (by omega) (by omega) (q1.symm.trans p1)
  rw [q3, p3, es j q2]

theorem tie_fewest {fst : Nat} {wid : Nat} {mid : Nat} {las : Nat} {pat : Nat} {bro : Nat} {mov : Nat} {cnt : Nat} {inp : Nat → Nat} {outs : Nat → Nat} {brd : Nat → Nat} {mvd : Nat → Nat} {got : Nat → Nat} {owe : Nat → Nat} {f : Nat → Int32} {kk9 : Int32} {pfr' : Nat → Nat} {pto' : Nat → Nat} {mref' : Nat} {bb9 : Int32} (eU : LU (SS.mk fst wid mid las pat bro mov cnt inp outs brd mvd got owe) f)
    (h1 : ((∃ k, kk9 = nI k ∧ k < mid ∧ (∃ π, Val cnt (fun j => decide (j < k)) (fun c => 2 ^ (inp c / wid)) (fun c => lbs wid (outs c)) π) ∧ ∀ d, d < k → ¬ ∃ π, Val cnt (fun j => decide (j < d)) (fun c => 2 ^ (inp c / wid)) (fun c => lbs wid (outs c)) π) ∨ (kk9 = nI mid ∧ ∀ d, d < mid → ¬ ∃ π, Val cnt (fun j => decide (j < d)) (fun c => 2 ^ (inp c / wid)) (fun c => lbs wid (outs c)) π)) ∧ (∀ c, c < 16 → pfr' c < 65536 ∧ pto' c < 65536))
    (h2 : mref' = 0 ∧ ((∃ k, bb9 = nI k ∧ k < mid ∧ HPn (SS.mk fst wid mid las pat bro mov cnt inp outs brd mvd got owe) k ∧ ∀ d, d < k → ¬ HPn (SS.mk fst wid mid las pat bro mov cnt inp outs brd mvd got owe) d) ∨ (bb9 = nI mid ∧ ∀ d, d < mid → ¬ HPn (SS.mk fst wid mid las pat bro mov cnt inp outs brd mvd got owe) d))) :
    kk9 = bb9 ∧ FRq pfr' pto' := by
  obtain ⟨h1, hF⟩ := h1
  refine ⟨?_, hF⟩
  have fw : ∀ n, HPn (SS.mk fst wid mid las pat bro mov cnt inp outs brd mvd got owe) n ↔ ∃ π, Val cnt (fun j => decide (j < n)) (fun c => 2 ^ (inp c / wid)) (fun c => lbs wid (outs c)) π := fw_iff eU.1
  rcases h1 with ⟨k, a1, a2, a3, a4⟩ | ⟨a1, a2⟩
  · rcases h2 with ⟨-, ⟨k', b1, b2, b3, b4⟩ | ⟨b1, b2⟩⟩
    · have e : k = k' := by
        rcases Nat.lt_trichotomy k k' with g | g | g
        · exact absurd ((fw k).mpr a3) (b4 k g)
        · exact g
        · exact absurd ((fw k').mp b3) (a4 k' g)
      rw [a1, b1, e]
    · exact absurd ((fw k).mpr a3) (b2 k a2)
  · rcases h2 with ⟨-, ⟨k', b1, b2, b3, b4⟩ | ⟨b1, b2⟩⟩
    · exact absurd ((fw k').mp b3) (a2 k' b2)
    · rw [a1, b1]

theorem tie_weakest {wid : Nat} {mid : Nat} {bro : Nat} {cnt : Nat} {inp : Nat → Nat} {outs : Nat → Nat} {brd : Nat → Nat} {kk9 : Int32} {pfr' : Nat → Nat} {pto' : Nat → Nat} {mref' : Nat} {bb9 : Int32} 
    (h1 : (∃ fm wm, WKI wid mid bro cnt inp outs brd mid fm wm ∧ ((wm = -1 ∧ kk9 = -1) ∨ (¬ wm = -1 ∧ kk9 = nI 10 * fm + wm))) ∧ (∀ c, c < 16 → pfr' c < 65536 ∧ pto' c < 65536))
    (h2 : mref' = 0 ∧ ∃ fm wm, WKI wid mid bro cnt inp outs brd mid fm wm ∧ ((wm = -1 ∧ bb9 = -1) ∨ (¬ wm = -1 ∧ bb9 = nI 10 * fm + wm))) :
    kk9 = bb9 ∧ FRq pfr' pto' := by
  obtain ⟨⟨fm, wm, a1, a2⟩, hF⟩ := h1
  obtain ⟨-, fm', wm', b1, b2⟩ := h2
  obtain ⟨rfl, rfl⟩ := wk_det a1 b1
  refine ⟨?_, hF⟩
  rcases a2 with ⟨c1, c2⟩ | ⟨c1, c2⟩
  · rcases b2 with ⟨-, d2⟩ | ⟨d1, -⟩
    · rw [c2, d2]
    · exact absurd c1 d1
  · rcases b2 with ⟨d1, -⟩ | ⟨-, d2⟩
    · exact absurd d1 c1
    · rw [c2, d2]
