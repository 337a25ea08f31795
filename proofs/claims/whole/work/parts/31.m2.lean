/-! the model's actions on one row -/
def Eqv (u v : SS) : Prop := (u.fst = v.fst ∧ u.wid = v.wid ∧ u.mid = v.mid ∧ u.las = v.las ∧ u.cnt = v.cnt ∧ u.pat = v.pat ∧ u.mov = v.mov ∧ u.bro = v.bro) ∧ (∀ c, c < u.cnt → u.inp c = v.inp c ∧ u.outs c = v.outs c ∧ u.brd c = v.brd c ∧ u.mvd c = v.mvd c) ∧ ∀ x, x < 16 → u.owe x = v.owe x ∧ u.got x = v.got x
theorem eqv_refl (u : SS) : Eqv u u := ⟨⟨rfl, rfl, rfl, rfl, rfl, rfl, rfl, rfl⟩, fun _ _ => ⟨rfl, rfl, rfl, rfl⟩, fun _ _ => ⟨rfl, rfl⟩⟩
theorem eqv_symm {u v : SS} (h : Eqv u v) : Eqv v u := by
  obtain ⟨⟨a0, a1, a2, a3, a4, a5, a6, a7⟩, h2, h3⟩ := h
  refine ⟨⟨a0.symm, a1.symm, a2.symm, a3.symm, a4.symm, a5.symm, a6.symm, a7.symm⟩, fun c hc => ?_, fun x hx => ⟨(h3 x hx).1.symm, (h3 x hx).2.symm⟩⟩
  obtain ⟨b0, b1, b2, b3⟩ := h2 c (by omega)
  exact ⟨b0.symm, b1.symm, b2.symm, b3.symm⟩
theorem eqv_trans {u v w : SS} (h : Eqv u v) (g : Eqv v w) : Eqv u w := by
  obtain ⟨⟨a0, a1, a2, a3, a4, a5, a6, a7⟩, h2, h3⟩ := h
  obtain ⟨⟨b0, b1, b2, b3, b4, b5, b6, b7⟩, g2, g3⟩ := g
  refine ⟨⟨a0.trans b0, a1.trans b1, a2.trans b2, a3.trans b3, a4.trans b4, a5.trans b5, a6.trans b6, a7.trans b7⟩, fun c hc => ?_, fun x hx => ⟨(h3 x hx).1.trans (g3 x hx).1, (h3 x hx).2.trans (g3 x hx).2⟩⟩
  obtain ⟨c0, c1, c2, c3⟩ := h2 c hc
  obtain ⟨d0, d1, d2, d3⟩ := g2 c (by omega)
  exact ⟨c0.trans d0, c1.trans d1, c2.trans d2, c3.trans d3⟩
theorem rowq_eqv {f : Nat → Int32} {u v : SS} (h : RowQ f u) (e : Eqv u v) : RowQ f v := by
  obtain ⟨⟨a0, a1, a2, a3, a4, a5, a6, a7⟩, h2, h3⟩ := h
  obtain ⟨⟨b0, b1, b2, b3, b4, b5, b6, b7⟩, g2, g3⟩ := e
  refine ⟨⟨by rw [a0, b0], by rw [a1, b1], by rw [a2, b2], by rw [a3, b3], by rw [a4, b4], by rw [a5, b5], by rw [a6, b6], by rw [a7, b7]⟩, fun c hc => ?_, fun x hx => ?_⟩
  · obtain ⟨c0, c1, c2, c3⟩ := h2 c (by omega)
    obtain ⟨d0, d1, d2, d3⟩ := g2 c (by omega)
    exact ⟨by rw [c0, d0], by rw [c1, d1], by rw [c2, d2], by rw [c3, d3]⟩
  · obtain ⟨c0, c1⟩ := h3 x hx
    obtain ⟨d0, d1⟩ := g3 x hx
    exact ⟨by rw [c0, d0], by rw [c1, d1]⟩
def JQ (u : SS) : Prop := SINV u ∧ ∀ c, c < u.cnt → pcn (u.outs c) ≤ 4
theorem bd_of {u : SS} (h : JQ u) : BDq u := by
  obtain ⟨⟨h1, h2, h3, h4, h5, h6, h7, h8, h9, h10, h11⟩, -⟩ := h
  refine ⟨h1, h2, h3, h4, h5, ?_, h7, ⟨mul16 h1.2 h2.2, mul16 h4.2 h2.2⟩, fun c hc => ?_⟩
  · exact Nat.lt_of_lt_of_le h6 (Nat.pow_le_pow_right (by decide) h3.2)
  · obtain ⟨a1, a2, a3, a4, a5⟩ := h9 c hc
    obtain ⟨b1, b2, b3⟩ := h8 c (by omega)
    exact ⟨b1, a2, b2, Or.inl b3⟩
def gtm (u : SS) (π : Nat → Nat) (ca x : Nat) : Nat → Nat := fun c => if c = ca then 0 else if u.inp c = x then mv (bfm u c) (π c) else 0
def owm (u : SS) (π : Nat → Nat) (ca : Nat) : Nat → Nat := fun c => if c = ca then 0 else mv (bfm u c) (π c)
def moU (u : SS) (π : Nat → Nat) (ca px i : Nat) : SS := SS.mk u.fst u.wid u.mid u.las u.pat u.bro (u.mov + MS u π i) u.cnt u.inp u.outs (fun c => if c < i then π c else u.brd c) (fun c => u.mvd c + (if c < i then mv (bfm u c) (π c) else 0)) (fun x => u.got x + sumTo (gtm u π ca x) i) (fun x => u.owe x + (if x = px then sumTo (owm u π ca) i else 0))
theorem moU_0 {f : Nat → Int32} {u : SS} {π : Nat → Nat} {ca px : Nat} (h : RowQ f u) : RowQ f (moU u π ca px 0) :=
  rowq_eqv h ⟨⟨rfl, rfl, rfl, rfl, rfl, rfl, rfl, rfl⟩, fun c _ => ⟨rfl, rfl, rfl, rfl⟩, fun x _ => ⟨by show u.owe x = u.owe x + (if x = px then 0 else 0); split <;> rfl, rfl⟩⟩
theorem mo_brd {u : SS} {π : Nat → Nat} {ca px i : Nat} : (moU u π ca px i).brd i = u.brd i := if_neg (Nat.lt_irrefl i)
theorem bd_mo {u : SS} {π : Nat → Nat} {ca px i : Nat} (h : BDq u) (hp : ∀ c, c < u.cnt → π c < 4) : BDq (moU u π ca px i) := by
  obtain ⟨h1, h2, h3, h4, h5, h6, h7, h8, h9⟩ := h
  refine ⟨h1, h2, h3, h4, h5, h6, h7, h8, fun c hc => ?_⟩
  obtain ⟨a1, a2, a3, a4⟩ := h9 c hc
  refine ⟨a1, a2, a3, ?_⟩
  show (if c < i then π c else u.brd c) < 4 ∨ (if c < i then π c else u.brd c) = 4294967295
  split
  · exact Or.inl (hp c hc)
  · exact a4
section MoRow
variable {f : Nat → Int32} {u : SS} {π : Nat → Nat} {ca px i e : Nat}
theorem mo_stay (h : RowQ f (moU u π ca px i)) (hi : i < u.cnt) (hn : u.cnt ≤ 16) (hs : bfm u i = -1 ∨ bfm u i = nI (π i)) : RowQ (upd f (8 + 4 * i + 2) (nI (π i))) (moU u π ca px (i + 1)) := by
  obtain ⟨⟨a0, a1, a2, a3, a4, a5, a6, a7⟩, h2, h3⟩ := h
  have e0 := mv_0 hs
  have em : MS u π (i + 1) = MS u π i := by show MS u π i + mv (bfm u i) (π i) = _; rw [e0]; rfl
  refine ⟨⟨?_, ?_, ?_, ?_, ?_, ?_, ?_, ?_⟩, fun c hc => ?_, fun x hx => ?_⟩
  · rw [pk_un (by omega)]; exact a0
  · rw [pk_un (by omega)]; exact a1
  · rw [pk_un (by omega)]; exact a2
  · rw [pk_un (by omega)]; exact a3
  · rw [pk_un (by omega)]; exact a4
  · rw [pk_un (by omega)]; exact a5
  · rw [pk_un (by omega)]; refine a6.trans (congrArg nI ?_); show u.mov + MS u π i = u.mov + MS u π (i + 1); rw [em]
  · rw [pk_un (by omega)]; exact a7
  · have hc' : c < u.cnt := hc
    obtain ⟨b0, b1, b2, b3⟩ := h2 c hc
    refine ⟨?_, ?_, ?_, ?_⟩
    · rw [pk_un (by omega)]; exact b0
    · rw [pk_un (by omega)]; exact b1
    · by_cases g : c = i
      · subst g; rw [pk_us]; exact congrArg nI (if_pos (Nat.lt_succ_self _)).symm
      · rw [pk_un (by omega), b2]
        refine congrArg nI ?_
        show (if c < i then π c else u.brd c) = if c < i + 1 then π c else u.brd c
        by_cases g2 : c < i
        · rw [if_pos g2, if_pos (by omega)]
        · rw [if_neg g2, if_neg (by omega)]
    · rw [pk_un (by omega), b3]
      refine congrArg nI ?_
      show u.mvd c + (if c < i then mv (bfm u c) (π c) else 0) = u.mvd c + if c < i + 1 then mv (bfm u c) (π c) else 0
      by_cases g : c = i
      · subst g; rw [if_neg (Nat.lt_irrefl _), if_pos (Nat.lt_succ_self _), e0]
      · by_cases g2 : c < i
        · rw [if_pos g2, if_pos (by omega)]
        · rw [if_neg g2, if_neg (by omega)]
  · obtain ⟨b0, b1⟩ := h3 x hx
    refine ⟨?_, ?_⟩
    · rw [pk_un (by omega), b0]
      refine congrArg nI ?_
      show u.owe x + (if x = px then sumTo (owm u π ca) i else 0) = u.owe x + if x = px then sumTo (owm u π ca) i + owm u π ca i else 0
      have : owm u π ca i = 0 := by unfold owm; split; rfl; exact e0
      rw [this, Nat.add_zero]
    · rw [pk_un (by omega), b1]
      refine congrArg nI ?_
      show u.got x + sumTo (gtm u π ca x) i = u.got x + (sumTo (gtm u π ca x) i + gtm u π ca x i)
      have : gtm u π ca x i = 0 := by unfold gtm; split; rfl; split; exact e0; rfl
      rw [this, Nat.add_zero]
theorem mo_go (h : RowQ f (moU u π ca px i)) (hi : i < u.cnt) (hn : u.cnt ≤ 16) (hx : u.inp i < 16) (hp : px < 16) (hs : ¬ (bfm u i = -1 ∨ bfm u i = nI (π i))) (he : e = if i = ca then 0 else 1) :
    RowQ (upd (upd (upd (upd (upd f (8 + 4 * i + 3) (nI ((moU u π ca px i).mvd i + 1))) 6 (nI ((moU u π ca px i).mov + 1))) (88 + u.inp i) (nI ((moU u π ca px i).got (u.inp i) + e))) (72 + px) (nI ((moU u π ca px i).owe px + e))) (8 + 4 * i + 2) (nI (π i))) (moU u π ca px (i + 1)) := by
  obtain ⟨⟨a0, a1, a2, a3, a4, a5, a6, a7⟩, h2, h3⟩ := h
  have e1 := mv_1 hs
  refine ⟨⟨?_, ?_, ?_, ?_, ?_, ?_, ?_, ?_⟩, fun c hc => ?_, fun x hx2 => ?_⟩
  · rw [pk_un (by omega), pk_un (by omega), pk_un (by omega), pk_un (by omega), pk_un (by omega)]; exact a0
  · rw [pk_un (by omega), pk_un (by omega), pk_un (by omega), pk_un (by omega), pk_un (by omega)]; exact a1
  · rw [pk_un (by omega), pk_un (by omega), pk_un (by omega), pk_un (by omega), pk_un (by omega)]; exact a2
  · rw [pk_un (by omega), pk_un (by omega), pk_un (by omega), pk_un (by omega), pk_un (by omega)]; exact a3
  · rw [pk_un (by omega), pk_un (by omega), pk_un (by omega), pk_un (by omega), pk_un (by omega)]; exact a4
  · rw [pk_un (by omega), pk_un (by omega), pk_un (by omega), pk_un (by omega), pk_un (by omega)]; exact a5
  · rw [pk_un (by omega), pk_un (by omega), pk_un (by omega), pk_us]
    refine congrArg nI ?_
    show u.mov + MS u π i + 1 = u.mov + (MS u π i + mv (bfm u i) (π i))
    rw [e1]; omega
  · rw [pk_un (by omega), pk_un (by omega), pk_un (by omega), pk_un (by omega), pk_un (by omega)]; exact a7
  · have hc' : c < u.cnt := hc
    obtain ⟨b0, b1, b2, b3⟩ := h2 c hc
    refine ⟨?_, ?_, ?_, ?_⟩
    · rw [pk_un (by omega), pk_un (by omega), pk_un (by omega), pk_un (by omega), pk_un (by omega)]; exact b0
    · rw [pk_un (by omega), pk_un (by omega), pk_un (by omega), pk_un (by omega), pk_un (by omega)]; exact b1
    · by_cases g : c = i
      · subst g; rw [pk_us]; exact congrArg nI (if_pos (Nat.lt_succ_self _)).symm
      · rw [pk_un (by omega), pk_un (by omega), pk_un (by omega), pk_un (by omega), pk_un (by omega), b2]
        refine congrArg nI ?_
        show (if c < i then π c else u.brd c) = if c < i + 1 then π c else u.brd c
        by_cases g2 : c < i
        · rw [if_pos g2, if_pos (by omega)]
        · rw [if_neg g2, if_neg (by omega)]
    · by_cases g : c = i
      · subst g
        rw [pk_un (by omega), pk_un (by omega), pk_un (by omega), pk_un (by omega), pk_us]
        refine congrArg nI ?_
        show u.mvd c + (if c < c then mv (bfm u c) (π c) else 0) + 1 = u.mvd c + if c < c + 1 then mv (bfm u c) (π c) else 0
        rw [if_neg (Nat.lt_irrefl _), if_pos (Nat.lt_succ_self _), e1]
      · rw [pk_un (by omega), pk_un (by omega), pk_un (by omega), pk_un (by omega), pk_un (by omega), b3]
        refine congrArg nI ?_
        show u.mvd c + (if c < i then mv (bfm u c) (π c) else 0) = u.mvd c + if c < i + 1 then mv (bfm u c) (π c) else 0
        by_cases g2 : c < i
        · rw [if_pos g2, if_pos (by omega)]
        · rw [if_neg g2, if_neg (by omega)]
  · obtain ⟨b0, b1⟩ := h3 x hx2
    have ho : owm u π ca i = e := by unfold owm; rw [he, e1]
    refine ⟨?_, ?_⟩
    · by_cases g : x = px
      · subst g
        rw [pk_un (by omega), pk_us]
        refine congrArg nI ?_
        show u.owe x + (if x = x then sumTo (owm u π ca) i else 0) + e = u.owe x + if x = x then sumTo (owm u π ca) i + owm u π ca i else 0
        rw [if_pos rfl, if_pos rfl, ho]; omega
      · rw [pk_un (by omega), pk_un (by omega), pk_un (by omega), pk_un (by omega), pk_un (by omega), b0]
        refine congrArg nI ?_
        show u.owe x + (if x = px then _ else 0) = u.owe x + if x = px then _ else 0
        rw [if_neg g, if_neg g]
    · by_cases g : x = u.inp i
      · rw [g, pk_un (by omega), pk_un (by omega), pk_us]
        refine congrArg nI ?_
        show u.got (u.inp i) + sumTo (gtm u π ca (u.inp i)) i + e = u.got (u.inp i) + (sumTo (gtm u π ca (u.inp i)) i + gtm u π ca (u.inp i) i)
        have : gtm u π ca (u.inp i) i = e := by unfold gtm; rw [if_pos rfl, he, e1]
        rw [this]; omega
      · rw [pk_un (by omega), pk_un (by omega), pk_un (by omega), pk_un (by omega), pk_un (by omega), b1]
        refine congrArg nI ?_
        show u.got x + sumTo (gtm u π ca x) i = u.got x + (sumTo (gtm u π ca x) i + gtm u π ca x i)
        have : gtm u π ca x i = 0 := by
          unfold gtm
          by_cases q : i = ca
          · rw [if_pos q]
          · rw [if_neg q, if_neg (fun q => g q.symm)]
        rw [this, Nat.add_zero]
end MoRow
/-- what moving over for a call answers and does -/
def MVQ (u : SS) (ca : Nat) (r : Int32) (f' : Nat → Int32) : Prop :=
  (r = -1 ∧ RowQ f' u ∧ ∀ π, VAL u 0 π → u.pat < MVS u π) ∨ ∃ k π, r = nI k ∧ k ≤ u.pat ∧ Opt u.cnt (alm u 0) (frm u) (tom u) (bfm u) π k ∧ RowQ f' (moU u π ca (u.inp ca) u.cnt)

def ACs (u : SS) (x y r : Int32) (v : SS) : Prop := ACq u.fst u.wid u.mid u.las u.pat u.bro u.mov u.cnt u.inp u.outs u.brd u.mvd u.got u.owe x y r v.mov v.cnt v.inp v.outs v.brd v.mvd v.got v.owe ∧ v.fst = u.fst ∧ v.wid = u.wid ∧ v.mid = u.mid ∧ v.las = u.las ∧ v.pat = u.pat ∧ v.bro = u.bro
def AOs (u : SS) (x y r : Int32) (v : SS) : Prop := AOq u.wid u.mid u.las u.pat u.bro u.mov u.cnt u.inp u.outs u.brd u.mvd u.got u.owe x y r v.mov v.cnt v.inp v.outs v.brd v.mvd v.got v.owe ∧ v.fst = u.fst ∧ v.wid = u.wid ∧ v.mid = u.mid ∧ v.las = u.las ∧ v.pat = u.pat ∧ v.bro = u.bro
def RRq (r0 r : Int32) : Prop := (r0 = -3 ∧ r = -1) ∨ ∃ k, r0 = nI k ∧ r = nI k ∧ k ≤ 3
def CNq (u : SS) (x y : Nat) (r : Int32) (f' : Nat → Int32) : Prop := ∃ r0 v, ACs u (nI x) (nI y) r0 v ∧ RowQ f' v ∧ RRq r0 r
def JNq (u : SS) (c y : Nat) (r : Int32) (f' : Nat → Int32) : Prop := ∃ r0 v, AOs u (nI c) (nI y) r0 v ∧ RowQ f' v ∧ RRq r0 r
theorem sameq (u : SS) : SAMEq u.mov u.cnt u.inp u.outs u.brd u.mvd u.got u.owe u.mov u.cnt u.inp u.outs u.brd u.mvd u.got u.owe := ⟨rfl, rfl, rfl, rfl, rfl, rfl, rfl, rfl⟩
theorem pig : ∀ (m n : Nat) (g : Nat → Nat), (∀ i, i < n → g i < m) → (∀ i j, i < n → j < n → g i = g j → i = j) → n ≤ m
  | 0, n, g, h, _ => by
    rcases Nat.eq_zero_or_pos n with e | e
    · omega
    · have := h 0 e; omega
  | m + 1, n, g, h, hi => by
    rcases Nat.eq_zero_or_pos n with e | e
    · omega
    · have := pig m (n - 1) (fun j => if g j = m then g (n - 1) else g j) (fun j hj => by
        show (if g j = m then g (n - 1) else g j) < m
        split
        · rename_i q
          have h1 := h (n - 1) (by omega)
          have : g (n - 1) ≠ m := fun q2 => by have := hi j (n - 1) (by omega) (by omega) (q.trans q2.symm); omega
          omega
        · have h1 := h j (by omega); omega) (fun a b ha hb q => by
        have q : (if g a = m then g (n - 1) else g a) = if g b = m then g (n - 1) else g b := q
        by_cases qa : g a = m
        · by_cases qb : g b = m
          · exact hi a b (by omega) (by omega) (qa.trans qb.symm)
          · rw [if_pos qa, if_neg qb] at q
            have := hi (n - 1) b (by omega) (by omega) q; omega
        · by_cases qb : g b = m
          · rw [if_neg qa, if_pos qb] at q
            have := hi a (n - 1) (by omega) (by omega) q; omega
          · rw [if_neg qa, if_neg qb] at q
            exact hi a b (by omega) (by omega) q)
      omega
theorem free16 {u : SS} {x : Nat} (hJ : JQ u) (hf : freeIn u.cnt u.inp x) (hx : x < u.fst * u.wid) : u.cnt < 16 := by
  have hb := bd_of hJ
  have h16 := hb.2.2.2.2.2.2.2.1.1
  have := pig (u.fst * u.wid) (u.cnt + 1) (va_up u.inp u.cnt x) (fun i hi => by
    by_cases e : i = u.cnt
    · rw [e, va_up_self]; exact hx
    · rw [va_up_ne _ _ e]; exact (hJ.1.2.2.2.2.2.2.2.2.1 i (by omega)).1) (fun i j hi hj e => by
    by_cases ei : i = u.cnt
    · by_cases ej : j = u.cnt
      · omega
      · rw [ei, va_up_self, va_up_ne _ _ ej] at e; exact absurd e.symm (hf j (by omega))
    · by_cases ej : j = u.cnt
      · rw [ej, va_up_self, va_up_ne _ _ ei] at e; exact absurd e (hf i (by omega))
      · rw [va_up_ne _ _ ei, va_up_ne _ _ ej] at e
        rcases Nat.decEq i j with g | g
        · exact absurd e (hJ.1.2.2.2.2.2.2.2.2.2.1 i j (by omega) (by omega) g).1
        · exact g)
  omega
theorem wo_0 (a : Nat) : wo a 0 = a := by unfold wo; rw [Nat.and_zero, Nat.xor_zero]
theorem alm_0 (u : SS) : alm u 0 = alM u.mid u.bro := by funext j; show (wo (wo (2 ^ u.mid - 1) u.bro) 0).testBit j = _; rw [wo_0]
theorem mv_mvn {b p : Nat} (hb : b < 2147483648) (hp : p < 2147483648) : mv (nI b) p = mvn b p := by
  unfold mv mvn
  by_cases e : b = p
  · rw [if_pos e, if_pos (Or.inr (congrArg nI e))]
  · rw [if_neg e, if_neg (fun g => g.elim (nI_m1 hb) (fun g => e (nI_inj4 hb hp g)))]
/-- a new call -/
def newU (u : SS) (x y : Nat) : SS := SS.mk u.fst u.wid u.mid u.las u.pat u.bro u.mov (u.cnt + 1) (va_up u.inp u.cnt x) (va_up u.outs u.cnt (2 ^ y)) (va_up u.brd u.cnt 4294967295) (va_up u.mvd u.cnt 0) u.got u.owe
section NewRow
variable {f g : Nat → Int32} {u : SS} {x y : Nat} {π : Nat → Nat}
theorem rq_new (h : RowQ f u) (h16 : u.cnt < 16) : RowQ (upd (upd (upd (upd (upd f (8 + 4 * u.cnt + 0) (nI x)) (8 + 4 * u.cnt + 1) (nI (2 ^ y))) (8 + 4 * u.cnt + 2) (-1)) (8 + 4 * u.cnt + 3) (nI 0)) 4 (nI (u.cnt + 1))) (newU u x y) := by
  obtain ⟨⟨a0, a1, a2, a3, a4, a5, a6, a7⟩, h2, h3⟩ := h
  refine ⟨⟨?_, ?_, ?_, ?_, pk_us, ?_, ?_, ?_⟩, fun c hc => ?_, fun z hz => ?_⟩
  · rw [pk_un (by omega), pk_un (by omega), pk_un (by omega), pk_un (by omega), pk_un (by omega)]; exact a0
  · rw [pk_un (by omega), pk_un (by omega), pk_un (by omega), pk_un (by omega), pk_un (by omega)]; exact a1
  · rw [pk_un (by omega), pk_un (by omega), pk_un (by omega), pk_un (by omega), pk_un (by omega)]; exact a2
  · rw [pk_un (by omega), pk_un (by omega), pk_un (by omega), pk_un (by omega), pk_un (by omega)]; exact a3
  · rw [pk_un (by omega), pk_un (by omega), pk_un (by omega), pk_un (by omega), pk_un (by omega)]; exact a5
  · rw [pk_un (by omega), pk_un (by omega), pk_un (by omega), pk_un (by omega), pk_un (by omega)]; exact a6
  · rw [pk_un (by omega), pk_un (by omega), pk_un (by omega), pk_un (by omega), pk_un (by omega)]; exact a7
  · have hc : c < u.cnt + 1 := hc
    by_cases e : c = u.cnt
    · subst e
      refine ⟨?_, ?_, ?_, ?_⟩
      · rw [pk_un (by omega), pk_un (by omega), pk_un (by omega), pk_un (by omega), pk_us]; exact congrArg nI (va_up_self _ _ _).symm
      · rw [pk_un (by omega), pk_un (by omega), pk_un (by omega), pk_us]; exact congrArg nI (va_up_self _ _ _).symm
      · rw [pk_un (by omega), pk_un (by omega), pk_us, m1_nI]; exact congrArg nI (va_up_self _ _ _).symm
      · rw [pk_un (by omega), pk_us]; exact congrArg nI (va_up_self _ _ _).symm
    · obtain ⟨b0, b1, b2, b3⟩ := h2 c (by omega)
      refine ⟨?_, ?_, ?_, ?_⟩
      · rw [pk_un (by omega), pk_un (by omega), pk_un (by omega), pk_un (by omega), pk_un (by omega), b0]; exact congrArg nI (va_up_ne _ _ e).symm
      · rw [pk_un (by omega), pk_un (by omega), pk_un (by omega), pk_un (by omega), pk_un (by omega), b1]; exact congrArg nI (va_up_ne _ _ e).symm
      · rw [pk_un (by omega), pk_un (by omega), pk_un (by omega), pk_un (by omega), pk_un (by omega), b2]; exact congrArg nI (va_up_ne _ _ e).symm
      · rw [pk_un (by omega), pk_un (by omega), pk_un (by omega), pk_un (by omega), pk_un (by omega), b3]; exact congrArg nI (va_up_ne _ _ e).symm
  · obtain ⟨b0, b1⟩ := h3 z hz
    constructor
    · rw [pk_un (by omega), pk_un (by omega), pk_un (by omega), pk_un (by omega), pk_un (by omega)]; exact b0
    · rw [pk_un (by omega), pk_un (by omega), pk_un (by omega), pk_un (by omega), pk_un (by omega)]; exact b1
theorem bd_new (hJ : JQ u) (h16 : u.cnt < 16) (hx : x < u.fst * u.wid) (hy : y < u.las * u.wid) : BDq (newU u x y) := by
  obtain ⟨h1, h2, h3, h4, h5, h6, h7, h8, h9⟩ := bd_of hJ
  refine ⟨h1, h2, h3, h4, h5, h6, h16, h8, fun c hc => ?_⟩
  have hc : c < u.cnt + 1 := hc
  show va_up u.inp u.cnt x c < 16 ∧ va_up u.outs u.cnt (2 ^ y) c < 2 ^ (u.las * u.wid) ∧ va_up u.outs u.cnt (2 ^ y) c < 65536 ∧ (va_up u.brd u.cnt 4294967295 c < 4 ∨ va_up u.brd u.cnt 4294967295 c = 4294967295)
  by_cases e : c = u.cnt
  · rw [e, va_up_self, va_up_self, va_up_self]
    exact ⟨by omega, Nat.pow_lt_pow_right (by decide) hy, p2_lt (by omega), Or.inr rfl⟩
  · rw [va_up_ne _ _ e, va_up_ne _ _ e, va_up_ne _ _ e]; exact h9 c (by omega)
theorem rq_back (h : RowQ g (newU u x y)) (h16 : u.cnt < 16) : RowQ (upd g 4 (nI (u.cnt + 1 - 1))) u := by
  obtain ⟨⟨a0, a1, a2, a3, a4, a5, a6, a7⟩, h2, h3⟩ := h
  refine ⟨⟨?_, ?_, ?_, ?_, pk_us, ?_, ?_, ?_⟩, fun c hc => ?_, fun z hz => ?_⟩
  · rw [pk_un (by omega)]; exact a0
  · rw [pk_un (by omega)]; exact a1
  · rw [pk_un (by omega)]; exact a2
  · rw [pk_un (by omega)]; exact a3
  · rw [pk_un (by omega)]; exact a5
  · rw [pk_un (by omega)]; exact a6
  · rw [pk_un (by omega)]; exact a7
  · obtain ⟨b0, b1, b2, b3⟩ := h2 c (by show c < u.cnt + 1; omega)
    refine ⟨?_, ?_, ?_, ?_⟩
    · rw [pk_un (by omega), b0]; exact congrArg nI (va_up_ne _ _ (by omega))
    · rw [pk_un (by omega), b1]; exact congrArg nI (va_up_ne _ _ (by omega))
    · rw [pk_un (by omega), b2]; exact congrArg nI (va_up_ne _ _ (by omega))
    · rw [pk_un (by omega), b3]; exact congrArg nI (va_up_ne _ _ (by omega))
  · obtain ⟨b0, b1⟩ := h3 z hz
    exact ⟨by rw [pk_un (by omega)]; exact b0, by rw [pk_un (by omega)]; exact b1⟩
def conU (u : SS) (x y : Nat) (π : Nat → Nat) : SS := SS.mk u.fst u.wid u.mid u.las u.pat u.bro (u.mov + sumTo (fun c => mvn (u.brd c) (π c)) u.cnt) (u.cnt + 1) (va_up u.inp u.cnt x) (va_up u.outs u.cnt (2 ^ y)) (va_up (fun c => if c < u.cnt then π c else u.brd c) u.cnt (π u.cnt)) (va_up (fun c => u.mvd c + (if c < u.cnt then mvn (u.brd c) (π c) else 0)) u.cnt 0) (fun z => u.got z + sumTo (gtF u.inp u.brd π u.cnt z) u.cnt) (fun z => u.owe z + (if z = x then sumTo (owF u.brd π u.cnt) u.cnt else 0))
theorem new_bf {c : Nat} (hc : c < u.cnt) : bfm (newU u x y) c = nI (u.brd c) := congrArg nI (va_up_ne _ _ (by omega))
theorem new_mv {c : Nat} (hJ : JQ u) (hc : c < u.cnt) (hp : ∀ c, c < u.cnt + 1 → π c < 4) : mv (bfm (newU u x y) c) (π c) = mvn (u.brd c) (π c) := by
  rw [new_bf hc]
  have := hp c (by omega)
  have := hJ.1.2.2.2.2.2.2.2.1 c (by have := (bd_of hJ).2.2.2.2.2.2.1; omega)
  exact mv_mvn (by omega) (by omega)
theorem new_mv0 : mv (bfm (newU u x y) u.cnt) (π u.cnt) = 0 := mv_0 (Or.inl (by show nI (va_up u.brd u.cnt 4294967295 u.cnt) = -1; rw [va_up_self, m1_nI]))
theorem rq_done (hJ : JQ u) (h16 : u.cnt < 16) (hp : ∀ c, c < u.cnt + 1 → π c < 4) (h : RowQ g (moU (newU u x y) π u.cnt ((newU u x y).inp u.cnt) (u.cnt + 1))) : RowQ (upd g 4 (nI (u.cnt + 1 - 0))) (conU u x y π) := by
  have h := rowq_eqv (v := conU u x y π) h (by
    refine ⟨⟨rfl, rfl, rfl, rfl, rfl, rfl, ?_, rfl⟩, fun c hc => ⟨rfl, rfl, ?_, ?_⟩, fun z hz => ⟨?_, ?_⟩⟩
    · show u.mov + (sumTo (fun c => mv (bfm (newU u x y) c) (π c)) u.cnt + mv (bfm (newU u x y) u.cnt) (π u.cnt)) = u.mov + sumTo (fun c => mvn (u.brd c) (π c)) u.cnt
      rw [new_mv0, sumTo_congr (fun c hc => new_mv hJ hc hp)]; rfl
    · have hc : c < u.cnt + 1 := hc
      show (if c < u.cnt + 1 then π c else _) = va_up (fun c => if c < u.cnt then π c else u.brd c) u.cnt (π u.cnt) c
      rw [if_pos hc]
      by_cases e : c = u.cnt
      · rw [e, va_up_self]
      · rw [va_up_ne _ _ e]; exact (if_pos (by omega)).symm
    · have hc : c < u.cnt + 1 := hc
      show va_up u.mvd u.cnt 0 c + (if c < u.cnt + 1 then mv (bfm (newU u x y) c) (π c) else 0) = va_up (fun c => u.mvd c + (if c < u.cnt then mvn (u.brd c) (π c) else 0)) u.cnt 0 c
      rw [if_pos hc]
      by_cases e : c = u.cnt
      · rw [e, va_up_self, va_up_self, new_mv0]
      · rw [va_up_ne _ _ e, va_up_ne _ _ e, new_mv hJ (by omega) hp]
        show _ = u.mvd c + (if c < u.cnt then mvn (u.brd c) (π c) else 0)
        rw [if_pos (by omega)]
    · show u.owe z + (if z = va_up u.inp u.cnt x u.cnt then sumTo (owm (newU u x y) π u.cnt) u.cnt + owm (newU u x y) π u.cnt u.cnt else 0) = u.owe z + (if z = x then sumTo (owF u.brd π u.cnt) u.cnt else 0)
      rw [va_up_self, show owm (newU u x y) π u.cnt u.cnt = 0 from if_pos rfl, sumTo_congr (f := owm (newU u x y) π u.cnt) (g := owF u.brd π u.cnt) (fun c hc => by
        show (if c = u.cnt then 0 else _) = if c = u.cnt then 0 else _
        rw [if_neg (by omega), if_neg (by omega)]; exact new_mv hJ hc hp)]; rfl
    · show u.got z + (sumTo (gtm (newU u x y) π u.cnt z) u.cnt + gtm (newU u x y) π u.cnt z u.cnt) = u.got z + sumTo (gtF u.inp u.brd π u.cnt z) u.cnt
      rw [show gtm (newU u x y) π u.cnt z u.cnt = 0 from if_pos rfl, sumTo_congr (f := gtm (newU u x y) π u.cnt z) (g := gtF u.inp u.brd π u.cnt z) (fun c hc => by
        show (if c = u.cnt then 0 else if va_up u.inp u.cnt x c = z then _ else 0) = if c = u.cnt then 0 else if u.inp c = z then _ else 0
        rw [if_neg (show ¬ c = u.cnt by omega), if_neg (show ¬ c = u.cnt by omega), va_up_ne _ _ (show c ≠ u.cnt by omega)]
        show (if u.inp c = z then mv (bfm (newU u x y) c) (π c) else 0) = _
        rw [new_mv hJ hc hp])]; rfl)
  obtain ⟨⟨a0, a1, a2, a3, a4, a5, a6, a7⟩, h2, h3⟩ := h
  refine ⟨⟨?_, ?_, ?_, ?_, pk_us, ?_, ?_, ?_⟩, fun c hc => ?_, fun z hz => ?_⟩
  · rw [pk_un (by omega)]; exact a0
  · rw [pk_un (by omega)]; exact a1
  · rw [pk_un (by omega)]; exact a2
  · rw [pk_un (by omega)]; exact a3
  · rw [pk_un (by omega)]; exact a5
  · rw [pk_un (by omega)]; exact a6
  · rw [pk_un (by omega)]; exact a7
  · rw [pk_un (by omega), pk_un (by omega), pk_un (by omega), pk_un (by omega)]; exact h2 c hc
  · rw [pk_un (by omega), pk_un (by omega)]; exact h3 z hz
theorem new_fr {c : Nat} (hc : c < u.cnt + 1) : frm (newU u x y) c = frN u.cnt u.wid u.inp (x / u.wid) c := by
  show 2 ^ (va_up u.inp u.cnt x c / u.wid) = if c < u.cnt then 2 ^ (u.inp c / u.wid) else 2 ^ (x / u.wid)
  by_cases e : c = u.cnt
  · rw [e, va_up_self, if_neg (Nat.lt_irrefl _)]
  · rw [va_up_ne _ _ e, if_pos (by omega)]
theorem new_to {c : Nat} (hy : y < 16) (hc : c < u.cnt + 1) : tom (newU u x y) c = toN u.cnt u.wid u.outs (y / u.wid) c := by
  show lbs u.wid (va_up u.outs u.cnt (2 ^ y) c) = if c < u.cnt then lbs u.wid (u.outs c) else 2 ^ (y / u.wid)
  by_cases e : c = u.cnt
  · rw [e, va_up_self, if_neg (Nat.lt_irrefl _), lbs_p2 hy]
  · rw [va_up_ne _ _ e, if_pos (by omega)]
theorem new_bfN {c : Nat} (hc : c < u.cnt + 1) : bfm (newU u x y) c = bfN u.cnt u.brd c := by
  show nI (va_up u.brd u.cnt 4294967295 c) = if c < u.cnt then nI (u.brd c) else -1
  by_cases e : c = u.cnt
  · rw [e, va_up_self, if_neg (Nat.lt_irrefl _), m1_nI]
  · rw [va_up_ne _ _ e, if_pos (by omega)]
theorem cn_busy (h : RowQ f u) (hx : x < u.fst * u.wid) (hy : y < u.las * u.wid) (hf : ¬ (freeIn u.cnt u.inp x ∧ freeOut u.cnt u.outs y)) : CNq u x y (-1) f :=
  ⟨-3, u, ⟨Or.inr (Or.inl ⟨rfl, ⟨x, y, rfl, hx, rfl, hy, fun h1 h2 => absurd ⟨h1, h2⟩ hf⟩, sameq u⟩), rfl, rfl, rfl, rfl, rfl, rfl⟩, h, Or.inl ⟨rfl, rfl⟩⟩
theorem cn_no (hJ : JQ u) (h16 : u.cnt < 16) (hx : x < u.fst * u.wid) (hy : y < u.las * u.wid) (h : RowQ g (newU u x y)) (hn : ∀ π, VAL (newU u x y) 0 π → (newU u x y).pat < MVS (newU u x y) π) : CNq u x y (-1) (upd g 4 (nI (u.cnt + 1 - 1))) := by
  have hy16 : y < 16 := by have := (bd_of hJ).2.2.2.2.2.2.2.1.2; omega
  refine ⟨-3, u, ⟨Or.inr (Or.inl ⟨rfl, ⟨x, y, rfl, hx, rfl, hy, fun _ _ _ π hV => ?_⟩, sameq u⟩), rfl, rfl, rfl, rfl, rfl, rfl⟩, rq_back h h16, Or.inl ⟨rfl, rfl⟩⟩
  have hV2 : VAL (newU u x y) 0 π := by
    show Val (u.cnt + 1) (alm (newU u x y) 0) _ _ π
    rw [alm_0]
    exact val_eq (fun c hc => (new_fr hc).symm) (fun c hc => (new_to hy16 hc).symm) hV
  have := hn π hV2
  rwa [show MVS (newU u x y) π = Mvs (u.cnt + 1) (bfN u.cnt u.brd) π from sumTo_congr (fun c hc => by rw [new_bfN hc])] at this
theorem cn_yes {k : Nat} (hJ : JQ u) (h16 : u.cnt < 16) (hx : x < u.fst * u.wid) (hy : y < u.las * u.wid) (hf : freeIn u.cnt u.inp x) (hf2 : freeOut u.cnt u.outs y) (hk : k ≤ u.pat) (ho : Opt (newU u x y).cnt (alm (newU u x y) 0) (frm (newU u x y)) (tom (newU u x y)) (bfm (newU u x y)) π k)
    (h : RowQ g (moU (newU u x y) π u.cnt ((newU u x y).inp u.cnt) (newU u x y).cnt)) : CNq u x y (nI k) (upd g 4 (nI (u.cnt + 1 - 0))) := by
  have hy16 : y < 16 := by have := (bd_of hJ).2.2.2.2.2.2.2.1.2; omega
  have hp : ∀ c, c < u.cnt + 1 → π c < 4 := fun c hc => (ho.1 c hc).1
  refine ⟨nI k, conU u x y π, ⟨Or.inr (Or.inr ⟨x, y, k, π, _, _, rfl, hx, rfl, hy, hf, hf2, h16, rfl, hk, ?_, ⟨fun c _ => rfl, fun c _ => rfl, rfl, fun z _ => rfl, fun z _ => rfl⟩, rfl, rfl, rfl, rfl, rfl⟩), rfl, rfl, rfl, rfl, rfl, rfl⟩, rq_done hJ h16 hp h, Or.inr ⟨k, rfl, rfl, by have := hJ.1.2.2.2.2.1; omega⟩⟩
  have ho : Opt (u.cnt + 1) (alm (newU u x y) 0) (frm (newU u x y)) (tom (newU u x y)) (bfm (newU u x y)) π k := ho
  rw [alm_0] at ho
  exact opt_congr (fun c hc => new_fr hc) (fun c hc => new_to hy16 hc) (fun c hc => new_bfN hc) ho
end NewRow
/-- another output -/
def joinU (u : SS) (ca y : Nat) : SS := SS.mk u.fst u.wid u.mid u.las u.pat u.bro u.mov u.cnt u.inp (va_up u.outs ca (u.outs ca ||| 2 ^ y)) u.brd u.mvd u.got u.owe
def outU (u : SS) (ca o : Nat) : SS := SS.mk u.fst u.wid u.mid u.las u.pat u.bro u.mov u.cnt u.inp (va_up u.outs ca o) u.brd u.mvd u.got u.owe
theorem rq_out {f : Nat → Int32} {u : SS} {ca o : Nat} (h : RowQ f u) (hc : ca < u.cnt) (hn : u.cnt ≤ 16) : RowQ (upd f (8 + 4 * ca + 1) (nI o)) (outU u ca o) := by
  obtain ⟨⟨a0, a1, a2, a3, a4, a5, a6, a7⟩, h2, h3⟩ := h
  refine ⟨⟨?_, ?_, ?_, ?_, ?_, ?_, ?_, ?_⟩, fun c hc2 => ?_, fun z hz => ?_⟩
  · rw [pk_un (by omega)]; exact a0
  · rw [pk_un (by omega)]; exact a1
  · rw [pk_un (by omega)]; exact a2
  · rw [pk_un (by omega)]; exact a3
  · rw [pk_un (by omega)]; exact a4
  · rw [pk_un (by omega)]; exact a5
  · rw [pk_un (by omega)]; exact a6
  · rw [pk_un (by omega)]; exact a7
  · obtain ⟨b0, b1, b2, b3⟩ := h2 c hc2
    refine ⟨?_, ?_, ?_, ?_⟩
    · rw [pk_un (by omega), b0]; rfl
    · by_cases e : c = ca
      · subst e; rw [pk_us]; exact congrArg nI (va_up_self _ _ _).symm
      · rw [pk_un (by omega), b1]; exact congrArg nI (va_up_ne _ _ e).symm
    · rw [pk_un (by omega), b2]; rfl
    · rw [pk_un (by omega), b3]; rfl
  · obtain ⟨b0, b1⟩ := h3 z hz
    have hc2 : ca < 16 := by omega
    exact ⟨by rw [pk_un (by omega)]; exact b0, by rw [pk_un (by omega)]; exact b1⟩
section JoinRow
variable {f g : Nat → Int32} {u : SS} {ca y : Nat} {π : Nat → Nat}
theorem bd_join (hJ : JQ u) (hy : y < u.las * u.wid) : BDq (joinU u ca y) := by
  obtain ⟨h1, h2, h3, h4, h5, h6, h7, h8, h9⟩ := bd_of hJ
  refine ⟨h1, h2, h3, h4, h5, h6, h7, h8, fun c hc => ?_⟩
  show u.inp c < 16 ∧ va_up u.outs ca (u.outs ca ||| 2 ^ y) c < 2 ^ (u.las * u.wid) ∧ va_up u.outs ca (u.outs ca ||| 2 ^ y) c < 65536 ∧ (u.brd c < 4 ∨ u.brd c = 4294967295)
  obtain ⟨b1, b2, b3, b4⟩ := h9 c hc
  by_cases e : c = ca
  · subst e; rw [va_up_self]
    exact ⟨b1, Nat.or_lt_two_pow b2 (Nat.pow_lt_pow_right (by decide) hy), lt_2pow16_or b3 (p2_lt (by omega)), b4⟩
  · rw [va_up_ne _ _ e]; exact ⟨b1, b2, b3, b4⟩
theorem jn_busy (h : RowQ f u) (hc : ca < u.cnt) (hy : y < u.las * u.wid) (hf : ¬ (freeOut u.cnt u.outs y ∧ pcn (u.outs ca) < 4)) : JNq u ca y (-1) f :=
  ⟨-3, u, ⟨Or.inr (Or.inl ⟨rfl, ⟨ca, y, rfl, hc, rfl, hy, fun h1 h2 => absurd ⟨h1, h2⟩ hf⟩, sameq u⟩), rfl, rfl, rfl, rfl, rfl, rfl⟩, h, Or.inl ⟨rfl, rfl⟩⟩
theorem join_to {c : Nat} (hy : y < 16) : tom (joinU u ca y) c = toM u.wid u.outs ca (y / u.wid) c := by
  show lbs u.wid (va_up u.outs ca (u.outs ca ||| 2 ^ y) c) = if c = ca then lbs u.wid (u.outs c) ||| 2 ^ (y / u.wid) else lbs u.wid (u.outs c)
  by_cases e : c = ca
  · rw [e, va_up_self, if_pos rfl, lbs_or hy]
  · rw [va_up_ne _ _ e, if_neg e]
theorem jn_no (hJ : JQ u) (hc : ca < u.cnt) (hy : y < u.las * u.wid) (hf : freeOut u.cnt u.outs y) (h : RowQ g (joinU u ca y)) (hn : ∀ π, VAL (joinU u ca y) 0 π → (joinU u ca y).pat < MVS (joinU u ca y) π) : JNq u ca y (-1) (upd g (8 + 4 * ca + 1) (nI (wo (u.outs ca ||| 2 ^ y) (2 ^ y)))) := by
  have hy16 : y < 16 := by have := (bd_of hJ).2.2.2.2.2.2.2.1.2; omega
  have hb : (u.outs ca).testBit y = false := by cases q : (u.outs ca).testBit y with
    | false => rfl
    | true => exact absurd q (hf ca hc)
  refine ⟨-3, u, ⟨Or.inr (Or.inl ⟨rfl, ⟨ca, y, rfl, hc, rfl, hy, fun _ _ π hV => ?_⟩, sameq u⟩), rfl, rfl, rfl, rfl, rfl, rfl⟩, ?_, Or.inl ⟨rfl, rfl⟩⟩
  · have hV2 : VAL (joinU u ca y) 0 π := by
      show Val u.cnt (alm (joinU u ca y) 0) _ _ π
      rw [alm_0]
      exact val_eq (fun c hc => rfl) (fun c hc => (join_to hy16).symm) hV
    exact hn π hV2
  · refine rowq_eqv (rq_out (o := wo (u.outs ca ||| 2 ^ y) (2 ^ y)) h hc (bd_of hJ).2.2.2.2.2.2.1) ⟨⟨rfl, rfl, rfl, rfl, rfl, rfl, rfl, rfl⟩, fun c _ => ⟨rfl, ?_, rfl, rfl⟩, fun _ _ => ⟨rfl, rfl⟩⟩
    show va_up (va_up u.outs ca (u.outs ca ||| 2 ^ y)) ca (wo (u.outs ca ||| 2 ^ y) (2 ^ y)) c = u.outs c
    by_cases e : c = ca
    · rw [e, va_up_self, wo_or (and_p2 hb)]
    · rw [va_up_ne _ _ e, va_up_ne _ _ e]
theorem jn_yes {k : Nat} (hJ : JQ u) (hc : ca < u.cnt) (hy : y < u.las * u.wid) (hf : freeOut u.cnt u.outs y) (h4 : pcn (u.outs ca) < 4) (hk : k ≤ u.pat) (ho : Opt (joinU u ca y).cnt (alm (joinU u ca y) 0) (frm (joinU u ca y)) (tom (joinU u ca y)) (bfm (joinU u ca y)) π k)
    (h : RowQ g (moU (joinU u ca y) π ca ((joinU u ca y).inp ca) (joinU u ca y).cnt)) : JNq u ca y (nI k) (upd g (8 + 4 * ca + 1) (nI (u.outs ca ||| 2 ^ y))) := by
  have hy16 : y < 16 := by have := (bd_of hJ).2.2.2.2.2.2.2.1.2; omega
  have hp : ∀ c, c < u.cnt → π c < 4 := fun c hc => (ho.1 c hc).1
  have hm : ∀ c, c < u.cnt → mv (bfm (joinU u ca y) c) (π c) = mvn (u.brd c) (π c) := fun c hc => by
    have := hp c hc
    have := hJ.1.2.2.2.2.2.2.2.1 c (by have := (bd_of hJ).2.2.2.2.2.2.1; omega)
    exact mv_mvn (b := u.brd c) (by omega) (by omega)
  let v : SS := SS.mk u.fst u.wid u.mid u.las u.pat u.bro (u.mov + sumTo (fun c => mvn (u.brd c) (π c)) u.cnt) u.cnt u.inp (va_up u.outs ca (u.outs ca ||| 2 ^ y)) (fun c => if c < u.cnt then π c else u.brd c) (fun c => u.mvd c + (if c < u.cnt then mvn (u.brd c) (π c) else 0)) (fun z => u.got z + sumTo (gtF u.inp u.brd π ca z) u.cnt) (fun z => u.owe z + (if z = u.inp ca then sumTo (owF u.brd π ca) u.cnt else 0))
  refine ⟨nI k, v, ⟨Or.inr (Or.inr ⟨ca, y, k, π, rfl, hc, rfl, hy, hf, h4, rfl, hk, ?_, ⟨fun c _ => rfl, fun c _ => rfl, rfl, fun z _ => rfl, fun z _ => rfl⟩, rfl, rfl, rfl⟩), rfl, rfl, rfl, rfl, rfl, rfl⟩, ?_, Or.inr ⟨k, rfl, rfl, by have := hJ.1.2.2.2.2.1; omega⟩⟩
  · have ho : Opt u.cnt (alm (joinU u ca y) 0) (frm (joinU u ca y)) (tom (joinU u ca y)) (bfm (joinU u ca y)) π k := ho
    rw [alm_0] at ho
    exact opt_congr (fun c hc => rfl) (fun c hc => join_to hy16) (fun c hc => rfl) ho
  · refine rowq_eqv (rq_out (o := u.outs ca ||| 2 ^ y) h hc (bd_of hJ).2.2.2.2.2.2.1) ⟨⟨rfl, rfl, rfl, rfl, rfl, rfl, ?_, rfl⟩, fun c hc => ⟨rfl, ?_, rfl, ?_⟩, fun z hz => ⟨?_, ?_⟩⟩
    · show u.mov + sumTo (fun c => mv (bfm (joinU u ca y) c) (π c)) u.cnt = u.mov + sumTo (fun c => mvn (u.brd c) (π c)) u.cnt
      rw [sumTo_congr hm]
    · show va_up (va_up u.outs ca (u.outs ca ||| 2 ^ y)) ca (u.outs ca ||| 2 ^ y) c = va_up u.outs ca (u.outs ca ||| 2 ^ y) c
      by_cases e : c = ca
      · rw [e, va_up_self, va_up_self]
      · rw [va_up_ne _ _ e]
    · have hc : c < u.cnt := hc
      show u.mvd c + (if c < u.cnt then mv (bfm (joinU u ca y) c) (π c) else 0) = u.mvd c + (if c < u.cnt then mvn (u.brd c) (π c) else 0)
      rw [if_pos hc, if_pos hc, hm c hc]
    · show u.owe z + (if z = u.inp ca then sumTo (owm (joinU u ca y) π ca) u.cnt else 0) = u.owe z + (if z = u.inp ca then sumTo (owF u.brd π ca) u.cnt else 0)
      rw [sumTo_congr (f := owm (joinU u ca y) π ca) (g := owF u.brd π ca) (fun c hc => by
        show (if c = ca then 0 else _) = if c = ca then 0 else _
        rw [hm c hc])]
    · show u.got z + sumTo (gtm (joinU u ca y) π ca z) u.cnt = u.got z + sumTo (gtF u.inp u.brd π ca z) u.cnt
      rw [sumTo_congr (f := gtm (joinU u ca y) π ca z) (g := gtF u.inp u.brd π ca z) (fun c hc => by
        show (if c = ca then 0 else if u.inp c = z then _ else 0) = if c = ca then 0 else if u.inp c = z then _ else 0
        rw [hm c hc])]
theorem join_rd (h : RowQ g (joinU u ca y)) (hc : ca < u.cnt) : g (8 + 4 * ca + 1) = nI (u.outs ca ||| 2 ^ y) := (h.2.1 ca hc).2.1.trans (congrArg nI (va_up_self _ _ _))
theorem join_rd2 {px i : Nat} (h : RowQ g (moU (joinU u ca y) π ca px i)) (hc : ca < u.cnt) : g (8 + 4 * ca + 1) = nI (u.outs ca ||| 2 ^ y) := (h.2.1 ca hc).2.1.trans (congrArg nI (va_up_self _ _ _))
end JoinRow
theorem and_m1 (x : Int32) : x &&& (-1) = x := by
  apply Int32.toBitVec_inj.mp
  rw [Int32.toBitVec_and, show (-1 : Int32).toBitVec = BitVec.allOnes 32 by decide, BitVec.and_allOnes]
/-- a call ends -/
def shf (f : Nat → Nat) (ca n : Nat) : Nat → Nat := fun k => if ca ≤ k ∧ k < n then f (k + 1) else f k
def hangU (u : SS) (ca : Nat) : SS := SS.mk u.fst u.wid u.mid u.las u.pat u.bro u.mov (u.cnt - 1) (shf u.inp ca (u.cnt - 1)) (shf u.outs ca (u.cnt - 1)) (shf u.brd ca (u.cnt - 1)) (shf u.mvd ca (u.cnt - 1)) u.got u.owe
theorem hang_at {f : Nat → Int32} {n ca c j : Nat} (hj : j < 4) (hc : c < n - 1) : cpF f f (8 + 4 * (ca + 1) + 0) (8 + 4 * ca + 0) (4 * (n - 1 - ca)) (8 + 4 * c + j) = if ca ≤ c then f (8 + 4 * (c + 1) + j) else f (8 + 4 * c + j) := by
  unfold cpF
  by_cases e : ca ≤ c
  · rw [if_pos e, if_pos (by omega)]; congr 1; omega
  · rw [if_neg e, if_neg (by omega)]
theorem rq_hang {f : Nat → Int32} {u : SS} {ca : Nat} (h : RowQ f u) (hc : ca < u.cnt) (hn : u.cnt ≤ 16) : RowQ (upd (cpF f f (8 + 4 * (ca + 1) + 0) (8 + 4 * ca + 0) (4 * (u.cnt - 1 - ca))) 4 (nI (u.cnt - 1))) (hangU u ca) := by
  obtain ⟨⟨a0, a1, a2, a3, a4, a5, a6, a7⟩, h2, h3⟩ := h
  have lo : ∀ k, k < 8 → cpF f f (8 + 4 * (ca + 1) + 0) (8 + 4 * ca + 0) (4 * (u.cnt - 1 - ca)) k = f k := fun k hk => cp_out (Or.inl (by omega))
  refine ⟨⟨?_, ?_, ?_, ?_, pk_us, ?_, ?_, ?_⟩, fun c hc2 => ?_, fun z hz => ?_⟩
  · rw [pk_un (by omega), lo _ (by omega)]; exact a0
  · rw [pk_un (by omega), lo _ (by omega)]; exact a1
  · rw [pk_un (by omega), lo _ (by omega)]; exact a2
  · rw [pk_un (by omega), lo _ (by omega)]; exact a3
  · rw [pk_un (by omega), lo _ (by omega)]; exact a5
  · rw [pk_un (by omega), lo _ (by omega)]; exact a6
  · rw [pk_un (by omega), lo _ (by omega)]; exact a7
  · have hc2 : c < u.cnt - 1 := hc2
    rw [pk_un (by omega), pk_un (by omega), pk_un (by omega), pk_un (by omega), hang_at (by decide) hc2, hang_at (by decide) hc2, hang_at (by decide) hc2, hang_at (by decide) hc2]
    show _ = nI (if ca ≤ c ∧ c < u.cnt - 1 then u.inp (c + 1) else u.inp c) ∧ _ = nI (if ca ≤ c ∧ c < u.cnt - 1 then u.outs (c + 1) else u.outs c) ∧ _ = nI (if ca ≤ c ∧ c < u.cnt - 1 then u.brd (c + 1) else u.brd c) ∧ _ = nI (if ca ≤ c ∧ c < u.cnt - 1 then u.mvd (c + 1) else u.mvd c)
    by_cases e : ca ≤ c
    · have e2 : ca ≤ c ∧ c < u.cnt - 1 := ⟨e, hc2⟩
      rw [if_pos e, if_pos e, if_pos e, if_pos e, if_pos e2, if_pos e2, if_pos e2, if_pos e2]; exact h2 (c + 1) (by omega)
    · have e2 : ¬ (ca ≤ c ∧ c < u.cnt - 1) := fun g => e g.1
      rw [if_neg e, if_neg e, if_neg e, if_neg e, if_neg e2, if_neg e2, if_neg e2, if_neg e2]; exact h2 c (by omega)
  · rw [pk_un (by omega), pk_un (by omega), cp_out (Or.inr (by omega)), cp_out (Or.inr (by omega))]; exact h3 z hz
/-- outputs taken, boards broken -/
theorem out_uniq {u : SS} (hJ : JQ u) {c d y : Nat} (hc : c < u.cnt) (hd : d < u.cnt) (h1 : (u.outs c).testBit y = true) (h2 : (u.outs d).testBit y = true) : c = d := by
  rcases Nat.decEq c d with g | g
  · exact absurd ⟨h1, h2⟩ (and0_iff.mp (hJ.1.2.2.2.2.2.2.2.2.2.1 c d hc hd g).2 y)
  · exact g
def CDq (u : SS) (y : Nat) (r : Int32) : Prop := (r = nI 1 ∧ ∃ c, c < u.cnt ∧ (u.outs c).testBit y = true ∧ 1 < pcn (u.outs c)) ∨ (r = nI 0 ∧ ∀ c, c < u.cnt → (u.outs c).testBit y = true → pcn (u.outs c) ≤ 1)
def broU (u : SS) (b : Nat) : SS := SS.mk u.fst u.wid u.mid u.las u.pat b u.mov u.cnt u.inp u.outs u.brd u.mvd u.got u.owe
def brkV (b mb is : Nat) : Nat := if is = 0 then wo b (2 ^ mb) else b ||| 2 ^ mb
def patU (u : SS) (p : Nat) : SS := SS.mk u.fst u.wid u.mid u.las p u.bro u.mov u.cnt u.inp u.outs u.brd u.mvd u.got u.owe
theorem rq_bro {f : Nat → Int32} {u : SS} {b : Nat} (h : RowQ f u) : RowQ (upd f 7 (nI b)) (broU u b) := by
  obtain ⟨⟨a0, a1, a2, a3, a4, a5, a6, a7⟩, h2, h3⟩ := h
  refine ⟨⟨?_, ?_, ?_, ?_, ?_, ?_, ?_, pk_us⟩, fun c hc => ?_, fun z hz => ?_⟩
  · rw [pk_un (by omega)]; exact a0
  · rw [pk_un (by omega)]; exact a1
  · rw [pk_un (by omega)]; exact a2
  · rw [pk_un (by omega)]; exact a3
  · rw [pk_un (by omega)]; exact a4
  · rw [pk_un (by omega)]; exact a5
  · rw [pk_un (by omega)]; exact a6
  · rw [pk_un (by omega), pk_un (by omega), pk_un (by omega), pk_un (by omega)]; exact h2 c hc
  · rw [pk_un (by omega), pk_un (by omega)]; exact h3 z hz
theorem rq_pat {f : Nat → Int32} {u : SS} {b : Nat} (h : RowQ f u) : RowQ (upd f 5 (nI b)) (patU u b) := by
  obtain ⟨⟨a0, a1, a2, a3, a4, a5, a6, a7⟩, h2, h3⟩ := h
  refine ⟨⟨?_, ?_, ?_, ?_, ?_, pk_us, ?_, ?_⟩, fun c hc => ?_, fun z hz => ?_⟩
  · rw [pk_un (by omega)]; exact a0
  · rw [pk_un (by omega)]; exact a1
  · rw [pk_un (by omega)]; exact a2
  · rw [pk_un (by omega)]; exact a3
  · rw [pk_un (by omega)]; exact a4
  · rw [pk_un (by omega)]; exact a6
  · rw [pk_un (by omega)]; exact a7
  · rw [pk_un (by omega), pk_un (by omega), pk_un (by omega), pk_un (by omega)]; exact h2 c hc
  · rw [pk_un (by omega), pk_un (by omega)]; exact h3 z hz

theorem iX5_moveOver_X5 : ∀ w ∈ u_ws RX5 TX5 14, w ∈ wsX5_moveOver := by decide +kernel
abbrev rmX5_moveOver : Room := { frames := 6, cells := 0, slots := 0, locals := 142 }
theorem n_X5_moveOver : yX5_moveOver.cls = RX5 ∧ yX5_moveOver.cls ≠ "java/lang/invoke/MethodHandle" ∧ yX5_moveOver.cls ≠ "java/lang/invoke/VarHandle" ∧ (parseMethodDescriptor yX5_moveOver.desc).map (fun d => d.parameters.length) = some 2 := by decide +kernel
set_option maxHeartbeats 4000000 in
set_option maxRecDepth 100000 in
theorem k_X5_moveOver (l : Launch) (D : va_G) (cT : Nat → ClassId) (mA mref mscr msz mspot mgood mleft mread mnow mtri mdia macts mkept misk qp : Nat) (pl : Nat → Int32) (ra : Nat) (f : Nat → Int32) (ca : Nat) (u : SS) (hR : RowQ f u) (hB : BDq u) (hca : ca < u.cnt) : MWi (S := (Nat → Int32) × (Nat → Int32)) l D cT yX5_moveOver wsX5_moveOver rmX5_moveOver [.ref mA, .ref ra, .int (nI ca)] [(mA, cMo mref mscr msz mspot mgood mleft mread mnow mtri mdia macts mkept misk qp), (qp, aI (cT 0) 16 pl), (ra, aI (cT 0) 104 f)] (fun r w9 => MVQ u ca r w9.2) (fun w9 => [(mA, cMo mref mscr msz mspot mgood mleft mread mnow mtri mdia macts mkept misk qp), (qp, aI (cT 0) 16 w9.1), (ra, aI (cT 0) 104 w9.2)]) 0 0 := by
  refine m_Wi [(0, .ref mA), (1, .ref ra), (2, .int (nI ca))] (by decide +kernel) rfl (Nat.le_of_ble_eq_true rfl) rfl ?_
  intro p e s m args below meth c A hAe C hA hr hk hnm_
  generalize hQ : MQ below (va_Qi _ _ A) args s 0 0 A = Q
  obtain ⟨hF, hW, hM, hL, hPa, hBr, hCn, hFL, hE⟩ := id hB
  have hca1 := hE ca hca
  refine r_aln (pc := 0) C 0 rfl dX5_moveOver_0 ?_
  refine r_aln (pc := 1) C 1 rfl dX5_moveOver_1 ?_
  refine r_ic (pc := 2) (v := nI 0) C rfl dX5_moveOver_2 ?_
  refine r_aln (pc := 3) C 1 rfl dX5_moveOver_3 ?_
  refine r_ic (pc := 4) (v := nI 5) C rfl dX5_moveOver_4 ?_
  refine r_ialI (pc := 5) C 2 rfl (by first | omega | (have := hE i (by omega); omega) | (show i < u.cnt; omega)) (by decide) dX5_moveOver_5 ?_
  refine r_v (y := nI u.pat) hR.1.2.2.2.2.2.1 ?_
  refine c_WVi (pc := 6) (As := [.ref ra, .int (nI 0), .int (nI u.pat)]) (wc := [(mA, cMo mref mscr msz mspot mgood mleft mread mnow mtri mdia macts mkept misk qp), (qp, aI (cT 0) 16 pl), (ra, aI (cT 0) 104 f)]) (wr := []) (qr := 0) C hA (k_X5_best l D cT mA mref mscr msz mspot mgood mleft mread mnow mtri mdia macts mkept misk qp pl ra f 0 u.pat u hR hB (by decide) (by omega)) (cwV 3 C.1.2.2.2.2 gX5_moveOver_X5_best rfl rfl rfl n_X5_best ⟨Nat.le_of_ble_eq_true rfl, Nat.le_of_ble_eq_true rfl⟩) rfl rfl [0, 1, 2] [] rfl rfl ⟨by decide, by decide⟩ (by decide) [0, 1, 2] (fun u2 => [(mA, cMo mref mscr msz mspot mgood mleft mread mnow mtri mdia macts mkept misk qp), (qp, aI (cT 0) 16 u2), (ra, aI (cT 0) 104 f)]) (fun _ => rfl) (by decide) rfl rfl (Nat.le_of_ble_eq_true rfl) ⟨Nat.zero_le _, Nat.zero_le _⟩ dX5_moveOver_6 (fun r6 u2 h1 => ?_)
  rcases h1 with ⟨rfl, h1⟩ | ⟨h1k, h1π, rfl, h1a, h1b, h1c⟩
  · refine r_isn (pc := 9) C [1, 2, 3, 0] [(0, .ref mA), (1, .ref ra), (2, .int (nI ca)), (3, .int (-1))] rfl (by decide) rfl dX5_moveOver_9 ?_
    refine r_iln (pc := 10) C 3 rfl dX5_moveOver_10 ?_
    refine r_ic (pc := 11) (v := (-1)) C rfl dX5_moveOver_11 ?_
    refine r_cne (pc := 12) (tgt := 17) C dX5_moveOver_12 (by decide) (fun c12 => absurd c12 (by exact fun h => h rfl)) (fun c12 => ?_)
    refine r_ic (pc := 15) (v := (-1)) C rfl dX5_moveOver_15 ?_
    subst hQ
    exact e_iW C hr hk (Nat.le_refl _) (Nat.le_refl _) ⟨u2, f⟩ rfl (Or.inl ⟨rfl, hR, h1⟩) dX5_moveOver_16
  · refine r_isn (pc := 9) C [1, 2, 3, 0] [(0, .ref mA), (1, .ref ra), (2, .int (nI ca)), (3, .int (nI h1k))] rfl (by decide) rfl dX5_moveOver_9 ?_
    refine r_iln (pc := 10) C 3 rfl dX5_moveOver_10 ?_
    refine r_ic (pc := 11) (v := (-1)) C rfl dX5_moveOver_11 ?_
    refine r_cne (pc := 12) (tgt := 17) C dX5_moveOver_12 (by decide) (fun c12 => ?_) (fun c12 => absurd c12 (by exact nI_m1 (by omega)))
    refine r_aln (pc := 17) C 1 rfl dX5_moveOver_17 ?_
    refine r_iln (pc := 18) C 2 rfl dX5_moveOver_18 ?_
    refine r_ic (pc := 19) (v := nI 0) C rfl dX5_moveOver_19 ?_
    refine c_RS (pc := 20) (As := [.int (nI ca), .int (nI 0)]) (wc := [])  C (k_X5_callAt l D cT ca 0) (va_cwS 2 C.1.2.2.2.2 gX5_moveOver_X5_callAt rfl rfl rfl n_X5_callAt ⟨Nat.le_of_ble_eq_true rfl, Nat.le_of_ble_eq_true rfl⟩) [] rfl rfl rfl (Nat.le_of_ble_eq_true rfl) ⟨Nat.zero_le _, Nat.zero_le _⟩ dX5_moveOver_20 (fun r20 h3 => ?_)
    subst h3
    refine r_ialI (pc := 23) C 2 rfl (by first | omega | (have := hE i (by omega); omega) | (show i < u.cnt; omega)) (by decide) dX5_moveOver_23 ?_
    refine r_v (y := nI (u.inp ca)) ((hR.2.1 ca (by first | omega | (have := hE i (by omega); omega) | (show i < u.cnt; omega))).1) ?_
    refine r_is (pc := 24) C [1, 2, 3, 4, 0] [(0, .ref mA), (1, .ref ra), (2, .int (nI ca)), (3, .int (nI h1k)), (4, .int (nI (u.inp ca)))] (by decide) rfl dX5_moveOver_24 ?_
    refine r_ic (pc := 26) (v := nI 0) C rfl dX5_moveOver_26 ?_
    refine r_is (pc := 27) C [1, 2, 3, 4, 5, 0] [(0, .ref mA), (1, .ref ra), (2, .int (nI ca)), (3, .int (nI h1k)), (4, .int (nI (u.inp ca))), (5, .int (nI 0))] (by decide) rfl dX5_moveOver_27 ?_
    have L29 : ∀ (n29 : Nat) (i : Nat) (f1 : Nat → Int32) (hi : i ≤ u.cnt) (hR1 : RowQ f1 (moU u h1π ca (u.inp ca) i)), u.cnt - i < n29 → RW p l e (headSpec wsX5_moveOver rmX5_moveOver).room s m args below meth c (IW s D A) 6 0 0 Q [(mA, cMo mref mscr msz mspot mgood mleft mread mnow mtri mdia macts mkept misk qp), (qp, aI (cT 0) 16 u2), (ra, aI (cT 0) 104 f1)] 29 [(0, .ref mA), (1, .ref ra), (2, .int (nI ca)), (3, .int (nI h1k)), (4, .int (nI (u.inp ca))), (5, .int (nI i))] [] := by
      intro n29
      induction n29 with
      | zero => intro i f1 hi hR1 hn29; exact absurd hn29 (Nat.not_lt_zero _)
      | succ n29 ih29 =>
        intro i f1 hi hR1 hn29
        refine r_il (pc := 29) C 5 rfl dX5_moveOver_29 ?_
        refine r_aln (pc := 31) C 1 rfl dX5_moveOver_31 ?_
        refine r_ic (pc := 32) (v := nI 4) C rfl dX5_moveOver_32 ?_
        refine r_ialI (pc := 33) C 2 rfl (by first | omega | (have := hE i (by omega); omega) | (show i < u.cnt; omega)) (by decide) dX5_moveOver_33 ?_
        refine r_v (y := nI u.cnt) hR1.1.2.2.2.2.1 ?_
        refine r_cgeN (pc := 34) (tgt := 136) C (by first | omega | (have := hE i (by omega); omega) | (show i < u.cnt; omega)) (by first | omega | (have := hE i (by omega); omega) | (show i < u.cnt; omega)) dX5_moveOver_34 (by decide) (fun c34 => ?_) (fun c34 => ?_)
        · refine r_iln (pc := 136) C 3 rfl dX5_moveOver_136 ?_
          subst hQ
          exact e_iW C hr hk (Nat.le_refl _) (Nat.le_refl _) ⟨u2, f1⟩ rfl (Or.inr ⟨h1k, h1π, rfl, h1a, h1b, Eq.subst (motive := fun z => RowQ f1 (moU u h1π ca (u.inp ca) z)) (by omega) hR1⟩) dX5_moveOver_137
        · refine r_aln (pc := 37) C 0 rfl dX5_moveOver_37 ?_
          refine r_aln (pc := 38) C 1 rfl dX5_moveOver_38 ?_
          refine r_il (pc := 39) C 5 rfl dX5_moveOver_39 ?_
          refine c_RV (pc := 41) (As := [.ref ra, .int (nI i)]) (wc := [(mA, cMo mref mscr msz mspot mgood mleft mread mnow mtri mdia macts mkept misk qp), (qp, aI (cT 0) 16 u2), (ra, aI (cT 0) 104 f1)]) (qr := 0) C (k_X5_goesOver l D cT mA mref mscr msz mspot mgood mleft mread mnow mtri mdia macts mkept misk qp u2 ra f1 i (moU u h1π ca (u.inp ca) i) hR1 (bd_mo hB (fun j hj => (h1b.1 j hj).1)) (by show i < u.cnt; omega)) (cwV 2 C.1.2.2.2.2 gX5_moveOver_X5_goesOver rfl rfl rfl n_X5_goesOver ⟨Nat.le_of_ble_eq_true rfl, Nat.le_of_ble_eq_true rfl⟩) [0, 1, 2] rfl rfl rfl rfl rfl (Nat.le_of_ble_eq_true rfl) ⟨Nat.zero_le _, Nat.zero_le _⟩ dX5_moveOver_41 (fun r41 h4 => ?_)
          rcases h4 with ⟨rfl, h4⟩ | ⟨rfl, h4⟩
          · have hgo := h4
            rw [mo_brd, h1c i (by omega)] at hgo
            refine r_zeqN (pc := 44) (tgt := 115) C (by first | omega | (have := hE i (by omega); omega) | (show i < u.cnt; omega)) dX5_moveOver_44 (by decide) (fun h => absurd h (by decide)) (fun _ => ?_)
            refine r_aln (pc := 47) C 1 rfl dX5_moveOver_47 ?_
            refine r_il (pc := 48) C 5 rfl dX5_moveOver_48 ?_
            refine r_ic (pc := 50) (v := nI 3) C rfl dX5_moveOver_50 ?_
            refine c_RS (pc := 51) (As := [.int (nI i), .int (nI 3)]) (wc := [])  C (k_X5_callAt l D cT i 3) (va_cwS 2 C.1.2.2.2.2 gX5_moveOver_X5_callAt rfl rfl rfl n_X5_callAt ⟨Nat.le_of_ble_eq_true rfl, Nat.le_of_ble_eq_true rfl⟩) [] rfl rfl rfl (Nat.le_of_ble_eq_true rfl) ⟨Nat.zero_le _, Nat.zero_le _⟩ dX5_moveOver_51 (fun r51 h5 => ?_)
            subst h5
            refine r_dup2 (pc := 54) C rfl rfl dX5_moveOver_54 ?_
            refine r_ialI (pc := 55) C 2 rfl (by first | omega | (have := hE i (by omega); omega) | (show i < u.cnt; omega)) (by decide) dX5_moveOver_55 ?_
            refine r_v (y := nI ((moU u h1π ca (u.inp ca) i).mvd i)) ((hR1.2.1 i (by first | omega | (have := hE i (by omega); omega) | (show i < u.cnt; omega))).2.2.2) ?_
            refine r_ic (pc := 56) (v := nI 1) C rfl dX5_moveOver_56 ?_
            refine r_iaddN (pc := 57) C dX5_moveOver_57 ?_
            refine r_iasI (pc := 58) (ws2 := [(mA, cMo mref mscr msz mspot mgood mleft mread mnow mtri mdia macts mkept misk qp), (qp, aI (cT 0) 16 u2), (ra, aI (cT 0) 104 (upd f1 (8 + 4 * i + 3) (nI (((moU u h1π ca (u.inp ca) i).mvd i) + 1))))]) C 2 rfl (by first | omega | (have := hE i (by omega); omega) | (show i < u.cnt; omega)) (by decide) rfl dX5_moveOver_58 ?_
            refine r_aln (pc := 59) C 1 rfl dX5_moveOver_59 ?_
            refine r_bi (pc := 60) (v := nI 6) C rfl dX5_moveOver_60 ?_
            refine r_dup2 (pc := 62) C rfl rfl dX5_moveOver_62 ?_
            refine r_ialI (pc := 63) C 2 rfl (by first | omega | (have := hE i (by omega); omega) | (show i < u.cnt; omega)) (by decide) dX5_moveOver_63 ?_
            refine r_v (y := nI ((moU u h1π ca (u.inp ca) i).mov)) ((pk_un (by first | omega | (have := hE i (by omega); omega) | (show i < u.cnt; omega))).trans hR1.1.2.2.2.2.2.2.1) ?_
            refine r_ic (pc := 64) (v := nI 1) C rfl dX5_moveOver_64 ?_
            refine r_iaddN (pc := 65) C dX5_moveOver_65 ?_
            refine r_iasI (pc := 66) (ws2 := [(mA, cMo mref mscr msz mspot mgood mleft mread mnow mtri mdia macts mkept misk qp), (qp, aI (cT 0) 16 u2), (ra, aI (cT 0) 104 (upd (upd f1 (8 + 4 * i + 3) (nI (((moU u h1π ca (u.inp ca) i).mvd i) + 1))) 6 (nI (((moU u h1π ca (u.inp ca) i).mov) + 1))))]) C 2 rfl (by first | omega | (have := hE i (by omega); omega) | (show i < u.cnt; omega)) (by decide) rfl dX5_moveOver_66 ?_
            refine r_aln (pc := 67) C 1 rfl dX5_moveOver_67 ?_
            refine r_bi (pc := 68) (v := nI 88) C rfl dX5_moveOver_68 ?_
            refine r_aln (pc := 70) C 1 rfl dX5_moveOver_70 ?_
            refine r_il (pc := 71) C 5 rfl dX5_moveOver_71 ?_
            refine r_ic (pc := 73) (v := nI 0) C rfl dX5_moveOver_73 ?_
            refine c_RS (pc := 74) (As := [.int (nI i), .int (nI 0)]) (wc := [])  C (k_X5_callAt l D cT i 0) (va_cwS 2 C.1.2.2.2.2 gX5_moveOver_X5_callAt rfl rfl rfl n_X5_callAt ⟨Nat.le_of_ble_eq_true rfl, Nat.le_of_ble_eq_true rfl⟩) [] rfl rfl rfl (Nat.le_of_ble_eq_true rfl) ⟨Nat.zero_le _, Nat.zero_le _⟩ dX5_moveOver_74 (fun r74 h6 => ?_)
            subst h6
            refine r_ialI (pc := 77) C 2 rfl (by first | omega | (have := hE i (by omega); omega) | (show i < u.cnt; omega)) (by decide) dX5_moveOver_77 ?_
            refine r_v (y := nI (u.inp i)) ((pk_un (by first | omega | (have := hE i (by omega); omega) | (show i < u.cnt; omega))).trans ((pk_un (by first | omega | (have := hE i (by omega); omega) | (show i < u.cnt; omega))).trans (hR1.2.1 i (by first | omega | (have := hE i (by omega); omega) | (show i < u.cnt; omega))).1)) ?_
            refine r_iaddN (pc := 78) C dX5_moveOver_78 ?_
            refine r_dup2 (pc := 79) C rfl rfl dX5_moveOver_79 ?_
            refine r_ialI (pc := 80) C 2 rfl (by first | omega | (have := hE i (by omega); omega) | (show i < u.cnt; omega)) (by decide) dX5_moveOver_80 ?_
            refine r_v (y := nI ((moU u h1π ca (u.inp ca) i).got (u.inp i))) ((pk_un (by first | omega | (have := hE i (by omega); omega) | (show i < u.cnt; omega))).trans ((pk_un (by first | omega | (have := hE i (by omega); omega) | (show i < u.cnt; omega))).trans (hR1.2.2 (u.inp i) (by first | omega | (have := hE i (by omega); omega) | (show i < u.cnt; omega))).2)) ?_
            refine r_il (pc := 81) C 5 rfl dX5_moveOver_81 ?_
            refine r_iln (pc := 83) C 2 rfl dX5_moveOver_83 ?_
            refine r_cneN (pc := 84) (tgt := 91) C (by first | omega | (have := hE i (by omega); omega) | (show i < u.cnt; omega)) (by first | omega | (have := hE i (by omega); omega) | (show i < u.cnt; omega)) dX5_moveOver_84 (by decide) (fun c84 => ?_) (fun c84 => ?_)
            · refine r_ic (pc := 91) (v := nI 1) C rfl dX5_moveOver_91 ?_
              refine r_iaddN (pc := 92) C dX5_moveOver_92 ?_
              refine r_iasI (pc := 93) (ws2 := [(mA, cMo mref mscr msz mspot mgood mleft mread mnow mtri mdia macts mkept misk qp), (qp, aI (cT 0) 16 u2), (ra, aI (cT 0) 104 (upd (upd (upd f1 (8 + 4 * i + 3) (nI (((moU u h1π ca (u.inp ca) i).mvd i) + 1))) 6 (nI (((moU u h1π ca (u.inp ca) i).mov) + 1))) (88 + (u.inp i)) (nI (((moU u h1π ca (u.inp ca) i).got (u.inp i)) + 1))))]) C 2 rfl (by first | omega | (have := hE i (by omega); omega) | (show i < u.cnt; omega)) (by decide) rfl dX5_moveOver_93 ?_
              refine r_aln (pc := 94) C 1 rfl dX5_moveOver_94 ?_
              refine r_bi (pc := 95) (v := nI 72) C rfl dX5_moveOver_95 ?_
              refine r_il (pc := 97) C 4 rfl dX5_moveOver_97 ?_
              refine r_iaddN (pc := 99) C dX5_moveOver_99 ?_
              refine r_dup2 (pc := 100) C rfl rfl dX5_moveOver_100 ?_
              refine r_ialI (pc := 101) C 2 rfl (by first | omega | (have := hE i (by omega); omega) | (show i < u.cnt; omega)) (by decide) dX5_moveOver_101 ?_
              refine r_v (y := nI ((moU u h1π ca (u.inp ca) i).owe (u.inp ca))) ((pk_un (by first | omega | (have := hE i (by omega); omega) | (show i < u.cnt; omega))).trans ((pk_un (by first | omega | (have := hE i (by omega); omega) | (show i < u.cnt; omega))).trans ((pk_un (by first | omega | (have := hE i (by omega); omega) | (show i < u.cnt; omega))).trans (hR1.2.2 (u.inp ca) (by first | omega | (have := hE i (by omega); omega) | (show i < u.cnt; omega))).1))) ?_
              refine r_il (pc := 102) C 5 rfl dX5_moveOver_102 ?_
              refine r_iln (pc := 104) C 2 rfl dX5_moveOver_104 ?_
              refine r_cneN (pc := 105) (tgt := 112) C (by first | omega | (have := hE i (by omega); omega) | (show i < u.cnt; omega)) (by first | omega | (have := hE i (by omega); omega) | (show i < u.cnt; omega)) dX5_moveOver_105 (by decide) (fun c105 => ?_) (fun c105 => absurd c105 (by omega))
              refine r_ic (pc := 112) (v := nI 1) C rfl dX5_moveOver_112 ?_
              refine r_iaddN (pc := 113) C dX5_moveOver_113 ?_
              refine r_iasI (pc := 114) (ws2 := [(mA, cMo mref mscr msz mspot mgood mleft mread mnow mtri mdia macts mkept misk qp), (qp, aI (cT 0) 16 u2), (ra, aI (cT 0) 104 (upd (upd (upd (upd f1 (8 + 4 * i + 3) (nI (((moU u h1π ca (u.inp ca) i).mvd i) + 1))) 6 (nI (((moU u h1π ca (u.inp ca) i).mov) + 1))) (88 + (u.inp i)) (nI (((moU u h1π ca (u.inp ca) i).got (u.inp i)) + 1))) (72 + (u.inp ca)) (nI (((moU u h1π ca (u.inp ca) i).owe (u.inp ca)) + 1))))]) C 2 rfl (by first | omega | (have := hE i (by omega); omega) | (show i < u.cnt; omega)) (by decide) rfl dX5_moveOver_114 ?_
              refine r_aln (pc := 115) C 1 rfl dX5_moveOver_115 ?_
              refine r_il (pc := 116) C 5 rfl dX5_moveOver_116 ?_
              refine r_ic (pc := 118) (v := nI 2) C rfl dX5_moveOver_118 ?_
              refine c_RS (pc := 119) (As := [.int (nI i), .int (nI 2)]) (wc := [])  C (k_X5_callAt l D cT i 2) (va_cwS 2 C.1.2.2.2.2 gX5_moveOver_X5_callAt rfl rfl rfl n_X5_callAt ⟨Nat.le_of_ble_eq_true rfl, Nat.le_of_ble_eq_true rfl⟩) [] rfl rfl rfl (Nat.le_of_ble_eq_true rfl) ⟨Nat.zero_le _, Nat.zero_le _⟩ dX5_moveOver_119 (fun r119 h7 => ?_)
              subst h7
              refine r_aln (pc := 122) C 0 rfl dX5_moveOver_122 ?_
              refine r_get (pc := 123) C iX5_moveOver_X5 0 rfl rfl 13 (by decide) (mw 1 rfl) rfl rfl dX5_moveOver_123 ?_
              refine r_il (pc := 126) C 5 rfl dX5_moveOver_126 ?_
              refine r_ialI (pc := 128) C 1 rfl (by first | omega | (have := hE i (by omega); omega) | (show i < u.cnt; omega)) (by decide) dX5_moveOver_128 ?_
              refine r_v (y := nI (h1π i)) (h1c i (by omega)) ?_
              refine r_iasI (pc := 129) (ws2 := [(mA, cMo mref mscr msz mspot mgood mleft mread mnow mtri mdia macts mkept misk qp), (qp, aI (cT 0) 16 u2), (ra, aI (cT 0) 104 (upd (upd (upd (upd (upd f1 (8 + 4 * i + 3) (nI (((moU u h1π ca (u.inp ca) i).mvd i) + 1))) 6 (nI (((moU u h1π ca (u.inp ca) i).mov) + 1))) (88 + (u.inp i)) (nI (((moU u h1π ca (u.inp ca) i).got (u.inp i)) + 1))) (72 + (u.inp ca)) (nI (((moU u h1π ca (u.inp ca) i).owe (u.inp ca)) + 1))) (8 + 4 * i + 2) (nI (h1π i))))]) C 2 rfl (by first | omega | (have := hE i (by omega); omega) | (show i < u.cnt; omega)) (by decide) rfl dX5_moveOver_129 ?_
              refine r_incN (pc := 130) C 5 [1, 2, 3, 4, 5, 0] [(0, .ref mA), (1, .ref ra), (2, .int (nI ca)), (3, .int (nI h1k)), (4, .int (nI (u.inp ca))), (5, .int (nI (i + 1)))] rfl (by decide) rfl dX5_moveOver_130 ?_
              refine r_goto (pc := 133) (tgt := 29) C dX5_moveOver_133 (by decide) ?_
              exact ih29 (i + 1) (upd (upd (upd (upd (upd f1 (8 + 4 * i + 3) (nI (((moU u h1π ca (u.inp ca) i).mvd i) + 1))) 6 (nI (((moU u h1π ca (u.inp ca) i).mov) + 1))) (88 + (u.inp i)) (nI (((moU u h1π ca (u.inp ca) i).got (u.inp i)) + 1))) (72 + (u.inp ca)) (nI (((moU u h1π ca (u.inp ca) i).owe (u.inp ca)) + 1))) (8 + 4 * i + 2) (nI (h1π i))) (by omega) (mo_go hR1 (by omega) hCn (hE i (by omega)).1 hca1.1 hgo (by rw [if_neg c84])) (by omega)
            · refine r_ic (pc := 87) (v := nI 0) C rfl dX5_moveOver_87 ?_
              refine r_goto (pc := 88) (tgt := 92) C dX5_moveOver_88 (by decide) ?_
              refine r_iaddN (pc := 92) C dX5_moveOver_92 ?_
              refine r_iasI (pc := 93) (ws2 := [(mA, cMo mref mscr msz mspot mgood mleft mread mnow mtri mdia macts mkept misk qp), (qp, aI (cT 0) 16 u2), (ra, aI (cT 0) 104 (upd (upd (upd f1 (8 + 4 * i + 3) (nI (((moU u h1π ca (u.inp ca) i).mvd i) + 1))) 6 (nI (((moU u h1π ca (u.inp ca) i).mov) + 1))) (88 + (u.inp i)) (nI (((moU u h1π ca (u.inp ca) i).got (u.inp i)) + 0))))]) C 2 rfl (by first | omega | (have := hE i (by omega); omega) | (show i < u.cnt; omega)) (by decide) rfl dX5_moveOver_93 ?_
              refine r_aln (pc := 94) C 1 rfl dX5_moveOver_94 ?_
              refine r_bi (pc := 95) (v := nI 72) C rfl dX5_moveOver_95 ?_
              refine r_il (pc := 97) C 4 rfl dX5_moveOver_97 ?_
              refine r_iaddN (pc := 99) C dX5_moveOver_99 ?_
              refine r_dup2 (pc := 100) C rfl rfl dX5_moveOver_100 ?_
              refine r_ialI (pc := 101) C 2 rfl (by first | omega | (have := hE i (by omega); omega) | (show i < u.cnt; omega)) (by decide) dX5_moveOver_101 ?_
              refine r_v (y := nI ((moU u h1π ca (u.inp ca) i).owe (u.inp ca))) ((pk_un (by first | omega | (have := hE i (by omega); omega) | (show i < u.cnt; omega))).trans ((pk_un (by first | omega | (have := hE i (by omega); omega) | (show i < u.cnt; omega))).trans ((pk_un (by first | omega | (have := hE i (by omega); omega) | (show i < u.cnt; omega))).trans (hR1.2.2 (u.inp ca) (by first | omega | (have := hE i (by omega); omega) | (show i < u.cnt; omega))).1))) ?_
              refine r_il (pc := 102) C 5 rfl dX5_moveOver_102 ?_
              refine r_iln (pc := 104) C 2 rfl dX5_moveOver_104 ?_
              refine r_cneN (pc := 105) (tgt := 112) C (by first | omega | (have := hE i (by omega); omega) | (show i < u.cnt; omega)) (by first | omega | (have := hE i (by omega); omega) | (show i < u.cnt; omega)) dX5_moveOver_105 (by decide) (fun c105 => absurd c105 (by omega)) (fun c105 => ?_)
              refine r_ic (pc := 108) (v := nI 0) C rfl dX5_moveOver_108 ?_
              refine r_goto (pc := 109) (tgt := 113) C dX5_moveOver_109 (by decide) ?_
              refine r_iaddN (pc := 113) C dX5_moveOver_113 ?_
              refine r_iasI (pc := 114) (ws2 := [(mA, cMo mref mscr msz mspot mgood mleft mread mnow mtri mdia macts mkept misk qp), (qp, aI (cT 0) 16 u2), (ra, aI (cT 0) 104 (upd (upd (upd (upd f1 (8 + 4 * i + 3) (nI (((moU u h1π ca (u.inp ca) i).mvd i) + 1))) 6 (nI (((moU u h1π ca (u.inp ca) i).mov) + 1))) (88 + (u.inp i)) (nI (((moU u h1π ca (u.inp ca) i).got (u.inp i)) + 0))) (72 + (u.inp ca)) (nI (((moU u h1π ca (u.inp ca) i).owe (u.inp ca)) + 0))))]) C 2 rfl (by first | omega | (have := hE i (by omega); omega) | (show i < u.cnt; omega)) (by decide) rfl dX5_moveOver_114 ?_
              refine r_aln (pc := 115) C 1 rfl dX5_moveOver_115 ?_
              refine r_il (pc := 116) C 5 rfl dX5_moveOver_116 ?_
              refine r_ic (pc := 118) (v := nI 2) C rfl dX5_moveOver_118 ?_
              refine c_RS (pc := 119) (As := [.int (nI i), .int (nI 2)]) (wc := [])  C (k_X5_callAt l D cT i 2) (va_cwS 2 C.1.2.2.2.2 gX5_moveOver_X5_callAt rfl rfl rfl n_X5_callAt ⟨Nat.le_of_ble_eq_true rfl, Nat.le_of_ble_eq_true rfl⟩) [] rfl rfl rfl (Nat.le_of_ble_eq_true rfl) ⟨Nat.zero_le _, Nat.zero_le _⟩ dX5_moveOver_119 (fun r119 h8 => ?_)
              subst h8
              refine r_aln (pc := 122) C 0 rfl dX5_moveOver_122 ?_
              refine r_get (pc := 123) C iX5_moveOver_X5 0 rfl rfl 13 (by decide) (mw 1 rfl) rfl rfl dX5_moveOver_123 ?_
              refine r_il (pc := 126) C 5 rfl dX5_moveOver_126 ?_
              refine r_ialI (pc := 128) C 1 rfl (by first | omega | (have := hE i (by omega); omega) | (show i < u.cnt; omega)) (by decide) dX5_moveOver_128 ?_
              refine r_v (y := nI (h1π i)) (h1c i (by omega)) ?_
              refine r_iasI (pc := 129) (ws2 := [(mA, cMo mref mscr msz mspot mgood mleft mread mnow mtri mdia macts mkept misk qp), (qp, aI (cT 0) 16 u2), (ra, aI (cT 0) 104 (upd (upd (upd (upd (upd f1 (8 + 4 * i + 3) (nI (((moU u h1π ca (u.inp ca) i).mvd i) + 1))) 6 (nI (((moU u h1π ca (u.inp ca) i).mov) + 1))) (88 + (u.inp i)) (nI (((moU u h1π ca (u.inp ca) i).got (u.inp i)) + 0))) (72 + (u.inp ca)) (nI (((moU u h1π ca (u.inp ca) i).owe (u.inp ca)) + 0))) (8 + 4 * i + 2) (nI (h1π i))))]) C 2 rfl (by first | omega | (have := hE i (by omega); omega) | (show i < u.cnt; omega)) (by decide) rfl dX5_moveOver_129 ?_
              refine r_incN (pc := 130) C 5 [1, 2, 3, 4, 5, 0] [(0, .ref mA), (1, .ref ra), (2, .int (nI ca)), (3, .int (nI h1k)), (4, .int (nI (u.inp ca))), (5, .int (nI (i + 1)))] rfl (by decide) rfl dX5_moveOver_130 ?_
              refine r_goto (pc := 133) (tgt := 29) C dX5_moveOver_133 (by decide) ?_
              exact ih29 (i + 1) (upd (upd (upd (upd (upd f1 (8 + 4 * i + 3) (nI (((moU u h1π ca (u.inp ca) i).mvd i) + 1))) 6 (nI (((moU u h1π ca (u.inp ca) i).mov) + 1))) (88 + (u.inp i)) (nI (((moU u h1π ca (u.inp ca) i).got (u.inp i)) + 0))) (72 + (u.inp ca)) (nI (((moU u h1π ca (u.inp ca) i).owe (u.inp ca)) + 0))) (8 + 4 * i + 2) (nI (h1π i))) (by omega) (mo_go hR1 (by omega) hCn (hE i (by omega)).1 hca1.1 hgo (by rw [if_pos c84])) (by omega)
          · have hgo := h4
            rw [mo_brd, h1c i (by omega)] at hgo
            refine r_zeqN (pc := 44) (tgt := 115) C (by first | omega | (have := hE i (by omega); omega) | (show i < u.cnt; omega)) dX5_moveOver_44 (by decide) (fun _ => ?_) (fun h => absurd h (by decide))
            refine r_aln (pc := 115) C 1 rfl dX5_moveOver_115 ?_
            refine r_il (pc := 116) C 5 rfl dX5_moveOver_116 ?_
            refine r_ic (pc := 118) (v := nI 2) C rfl dX5_moveOver_118 ?_
            refine c_RS (pc := 119) (As := [.int (nI i), .int (nI 2)]) (wc := [])  C (k_X5_callAt l D cT i 2) (va_cwS 2 C.1.2.2.2.2 gX5_moveOver_X5_callAt rfl rfl rfl n_X5_callAt ⟨Nat.le_of_ble_eq_true rfl, Nat.le_of_ble_eq_true rfl⟩) [] rfl rfl rfl (Nat.le_of_ble_eq_true rfl) ⟨Nat.zero_le _, Nat.zero_le _⟩ dX5_moveOver_119 (fun r119 h9 => ?_)
            subst h9
            refine r_aln (pc := 122) C 0 rfl dX5_moveOver_122 ?_
            refine r_get (pc := 123) C iX5_moveOver_X5 0 rfl rfl 13 (by decide) (mw 1 rfl) rfl rfl dX5_moveOver_123 ?_
            refine r_il (pc := 126) C 5 rfl dX5_moveOver_126 ?_
            refine r_ialI (pc := 128) C 1 rfl (by first | omega | (have := hE i (by omega); omega) | (show i < u.cnt; omega)) (by decide) dX5_moveOver_128 ?_
            refine r_v (y := nI (h1π i)) (h1c i (by omega)) ?_
            refine r_iasI (pc := 129) (ws2 := [(mA, cMo mref mscr msz mspot mgood mleft mread mnow mtri mdia macts mkept misk qp), (qp, aI (cT 0) 16 u2), (ra, aI (cT 0) 104 (upd f1 (8 + 4 * i + 2) (nI (h1π i))))]) C 2 rfl (by first | omega | (have := hE i (by omega); omega) | (show i < u.cnt; omega)) (by decide) rfl dX5_moveOver_129 ?_
            refine r_incN (pc := 130) C 5 [1, 2, 3, 4, 5, 0] [(0, .ref mA), (1, .ref ra), (2, .int (nI ca)), (3, .int (nI h1k)), (4, .int (nI (u.inp ca))), (5, .int (nI (i + 1)))] rfl (by decide) rfl dX5_moveOver_130 ?_
            refine r_goto (pc := 133) (tgt := 29) C dX5_moveOver_133 (by decide) ?_
            exact ih29 (i + 1) (upd f1 (8 + 4 * i + 2) (nI (h1π i))) (by omega) (mo_stay hR1 (by omega) hCn hgo) (by omega)
    exact L29 _ 0 f (Nat.zero_le _) (moU_0 hR) (Nat.lt_succ_self _)

abbrev rmX5_areFree : Room := { frames := 2, cells := 0, slots := 0, locals := 44 }
theorem n_X5_areFree : yX5_areFree.cls ≠ "java/lang/invoke/MethodHandle" ∧ yX5_areFree.cls ≠ "java/lang/invoke/VarHandle" ∧ (parseMethodDescriptor yX5_areFree.desc).map (fun d => d.parameters.length) = some 3 := by decide +kernel
set_option maxHeartbeats 4000000 in
set_option maxRecDepth 100000 in
theorem k_X5_areFree (l : Launch) (D : va_G) (cT : Nat → ClassId) (ra : Nat) (f : Nat → Int32) (x y : Nat) (u : SS) (hR : RowQ f u) (hB : BDq u) (hx : x < 16) (hy : y < 16) : MR l D cT yX5_areFree wsX5_areFree rmX5_areFree [.ref ra, .int (nI x), .int (nI y)] [(ra, aI (cT 0) 104 f)] (fun r => (r = nI 1 ∧ freeIn u.cnt u.inp x ∧ freeOut u.cnt u.outs y) ∨ (r = nI 0 ∧ ¬ (freeIn u.cnt u.inp x ∧ freeOut u.cnt u.outs y))) := by
  refine m_R [(0, .ref ra), (1, .int (nI x)), (2, .int (nI y))] (by decide +kernel) rfl (Nat.le_of_ble_eq_true rfl) rfl ?_
  intro p e s m args below meth c C hr hk
  generalize hQ : MQ below (vp_Si _) args s 0 0 (fun _ => False) = Q
  obtain ⟨hF, hW, hM, hL, hPa, hBr, hCn, hFL, hE⟩ := id hB
  refine r_aln (pc := 0) C 0 rfl dX5_areFree_0 ?_
  refine r_iln (pc := 1) C 1 rfl dX5_areFree_1 ?_
  refine c_RS (pc := 2) (As := [.ref ra, .int (nI x)]) (wc := [(ra, aI (cT 0) 104 f)])  C (k_X5_byInput l D cT ra f x u (by first | assumption | omega) (by first | assumption | omega) (by first | assumption | omega)) (va_cwS 2 C.1.2.2.2.2 gX5_areFree_X5_byInput rfl rfl rfl n_X5_byInput ⟨Nat.le_of_ble_eq_true rfl, Nat.le_of_ble_eq_true rfl⟩) [0] rfl rfl rfl (Nat.le_of_ble_eq_true rfl) ⟨Nat.zero_le _, Nat.zero_le _⟩ dX5_areFree_2 (fun r2 h1 => ?_)
  rcases h1 with ⟨rfl, h1⟩ | ⟨h1k, rfl, h1l, h1a, h1b⟩
  · refine r_ic (pc := 5) (v := (-1)) C rfl dX5_areFree_5 ?_
    refine r_cne (pc := 6) (tgt := 22) C dX5_areFree_6 (by decide) (fun c6 => absurd c6 (by exact fun h => h rfl)) (fun c6 => ?_)
    refine r_aln (pc := 9) C 0 rfl dX5_areFree_9 ?_
    refine r_iln (pc := 10) C 2 rfl dX5_areFree_10 ?_
    refine c_RS (pc := 11) (As := [.ref ra, .int (nI y)]) (wc := [(ra, aI (cT 0) 104 f)])  C (k_X5_byOutput l D cT ra f y u (by first | assumption | omega) (by first | assumption | omega) (by first | assumption | omega)) (va_cwS 2 C.1.2.2.2.2 gX5_areFree_X5_byOutput rfl rfl rfl n_X5_byOutput ⟨Nat.le_of_ble_eq_true rfl, Nat.le_of_ble_eq_true rfl⟩) [0] rfl rfl rfl (Nat.le_of_ble_eq_true rfl) ⟨Nat.zero_le _, Nat.zero_le _⟩ dX5_areFree_11 (fun r11 h2 => ?_)
    rcases h2 with ⟨rfl, h2⟩ | ⟨h2k, rfl, h2l, h2a, h2b⟩
    · refine r_ic (pc := 14) (v := (-1)) C rfl dX5_areFree_14 ?_
      refine r_cne (pc := 15) (tgt := 22) C dX5_areFree_15 (by decide) (fun c15 => absurd c15 (by exact fun h => h rfl)) (fun c15 => ?_)
      refine r_ic (pc := 18) (v := nI 1) C rfl dX5_areFree_18 ?_
      refine r_goto (pc := 19) (tgt := 23) C dX5_areFree_19 (by decide) ?_
      subst hQ
      exact e_zR C hr hk rfl (Or.inl ⟨rfl, h1, h2⟩) dX5_areFree_23
    · refine r_ic (pc := 14) (v := (-1)) C rfl dX5_areFree_14 ?_
      refine r_cne (pc := 15) (tgt := 22) C dX5_areFree_15 (by decide) (fun c15 => ?_) (fun c15 => absurd c15 (by exact nI_m1 (by omega)))
      refine r_ic (pc := 22) (v := nI 0) C rfl dX5_areFree_22 ?_
      subst hQ
      exact e_zR C hr hk rfl (Or.inr ⟨rfl, fun g => g.2 _ h2l h2a⟩) dX5_areFree_23
  · refine r_ic (pc := 5) (v := (-1)) C rfl dX5_areFree_5 ?_
    refine r_cne (pc := 6) (tgt := 22) C dX5_areFree_6 (by decide) (fun c6 => ?_) (fun c6 => absurd c6 (by exact nI_m1 (by omega)))
    refine r_ic (pc := 22) (v := nI 0) C rfl dX5_areFree_22 ?_
    subst hQ
    exact e_zR C hr hk rfl (Or.inr ⟨rfl, fun g => g.1 _ h1l h1a⟩) dX5_areFree_23

abbrev rmX5_connectIn : Room := { frames := 7, cells := 0, slots := 0, locals := 167 }
theorem n_X5_connectIn : yX5_connectIn.cls = RX5 ∧ yX5_connectIn.cls ≠ "java/lang/invoke/MethodHandle" ∧ yX5_connectIn.cls ≠ "java/lang/invoke/VarHandle" ∧ (parseMethodDescriptor yX5_connectIn.desc).map (fun d => d.parameters.length) = some 3 := by decide +kernel
set_option maxHeartbeats 4000000 in
set_option maxRecDepth 100000 in
theorem k_X5_connectIn (l : Launch) (D : va_G) (cT : Nat → ClassId) (mA mref mscr msz mspot mgood mleft mread mnow mtri mdia macts mkept misk qp : Nat) (pl : Nat → Int32) (ra : Nat) (f : Nat → Int32) (x y : Nat) (u : SS) (hR : RowQ f u) (hJ : JQ u) (hx : x < u.fst * u.wid) (hy : y < u.las * u.wid) : MWi (S := (Nat → Int32) × (Nat → Int32)) l D cT yX5_connectIn wsX5_connectIn rmX5_connectIn [.ref mA, .ref ra, .int (nI x), .int (nI y)] [(mA, cMo mref mscr msz mspot mgood mleft mread mnow mtri mdia macts mkept misk qp), (qp, aI (cT 0) 16 pl), (ra, aI (cT 0) 104 f)] (fun r w9 => CNq u x y r w9.2) (fun w9 => [(mA, cMo mref mscr msz mspot mgood mleft mread mnow mtri mdia macts mkept misk qp), (qp, aI (cT 0) 16 w9.1), (ra, aI (cT 0) 104 w9.2)]) 0 0 := by
  refine m_Wi [(0, .ref mA), (1, .ref ra), (2, .int (nI x)), (3, .int (nI y))] (by decide +kernel) rfl (Nat.le_of_ble_eq_true rfl) rfl ?_
  intro p e s m args below meth c A hAe C hA hr hk hnm_
  generalize hQ : MQ below (va_Qi _ _ A) args s 0 0 A = Q
  have hB := bd_of hJ
  obtain ⟨hF, hW, hM, hL, hPa, hBr, hCn, hFL, hE⟩ := id hB
  refine r_aln (pc := 0) C 1 rfl dX5_connectIn_0 ?_
  refine r_iln (pc := 1) C 2 rfl dX5_connectIn_1 ?_
  refine r_iln (pc := 2) C 3 rfl dX5_connectIn_2 ?_
  refine c_RS (pc := 3) (As := [.ref ra, .int (nI x), .int (nI y)]) (wc := [(ra, aI (cT 0) 104 f)])  C (k_X5_areFree l D cT ra f x y u hR hB (by omega) (by omega)) (va_cwS 3 C.1.2.2.2.2 gX5_connectIn_X5_areFree rfl rfl rfl n_X5_areFree ⟨Nat.le_of_ble_eq_true rfl, Nat.le_of_ble_eq_true rfl⟩) [2] rfl rfl rfl (Nat.le_of_ble_eq_true rfl) ⟨Nat.zero_le _, Nat.zero_le _⟩ dX5_connectIn_3 (fun r3 h1 => ?_)
  rcases h1 with ⟨rfl, h1⟩ | ⟨rfl, h1⟩
  · obtain ⟨hfi, hfo⟩ := h1
    have h16 := free16 hJ hfi hx
    refine r_zneN (pc := 6) (tgt := 11) C (by omega) dX5_connectIn_6 (by decide) (fun _ => ?_) (fun h => absurd h (by decide))
    refine r_aln (pc := 11) C 1 rfl dX5_connectIn_11 ?_
    refine r_ic (pc := 12) (v := nI 4) C rfl dX5_connectIn_12 ?_
    refine r_ialI (pc := 13) C 2 rfl (by omega) (by decide) dX5_connectIn_13 ?_
    refine r_v (y := nI u.cnt) hR.1.2.2.2.2.1 ?_
    refine r_is (pc := 14) C [1, 2, 3, 4, 0] [(0, .ref mA), (1, .ref ra), (2, .int (nI x)), (3, .int (nI y)), (4, .int (nI u.cnt))] (by decide) rfl dX5_connectIn_14 ?_
    refine r_aln (pc := 16) C 1 rfl dX5_connectIn_16 ?_
    refine r_il (pc := 17) C 4 rfl dX5_connectIn_17 ?_
    refine r_ic (pc := 19) (v := nI 0) C rfl dX5_connectIn_19 ?_
    refine c_RS (pc := 20) (As := [.int (nI u.cnt), .int (nI 0)]) (wc := [])  C (k_X5_callAt l D cT u.cnt 0) (va_cwS 2 C.1.2.2.2.2 gX5_connectIn_X5_callAt rfl rfl rfl n_X5_callAt ⟨Nat.le_of_ble_eq_true rfl, Nat.le_of_ble_eq_true rfl⟩) [] rfl rfl rfl (Nat.le_of_ble_eq_true rfl) ⟨Nat.zero_le _, Nat.zero_le _⟩ dX5_connectIn_20 (fun r20 h2 => ?_)
    subst h2
    refine r_iln (pc := 23) C 2 rfl dX5_connectIn_23 ?_
    refine r_iasI (pc := 24) (ws2 := [(mA, cMo mref mscr msz mspot mgood mleft mread mnow mtri mdia macts mkept misk qp), (qp, aI (cT 0) 16 pl), (ra, aI (cT 0) 104 (upd f (8 + 4 * u.cnt + 0) (nI x)))]) C 2 rfl (by omega) (by decide) rfl dX5_connectIn_24 ?_
    refine r_aln (pc := 25) C 1 rfl dX5_connectIn_25 ?_
    refine r_il (pc := 26) C 4 rfl dX5_connectIn_26 ?_
    refine r_ic (pc := 28) (v := nI 1) C rfl dX5_connectIn_28 ?_
    refine c_RS (pc := 29) (As := [.int (nI u.cnt), .int (nI 1)]) (wc := [])  C (k_X5_callAt l D cT u.cnt 1) (va_cwS 2 C.1.2.2.2.2 gX5_connectIn_X5_callAt rfl rfl rfl n_X5_callAt ⟨Nat.le_of_ble_eq_true rfl, Nat.le_of_ble_eq_true rfl⟩) [] rfl rfl rfl (Nat.le_of_ble_eq_true rfl) ⟨Nat.zero_le _, Nat.zero_le _⟩ dX5_connectIn_29 (fun r29 h3 => ?_)
    subst h3
    refine r_ic (pc := 32) (v := nI 1) C rfl dX5_connectIn_32 ?_
    refine r_iln (pc := 33) C 3 rfl dX5_connectIn_33 ?_
    refine r_ishlN (pc := 34) C (by omega) (by rw [Nat.one_mul]; exact p2_lt31 (by omega)) dX5_connectIn_34 ?_
    refine r_v (y := nI (2 ^ y)) (congrArg nI (Nat.one_mul _)) ?_
    refine r_iasI (pc := 35) (ws2 := [(mA, cMo mref mscr msz mspot mgood mleft mread mnow mtri mdia macts mkept misk qp), (qp, aI (cT 0) 16 pl), (ra, aI (cT 0) 104 (upd (upd f (8 + 4 * u.cnt + 0) (nI x)) (8 + 4 * u.cnt + 1) (nI (2 ^ y))))]) C 2 rfl (by omega) (by decide) rfl dX5_connectIn_35 ?_
    refine r_aln (pc := 36) C 1 rfl dX5_connectIn_36 ?_
    refine r_il (pc := 37) C 4 rfl dX5_connectIn_37 ?_
    refine r_ic (pc := 39) (v := nI 2) C rfl dX5_connectIn_39 ?_
    refine c_RS (pc := 40) (As := [.int (nI u.cnt), .int (nI 2)]) (wc := [])  C (k_X5_callAt l D cT u.cnt 2) (va_cwS 2 C.1.2.2.2.2 gX5_connectIn_X5_callAt rfl rfl rfl n_X5_callAt ⟨Nat.le_of_ble_eq_true rfl, Nat.le_of_ble_eq_true rfl⟩) [] rfl rfl rfl (Nat.le_of_ble_eq_true rfl) ⟨Nat.zero_le _, Nat.zero_le _⟩ dX5_connectIn_40 (fun r40 h4 => ?_)
    subst h4
    refine r_ic (pc := 43) (v := (-1)) C rfl dX5_connectIn_43 ?_
    refine r_iasI (pc := 44) (ws2 := [(mA, cMo mref mscr msz mspot mgood mleft mread mnow mtri mdia macts mkept misk qp), (qp, aI (cT 0) 16 pl), (ra, aI (cT 0) 104 (upd (upd (upd f (8 + 4 * u.cnt + 0) (nI x)) (8 + 4 * u.cnt + 1) (nI (2 ^ y))) (8 + 4 * u.cnt + 2) (-1)))]) C 2 rfl (by omega) (by decide) rfl dX5_connectIn_44 ?_
    refine r_aln (pc := 45) C 1 rfl dX5_connectIn_45 ?_
    refine r_il (pc := 46) C 4 rfl dX5_connectIn_46 ?_
    refine r_ic (pc := 48) (v := nI 3) C rfl dX5_connectIn_48 ?_
    refine c_RS (pc := 49) (As := [.int (nI u.cnt), .int (nI 3)]) (wc := [])  C (k_X5_callAt l D cT u.cnt 3) (va_cwS 2 C.1.2.2.2.2 gX5_connectIn_X5_callAt rfl rfl rfl n_X5_callAt ⟨Nat.le_of_ble_eq_true rfl, Nat.le_of_ble_eq_true rfl⟩) [] rfl rfl rfl (Nat.le_of_ble_eq_true rfl) ⟨Nat.zero_le _, Nat.zero_le _⟩ dX5_connectIn_49 (fun r49 h5 => ?_)
    subst h5
    refine r_ic (pc := 52) (v := nI 0) C rfl dX5_connectIn_52 ?_
    refine r_iasI (pc := 53) (ws2 := [(mA, cMo mref mscr msz mspot mgood mleft mread mnow mtri mdia macts mkept misk qp), (qp, aI (cT 0) 16 pl), (ra, aI (cT 0) 104 (upd (upd (upd (upd f (8 + 4 * u.cnt + 0) (nI x)) (8 + 4 * u.cnt + 1) (nI (2 ^ y))) (8 + 4 * u.cnt + 2) (-1)) (8 + 4 * u.cnt + 3) (nI 0)))]) C 2 rfl (by omega) (by decide) rfl dX5_connectIn_53 ?_
    refine r_aln (pc := 54) C 1 rfl dX5_connectIn_54 ?_
    refine r_ic (pc := 55) (v := nI 4) C rfl dX5_connectIn_55 ?_
    refine r_dup2 (pc := 56) C rfl rfl dX5_connectIn_56 ?_
    refine r_ialI (pc := 57) C 2 rfl (by omega) (by decide) dX5_connectIn_57 ?_
    refine r_v (y := nI u.cnt) ((pk_un (by omega)).trans ((pk_un (by omega)).trans ((pk_un (by omega)).trans ((pk_un (by omega)).trans hR.1.2.2.2.2.1)))) ?_
    refine r_ic (pc := 58) (v := nI 1) C rfl dX5_connectIn_58 ?_
    refine r_iaddN (pc := 59) C dX5_connectIn_59 ?_
    refine r_iasI (pc := 60) (ws2 := [(mA, cMo mref mscr msz mspot mgood mleft mread mnow mtri mdia macts mkept misk qp), (qp, aI (cT 0) 16 pl), (ra, aI (cT 0) 104 (upd (upd (upd (upd (upd f (8 + 4 * u.cnt + 0) (nI x)) (8 + 4 * u.cnt + 1) (nI (2 ^ y))) (8 + 4 * u.cnt + 2) (-1)) (8 + 4 * u.cnt + 3) (nI 0)) 4 (nI (u.cnt + 1))))]) C 2 rfl (by omega) (by decide) rfl dX5_connectIn_60 ?_
    refine r_aln (pc := 61) C 0 rfl dX5_connectIn_61 ?_
    refine r_aln (pc := 62) C 1 rfl dX5_connectIn_62 ?_
    refine r_il (pc := 63) C 4 rfl dX5_connectIn_63 ?_
    refine c_WVi (pc := 65) (As := [.ref ra, .int (nI u.cnt)]) (wc := [(mA, cMo mref mscr msz mspot mgood mleft mread mnow mtri mdia macts mkept misk qp), (qp, aI (cT 0) 16 pl), (ra, aI (cT 0) 104 (upd (upd (upd (upd (upd f (8 + 4 * u.cnt + 0) (nI x)) (8 + 4 * u.cnt + 1) (nI (2 ^ y))) (8 + 4 * u.cnt + 2) (-1)) (8 + 4 * u.cnt + 3) (nI 0)) 4 (nI (u.cnt + 1))))]) (wr := []) (qr := 0) C hA (k_X5_moveOver l D cT mA mref mscr msz mspot mgood mleft mread mnow mtri mdia macts mkept misk qp pl ra (upd (upd (upd (upd (upd f (8 + 4 * u.cnt + 0) (nI x)) (8 + 4 * u.cnt + 1) (nI (2 ^ y))) (8 + 4 * u.cnt + 2) (-1)) (8 + 4 * u.cnt + 3) (nI 0)) 4 (nI (u.cnt + 1))) u.cnt (newU u x y) (rq_new hR h16) (bd_new hJ h16 hx hy) (by show u.cnt < u.cnt + 1; omega)) (cwV 2 C.1.2.2.2.2 gX5_connectIn_X5_moveOver rfl rfl rfl n_X5_moveOver ⟨Nat.le_of_ble_eq_true rfl, Nat.le_of_ble_eq_true rfl⟩) rfl rfl [0, 1, 2] [] rfl rfl ⟨by decide, by decide⟩ (by decide) [0, 1, 2] (fun u7 => [(mA, cMo mref mscr msz mspot mgood mleft mread mnow mtri mdia macts mkept misk qp), (qp, aI (cT 0) 16 u7.1), (ra, aI (cT 0) 104 u7.2)]) (fun _ => rfl) (by decide) rfl rfl (Nat.le_of_ble_eq_true rfl) ⟨Nat.zero_le _, Nat.zero_le _⟩ dX5_connectIn_65 (fun r65 u7 h6 => ?_)
    rcases h6 with ⟨rfl, h6R, h6⟩ | ⟨h6k, h6π, rfl, h6a, h6b, h6R⟩
    · refine r_is (pc := 68) C [1, 2, 3, 4, 5, 0] [(0, .ref mA), (1, .ref ra), (2, .int (nI x)), (3, .int (nI y)), (4, .int (nI u.cnt)), (5, .int (-1))] (by decide) rfl dX5_connectIn_68 ?_
      refine r_aln (pc := 70) C 1 rfl dX5_connectIn_70 ?_
      refine r_ic (pc := 71) (v := nI 4) C rfl dX5_connectIn_71 ?_
      refine r_dup2 (pc := 72) C rfl rfl dX5_connectIn_72 ?_
      refine r_ialI (pc := 73) C 2 rfl (by omega) (by decide) dX5_connectIn_73 ?_
      refine r_v (y := nI (u.cnt + 1)) h6R.1.2.2.2.2.1 ?_
      refine r_il (pc := 74) C 5 rfl dX5_connectIn_74 ?_
      refine r_ic (pc := 76) (v := (-1)) C rfl dX5_connectIn_76 ?_
      refine r_cne (pc := 77) (tgt := 84) C dX5_connectIn_77 (by decide) (fun c77 => absurd c77 (by exact fun h => h rfl)) (fun c77 => ?_)
      refine r_ic (pc := 80) (v := nI 1) C rfl dX5_connectIn_80 ?_
      refine r_goto (pc := 81) (tgt := 85) C dX5_connectIn_81 (by decide) ?_
      refine r_isubN (pc := 85) C (by omega) dX5_connectIn_85 ?_
      refine r_iasI (pc := 86) (ws2 := [(mA, cMo mref mscr msz mspot mgood mleft mread mnow mtri mdia macts mkept misk qp), (qp, aI (cT 0) 16 u7.1), (ra, aI (cT 0) 104 (upd u7.2 4 (nI ((u.cnt + 1) - 1))))]) C 2 rfl (by omega) (by decide) rfl dX5_connectIn_86 ?_
      refine r_il (pc := 87) C 5 rfl dX5_connectIn_87 ?_
      subst hQ
      exact e_iW C hr hk (Nat.le_refl _) (Nat.le_refl _) ⟨u7.1, upd u7.2 4 (nI ((u.cnt + 1) - 1))⟩ rfl (cn_no hJ h16 hx hy h6R h6) dX5_connectIn_89
    · have h6a : h6k ≤ u.pat := h6a
      refine r_is (pc := 68) C [1, 2, 3, 4, 5, 0] [(0, .ref mA), (1, .ref ra), (2, .int (nI x)), (3, .int (nI y)), (4, .int (nI u.cnt)), (5, .int (nI h6k))] (by decide) rfl dX5_connectIn_68 ?_
      refine r_aln (pc := 70) C 1 rfl dX5_connectIn_70 ?_
      refine r_ic (pc := 71) (v := nI 4) C rfl dX5_connectIn_71 ?_
      refine r_dup2 (pc := 72) C rfl rfl dX5_connectIn_72 ?_
      refine r_ialI (pc := 73) C 2 rfl (by omega) (by decide) dX5_connectIn_73 ?_
      refine r_v (y := nI (u.cnt + 1)) h6R.1.2.2.2.2.1 ?_
      refine r_il (pc := 74) C 5 rfl dX5_connectIn_74 ?_
      refine r_ic (pc := 76) (v := (-1)) C rfl dX5_connectIn_76 ?_
      refine r_cne (pc := 77) (tgt := 84) C dX5_connectIn_77 (by decide) (fun c77 => ?_) (fun c77 => absurd c77 (by exact nI_m1 (by omega)))
      refine r_ic (pc := 84) (v := nI 0) C rfl dX5_connectIn_84 ?_
      refine r_isubN (pc := 85) C (by omega) dX5_connectIn_85 ?_
      refine r_iasI (pc := 86) (ws2 := [(mA, cMo mref mscr msz mspot mgood mleft mread mnow mtri mdia macts mkept misk qp), (qp, aI (cT 0) 16 u7.1), (ra, aI (cT 0) 104 (upd u7.2 4 (nI ((u.cnt + 1) - 0))))]) C 2 rfl (by omega) (by decide) rfl dX5_connectIn_86 ?_
      refine r_il (pc := 87) C 5 rfl dX5_connectIn_87 ?_
      subst hQ
      exact e_iW C hr hk (Nat.le_refl _) (Nat.le_refl _) ⟨u7.1, upd u7.2 4 (nI ((u.cnt + 1) - 0))⟩ rfl (cn_yes hJ h16 hx hy hfi hfo h6a h6b h6R) dX5_connectIn_89
  · refine r_zneN (pc := 6) (tgt := 11) C (by omega) dX5_connectIn_6 (by decide) (fun h => absurd h (by decide)) (fun _ => ?_)
    refine r_ic (pc := 9) (v := (-1)) C rfl dX5_connectIn_9 ?_
    subst hQ
    exact e_iW C hr hk (Nat.le_refl _) (Nat.le_refl _) ⟨pl, f⟩ rfl (cn_busy hR hx hy h1) dX5_connectIn_10

abbrev rmX5_joinIn : Room := { frames := 7, cells := 0, slots := 0, locals := 167 }
theorem n_X5_joinIn : yX5_joinIn.cls = RX5 ∧ yX5_joinIn.cls ≠ "java/lang/invoke/MethodHandle" ∧ yX5_joinIn.cls ≠ "java/lang/invoke/VarHandle" ∧ (parseMethodDescriptor yX5_joinIn.desc).map (fun d => d.parameters.length) = some 3 := by decide +kernel
set_option maxHeartbeats 4000000 in
set_option maxRecDepth 100000 in
theorem k_X5_joinIn (l : Launch) (D : va_G) (cT : Nat → ClassId) (mA mref mscr msz mspot mgood mleft mread mnow mtri mdia macts mkept misk qp : Nat) (pl : Nat → Int32) (ra : Nat) (f : Nat → Int32) (ca y : Nat) (u : SS) (hR : RowQ f u) (hJ : JQ u) (hca : ca < u.cnt) (hy : y < u.las * u.wid) : MWi (S := (Nat → Int32) × (Nat → Int32)) l D cT yX5_joinIn wsX5_joinIn rmX5_joinIn [.ref mA, .ref ra, .int (nI ca), .int (nI y)] [(mA, cMo mref mscr msz mspot mgood mleft mread mnow mtri mdia macts mkept misk qp), (qp, aI (cT 0) 16 pl), (ra, aI (cT 0) 104 f)] (fun r w9 => JNq u ca y r w9.2) (fun w9 => [(mA, cMo mref mscr msz mspot mgood mleft mread mnow mtri mdia macts mkept misk qp), (qp, aI (cT 0) 16 w9.1), (ra, aI (cT 0) 104 w9.2)]) 0 0 := by
  refine m_Wi [(0, .ref mA), (1, .ref ra), (2, .int (nI ca)), (3, .int (nI y))] (by decide +kernel) rfl (Nat.le_of_ble_eq_true rfl) rfl ?_
  intro p e s m args below meth c A hAe C hA hr hk hnm_
  generalize hQ : MQ below (va_Qi _ _ A) args s 0 0 A = Q
  have hB := bd_of hJ
  obtain ⟨hF, hW, hM, hL, hPa, hBr, hCn, hFL, hE⟩ := id hB
  have hc1 := hE ca hca
  have hc4 := hJ.2 ca hca
  refine r_aln (pc := 0) C 1 rfl dX5_joinIn_0 ?_
  refine r_iln (pc := 1) C 3 rfl dX5_joinIn_1 ?_
  refine c_RS (pc := 2) (As := [.ref ra, .int (nI y)]) (wc := [(ra, aI (cT 0) 104 f)])  C (k_X5_byOutput l D cT ra f y u hR hB (by omega)) (va_cwS 2 C.1.2.2.2.2 gX5_joinIn_X5_byOutput rfl rfl rfl n_X5_byOutput ⟨Nat.le_of_ble_eq_true rfl, Nat.le_of_ble_eq_true rfl⟩) [2] rfl rfl rfl (Nat.le_of_ble_eq_true rfl) ⟨Nat.zero_le _, Nat.zero_le _⟩ dX5_joinIn_2 (fun r2 h1 => ?_)
  rcases h1 with ⟨rfl, h1⟩ | ⟨h1k, rfl, h1l, h1a, h1b⟩
  · refine r_ic (pc := 5) (v := (-1)) C rfl dX5_joinIn_5 ?_
    refine r_cne (pc := 6) (tgt := 23) C dX5_joinIn_6 (by decide) (fun c6 => absurd c6 (by exact fun h => h rfl)) (fun c6 => ?_)
    refine r_aln (pc := 9) C 1 rfl dX5_joinIn_9 ?_
    refine r_iln (pc := 10) C 2 rfl dX5_joinIn_10 ?_
    refine r_ic (pc := 11) (v := nI 1) C rfl dX5_joinIn_11 ?_
    refine c_RS (pc := 12) (As := [.int (nI ca), .int (nI 1)]) (wc := [])  C (k_X5_callAt l D cT ca 1) (va_cwS 2 C.1.2.2.2.2 gX5_joinIn_X5_callAt rfl rfl rfl n_X5_callAt ⟨Nat.le_of_ble_eq_true rfl, Nat.le_of_ble_eq_true rfl⟩) [] rfl rfl rfl (Nat.le_of_ble_eq_true rfl) ⟨Nat.zero_le _, Nat.zero_le _⟩ dX5_joinIn_12 (fun r12 h2 => ?_)
    subst h2
    refine r_ialI (pc := 15) C 2 rfl (by first | omega | (have := pcTo_le (u.outs ca) 16; omega) | exact and_lt31 (lt_2pow16_or hc1.2.2.1 (p2_lt (by omega))) | exact Nat.lt_trans (lt_2pow16_or hc1.2.2.1 (p2_lt (by omega))) (by decide)) (by decide) dX5_joinIn_15 ?_
    refine r_v (y := nI (u.outs ca)) ((hR.2.1 ca (by first | omega | (have := pcTo_le (u.outs ca) 16; omega) | exact and_lt31 (lt_2pow16_or hc1.2.2.1 (p2_lt (by omega))) | exact Nat.lt_trans (lt_2pow16_or hc1.2.2.1 (p2_lt (by omega))) (by decide))).2.1) ?_
    refine c_RS (pc := 16) (As := [.int (nI (u.outs ca))]) (wc := [])  C (k_X5_bits l D cT (u.outs ca) (by omega)) (va_cwS 1 C.1.2.2.2.2 gX5_joinIn_X5_bits rfl rfl rfl n_X5_bits ⟨Nat.le_of_ble_eq_true rfl, Nat.le_of_ble_eq_true rfl⟩) [] rfl rfl rfl (Nat.le_of_ble_eq_true rfl) ⟨Nat.zero_le _, Nat.zero_le _⟩ dX5_joinIn_16 (fun r16 h3 => ?_)
    subst h3
    refine r_ic (pc := 19) (v := nI 4) C rfl dX5_joinIn_19 ?_
    refine r_cneN (pc := 20) (tgt := 25) C (by first | omega | (have := pcTo_le (u.outs ca) 16; omega) | exact and_lt31 (lt_2pow16_or hc1.2.2.1 (p2_lt (by omega))) | exact Nat.lt_trans (lt_2pow16_or hc1.2.2.1 (p2_lt (by omega))) (by decide)) (by first | omega | (have := pcTo_le (u.outs ca) 16; omega) | exact and_lt31 (lt_2pow16_or hc1.2.2.1 (p2_lt (by omega))) | exact Nat.lt_trans (lt_2pow16_or hc1.2.2.1 (p2_lt (by omega))) (by decide)) dX5_joinIn_20 (by decide) (fun c20 => ?_) (fun c20 => ?_)
    · refine r_aln (pc := 25) C 1 rfl dX5_joinIn_25 ?_
      refine r_iln (pc := 26) C 2 rfl dX5_joinIn_26 ?_
      refine r_ic (pc := 27) (v := nI 1) C rfl dX5_joinIn_27 ?_
      refine c_RS (pc := 28) (As := [.int (nI ca), .int (nI 1)]) (wc := [])  C (k_X5_callAt l D cT ca 1) (va_cwS 2 C.1.2.2.2.2 gX5_joinIn_X5_callAt rfl rfl rfl n_X5_callAt ⟨Nat.le_of_ble_eq_true rfl, Nat.le_of_ble_eq_true rfl⟩) [] rfl rfl rfl (Nat.le_of_ble_eq_true rfl) ⟨Nat.zero_le _, Nat.zero_le _⟩ dX5_joinIn_28 (fun r28 h4 => ?_)
      subst h4
      refine r_dup2 (pc := 31) C rfl rfl dX5_joinIn_31 ?_
      refine r_ialI (pc := 32) C 2 rfl (by first | omega | (have := pcTo_le (u.outs ca) 16; omega) | exact and_lt31 (lt_2pow16_or hc1.2.2.1 (p2_lt (by omega))) | exact Nat.lt_trans (lt_2pow16_or hc1.2.2.1 (p2_lt (by omega))) (by decide)) (by decide) dX5_joinIn_32 ?_
      refine r_v (y := nI (u.outs ca)) ((hR.2.1 ca (by first | omega | (have := pcTo_le (u.outs ca) 16; omega) | exact and_lt31 (lt_2pow16_or hc1.2.2.1 (p2_lt (by omega))) | exact Nat.lt_trans (lt_2pow16_or hc1.2.2.1 (p2_lt (by omega))) (by decide))).2.1) ?_
      refine r_ic (pc := 33) (v := nI 1) C rfl dX5_joinIn_33 ?_
      refine r_iln (pc := 34) C 3 rfl dX5_joinIn_34 ?_
      refine r_ishlN (pc := 35) C (by first | omega | (have := pcTo_le (u.outs ca) 16; omega) | exact and_lt31 (lt_2pow16_or hc1.2.2.1 (p2_lt (by omega))) | exact Nat.lt_trans (lt_2pow16_or hc1.2.2.1 (p2_lt (by omega))) (by decide)) (by rw [Nat.one_mul]; exact p2_lt31 (by first | omega | (have := pcTo_le (u.outs ca) 16; omega) | exact and_lt31 (lt_2pow16_or hc1.2.2.1 (p2_lt (by omega))) | exact Nat.lt_trans (lt_2pow16_or hc1.2.2.1 (p2_lt (by omega))) (by decide))) dX5_joinIn_35 ?_
      refine r_v (y := nI (2 ^ y)) (congrArg nI (Nat.one_mul _)) ?_
      refine r_iorN (pc := 36) C dX5_joinIn_36 ?_
      refine r_iasI (pc := 37) (ws2 := [(mA, cMo mref mscr msz mspot mgood mleft mread mnow mtri mdia macts mkept misk qp), (qp, aI (cT 0) 16 pl), (ra, aI (cT 0) 104 (upd f (8 + 4 * ca + 1) (nI ((u.outs ca) ||| (2 ^ y)))))]) C 2 rfl (by first | omega | (have := pcTo_le (u.outs ca) 16; omega) | exact and_lt31 (lt_2pow16_or hc1.2.2.1 (p2_lt (by omega))) | exact Nat.lt_trans (lt_2pow16_or hc1.2.2.1 (p2_lt (by omega))) (by decide)) (by decide) rfl dX5_joinIn_37 ?_
      refine r_aln (pc := 38) C 0 rfl dX5_joinIn_38 ?_
      refine r_aln (pc := 39) C 1 rfl dX5_joinIn_39 ?_
      refine r_iln (pc := 40) C 2 rfl dX5_joinIn_40 ?_
      refine c_WVi (pc := 41) (As := [.ref ra, .int (nI ca)]) (wc := [(mA, cMo mref mscr msz mspot mgood mleft mread mnow mtri mdia macts mkept misk qp), (qp, aI (cT 0) 16 pl), (ra, aI (cT 0) 104 (upd f (8 + 4 * ca + 1) (nI ((u.outs ca) ||| (2 ^ y)))))]) (wr := []) (qr := 0) C hA (k_X5_moveOver l D cT mA mref mscr msz mspot mgood mleft mread mnow mtri mdia macts mkept misk qp pl ra (upd f (8 + 4 * ca + 1) (nI ((u.outs ca) ||| (2 ^ y)))) ca (joinU u ca y) (rq_out hR hca hCn) (bd_join hJ hy) hca) (cwV 2 C.1.2.2.2.2 gX5_joinIn_X5_moveOver rfl rfl rfl n_X5_moveOver ⟨Nat.le_of_ble_eq_true rfl, Nat.le_of_ble_eq_true rfl⟩) rfl rfl [0, 1, 2] [] rfl rfl ⟨by decide, by decide⟩ (by decide) [0, 1, 2] (fun u6 => [(mA, cMo mref mscr msz mspot mgood mleft mread mnow mtri mdia macts mkept misk qp), (qp, aI (cT 0) 16 u6.1), (ra, aI (cT 0) 104 u6.2)]) (fun _ => rfl) (by decide) rfl rfl (Nat.le_of_ble_eq_true rfl) ⟨Nat.zero_le _, Nat.zero_le _⟩ dX5_joinIn_41 (fun r41 u6 h5 => ?_)
      rcases h5 with ⟨rfl, h5R, h5⟩ | ⟨h5k, h5π, rfl, h5a, h5b, h5R⟩
      · refine r_is (pc := 44) C [1, 2, 3, 4, 0] [(0, .ref mA), (1, .ref ra), (2, .int (nI ca)), (3, .int (nI y)), (4, .int (-1))] (by decide) rfl dX5_joinIn_44 ?_
        refine r_aln (pc := 46) C 1 rfl dX5_joinIn_46 ?_
        refine r_iln (pc := 47) C 2 rfl dX5_joinIn_47 ?_
        refine r_ic (pc := 48) (v := nI 1) C rfl dX5_joinIn_48 ?_
        refine c_RS (pc := 49) (As := [.int (nI ca), .int (nI 1)]) (wc := [])  C (k_X5_callAt l D cT ca 1) (va_cwS 2 C.1.2.2.2.2 gX5_joinIn_X5_callAt rfl rfl rfl n_X5_callAt ⟨Nat.le_of_ble_eq_true rfl, Nat.le_of_ble_eq_true rfl⟩) [] rfl rfl rfl (Nat.le_of_ble_eq_true rfl) ⟨Nat.zero_le _, Nat.zero_le _⟩ dX5_joinIn_49 (fun r49 h7 => ?_)
        subst h7
        refine r_dup2 (pc := 52) C rfl rfl dX5_joinIn_52 ?_
        refine r_ialI (pc := 53) C 2 rfl (by first | omega | (have := pcTo_le (u.outs ca) 16; omega) | exact and_lt31 (lt_2pow16_or hc1.2.2.1 (p2_lt (by omega))) | exact Nat.lt_trans (lt_2pow16_or hc1.2.2.1 (p2_lt (by omega))) (by decide)) (by decide) dX5_joinIn_53 ?_
        refine r_v (y := nI (u.outs ca ||| 2 ^ y)) (join_rd h5R hca) ?_
        refine r_il (pc := 54) C 4 rfl dX5_joinIn_54 ?_
        refine r_ic (pc := 56) (v := (-1)) C rfl dX5_joinIn_56 ?_
        refine r_cne (pc := 57) (tgt := 68) C dX5_joinIn_57 (by decide) (fun c57 => absurd c57 (by exact fun h => h rfl)) (fun c57 => ?_)
        refine r_ic (pc := 60) (v := nI 1) C rfl dX5_joinIn_60 ?_
        refine r_iln (pc := 61) C 3 rfl dX5_joinIn_61 ?_
        refine r_ishlN (pc := 62) C (by first | omega | (have := pcTo_le (u.outs ca) 16; omega) | exact and_lt31 (lt_2pow16_or hc1.2.2.1 (p2_lt (by omega))) | exact Nat.lt_trans (lt_2pow16_or hc1.2.2.1 (p2_lt (by omega))) (by decide)) (by rw [Nat.one_mul]; exact p2_lt31 (by first | omega | (have := pcTo_le (u.outs ca) 16; omega) | exact and_lt31 (lt_2pow16_or hc1.2.2.1 (p2_lt (by omega))) | exact Nat.lt_trans (lt_2pow16_or hc1.2.2.1 (p2_lt (by omega))) (by decide))) dX5_joinIn_62 ?_
        refine r_v (y := nI (2 ^ y)) (congrArg nI (Nat.one_mul _)) ?_
        refine r_ic (pc := 63) (v := (-1)) C rfl dX5_joinIn_63 ?_
        refine r_ixor (pc := 64) C dX5_joinIn_64 ?_
        refine r_goto (pc := 65) (tgt := 69) C dX5_joinIn_65 (by decide) ?_
        refine r_iandWo (pc := 69) C dX5_joinIn_69 ?_
        refine r_iasI (pc := 70) (ws2 := [(mA, cMo mref mscr msz mspot mgood mleft mread mnow mtri mdia macts mkept misk qp), (qp, aI (cT 0) 16 u6.1), (ra, aI (cT 0) 104 (upd u6.2 (8 + 4 * ca + 1) (nI (wo (u.outs ca ||| 2 ^ y) (2 ^ y)))))]) C 2 rfl (by first | omega | (have := pcTo_le (u.outs ca) 16; omega) | exact and_lt31 (lt_2pow16_or hc1.2.2.1 (p2_lt (by omega))) | exact Nat.lt_trans (lt_2pow16_or hc1.2.2.1 (p2_lt (by omega))) (by decide)) (by decide) rfl dX5_joinIn_70 ?_
        refine r_il (pc := 71) C 4 rfl dX5_joinIn_71 ?_
        subst hQ
        exact e_iW C hr hk (Nat.le_refl _) (Nat.le_refl _) ⟨u6.1, upd u6.2 (8 + 4 * ca + 1) (nI (wo (u.outs ca ||| 2 ^ y) (2 ^ y)))⟩ rfl (jn_no hJ hca hy h1 h5R h5) dX5_joinIn_73
      · have h5a : h5k ≤ u.pat := h5a
        refine r_is (pc := 44) C [1, 2, 3, 4, 0] [(0, .ref mA), (1, .ref ra), (2, .int (nI ca)), (3, .int (nI y)), (4, .int (nI h5k))] (by decide) rfl dX5_joinIn_44 ?_
        refine r_aln (pc := 46) C 1 rfl dX5_joinIn_46 ?_
        refine r_iln (pc := 47) C 2 rfl dX5_joinIn_47 ?_
        refine r_ic (pc := 48) (v := nI 1) C rfl dX5_joinIn_48 ?_
        refine c_RS (pc := 49) (As := [.int (nI ca), .int (nI 1)]) (wc := [])  C (k_X5_callAt l D cT ca 1) (va_cwS 2 C.1.2.2.2.2 gX5_joinIn_X5_callAt rfl rfl rfl n_X5_callAt ⟨Nat.le_of_ble_eq_true rfl, Nat.le_of_ble_eq_true rfl⟩) [] rfl rfl rfl (Nat.le_of_ble_eq_true rfl) ⟨Nat.zero_le _, Nat.zero_le _⟩ dX5_joinIn_49 (fun r49 h8 => ?_)
        subst h8
        refine r_dup2 (pc := 52) C rfl rfl dX5_joinIn_52 ?_
        refine r_ialI (pc := 53) C 2 rfl (by first | omega | (have := pcTo_le (u.outs ca) 16; omega) | exact and_lt31 (lt_2pow16_or hc1.2.2.1 (p2_lt (by omega))) | exact Nat.lt_trans (lt_2pow16_or hc1.2.2.1 (p2_lt (by omega))) (by decide)) (by decide) dX5_joinIn_53 ?_
        refine r_v (y := nI (u.outs ca ||| 2 ^ y)) (join_rd2 h5R hca) ?_
        refine r_il (pc := 54) C 4 rfl dX5_joinIn_54 ?_
        refine r_ic (pc := 56) (v := (-1)) C rfl dX5_joinIn_56 ?_
        refine r_cne (pc := 57) (tgt := 68) C dX5_joinIn_57 (by decide) (fun c57 => ?_) (fun c57 => absurd c57 (by exact nI_m1 (by omega)))
        refine r_ic (pc := 68) (v := (-1)) C rfl dX5_joinIn_68 ?_
        refine r_iand (pc := 69) C dX5_joinIn_69 ?_
        refine r_v (y := nI (u.outs ca ||| 2 ^ y)) (and_m1 _) ?_
        refine r_iasI (pc := 70) (ws2 := [(mA, cMo mref mscr msz mspot mgood mleft mread mnow mtri mdia macts mkept misk qp), (qp, aI (cT 0) 16 u6.1), (ra, aI (cT 0) 104 (upd u6.2 (8 + 4 * ca + 1) (nI (u.outs ca ||| 2 ^ y))))]) C 2 rfl (by first | omega | (have := pcTo_le (u.outs ca) 16; omega) | exact and_lt31 (lt_2pow16_or hc1.2.2.1 (p2_lt (by omega))) | exact Nat.lt_trans (lt_2pow16_or hc1.2.2.1 (p2_lt (by omega))) (by decide)) (by decide) rfl dX5_joinIn_70 ?_
        refine r_il (pc := 71) C 4 rfl dX5_joinIn_71 ?_
        subst hQ
        exact e_iW C hr hk (Nat.le_refl _) (Nat.le_refl _) ⟨u6.1, upd u6.2 (8 + 4 * ca + 1) (nI (u.outs ca ||| 2 ^ y))⟩ rfl (jn_yes hJ hca hy h1 (by omega) h5a h5b h5R) dX5_joinIn_73
    · have hfull := c20
      refine r_ic (pc := 23) (v := (-1)) C rfl dX5_joinIn_23 ?_
      subst hQ
      exact e_iW C hr hk (Nat.le_refl _) (Nat.le_refl _) ⟨pl, f⟩ rfl (jn_busy hR hca hy (fun g => by omega)) dX5_joinIn_24
  · refine r_ic (pc := 5) (v := (-1)) C rfl dX5_joinIn_5 ?_
    refine r_cne (pc := 6) (tgt := 23) C dX5_joinIn_6 (by decide) (fun c6 => ?_) (fun c6 => absurd c6 (by exact nI_m1 (by omega)))
    refine r_ic (pc := 23) (v := (-1)) C rfl dX5_joinIn_23 ?_
    subst hQ
    exact e_iW C hr hk (Nat.le_refl _) (Nat.le_refl _) ⟨pl, f⟩ rfl (jn_busy hR hca hy (fun g => g.1 _ h1l h1a)) dX5_joinIn_24

abbrev rmX5_hangIn : Room := { frames := 1, cells := 0, slots := 0, locals := 25 }
theorem n_X5_hangIn : yX5_hangIn.cls ≠ "java/lang/invoke/MethodHandle" ∧ yX5_hangIn.cls ≠ "java/lang/invoke/VarHandle" ∧ (parseMethodDescriptor yX5_hangIn.desc).map (fun d => d.parameters.length) = some 2 := by decide +kernel
set_option maxHeartbeats 4000000 in
set_option maxRecDepth 100000 in
theorem k_X5_hangIn (l : Launch) (D : va_G) (cT : Nat → ClassId) (ra : Nat) (f : Nat → Int32) (ca : Nat) (u : SS) (hR : RowQ f u) (hB : BDq u) (hca : ca < u.cnt) : MWv (S := (Nat → Int32)) l D cT yX5_hangIn wsX5_hangIn rmX5_hangIn [.ref ra, .int (nI ca)] [(ra, aI (cT 0) 104 f)] (fun w9 => RowQ w9 (hangU u ca)) (fun w9 => [(ra, aI (cT 0) 104 w9)]) 0 0 := by
  refine m_Wv [(0, .ref ra), (1, .int (nI ca))] (by decide +kernel) rfl (Nat.le_of_ble_eq_true rfl) rfl ?_
  intro p e s m args below meth c A hAe C hA hr hk hnm_
  generalize hQ : MQ below (va_Qv _ _ A) args s 0 0 A = Q
  obtain ⟨hF, hW, hM, hL, hPa, hBr, hCn, hFL, hE⟩ := id hB
  refine r_aln (pc := 0) C 0 rfl dX5_hangIn_0 ?_
  refine r_iln (pc := 1) C 1 rfl dX5_hangIn_1 ?_
  refine r_ic (pc := 2) (v := nI 1) C rfl dX5_hangIn_2 ?_
  refine r_iaddN (pc := 3) C dX5_hangIn_3 ?_
  refine r_ic (pc := 4) (v := nI 0) C rfl dX5_hangIn_4 ?_
  refine c_RS (pc := 5) (As := [.int (nI (ca + 1)), .int (nI 0)]) (wc := [])  C (k_X5_callAt l D cT (ca + 1) 0) (va_cwS 2 C.1.2.2.2.2 gX5_hangIn_X5_callAt rfl rfl rfl n_X5_callAt ⟨Nat.le_of_ble_eq_true rfl, Nat.le_of_ble_eq_true rfl⟩) [] rfl rfl rfl (Nat.le_of_ble_eq_true rfl) ⟨Nat.zero_le _, Nat.zero_le _⟩ dX5_hangIn_5 (fun r5 h1 => ?_)
  subst h1
  refine r_aln (pc := 8) C 0 rfl dX5_hangIn_8 ?_
  refine r_iln (pc := 9) C 1 rfl dX5_hangIn_9 ?_
  refine r_ic (pc := 10) (v := nI 0) C rfl dX5_hangIn_10 ?_
  refine c_RS (pc := 11) (As := [.int (nI ca), .int (nI 0)]) (wc := [])  C (k_X5_callAt l D cT ca 0) (va_cwS 2 C.1.2.2.2.2 gX5_hangIn_X5_callAt rfl rfl rfl n_X5_callAt ⟨Nat.le_of_ble_eq_true rfl, Nat.le_of_ble_eq_true rfl⟩) [] rfl rfl rfl (Nat.le_of_ble_eq_true rfl) ⟨Nat.zero_le _, Nat.zero_le _⟩ dX5_hangIn_11 (fun r11 h2 => ?_)
  subst h2
  refine r_ic (pc := 14) (v := nI 4) C rfl dX5_hangIn_14 ?_
  refine r_aln (pc := 15) C 0 rfl dX5_hangIn_15 ?_
  refine r_ic (pc := 16) (v := nI 4) C rfl dX5_hangIn_16 ?_
  refine r_ialI (pc := 17) C 0 rfl (by omega) (by decide) dX5_hangIn_17 ?_
  refine r_v (y := nI u.cnt) hR.1.2.2.2.2.1 ?_
  refine r_ic (pc := 18) (v := nI 1) C rfl dX5_hangIn_18 ?_
  refine r_isubN (pc := 19) C (by omega) dX5_hangIn_19 ?_
  refine r_iln (pc := 20) C 1 rfl dX5_hangIn_20 ?_
  refine r_isubN (pc := 21) C (by omega) dX5_hangIn_21 ?_
  refine r_imulN (pc := 22) C dX5_hangIn_22 ?_
  refine c_WSv (pc := 23) (As := [.ref ra, .int (nI (8 + 4 * (ca + 1) + 0)), .ref ra, .int (nI (8 + 4 * ca + 0)), .int (nI (4 * ((u.cnt - 1) - ca)))]) (wc := [(ra, aI (cT 0) 104 f)]) (wr := [])  C hA (k_X5_copy_s l D cT ra 104 f (8 + 4 * (ca + 1) + 0) (8 + 4 * ca + 0) (4 * ((u.cnt - 1) - ca)) (by decide) (by omega) (by omega)) (va_cwS 5 C.1.2.2.2.2 gX5_hangIn_X5_copy rfl rfl rfl n_X5_copy ⟨Nat.le_of_ble_eq_true rfl, Nat.le_of_ble_eq_true rfl⟩) [0] [] rfl rfl ⟨by decide, by decide⟩ (by decide) [0] (fun u4 => [(ra, aI (cT 0) 104 u4)]) (fun _ => rfl) (by decide) rfl rfl (Nat.le_of_ble_eq_true rfl) ⟨Nat.zero_le _, Nat.zero_le _⟩ dX5_hangIn_23 (fun u4 h3 => ?_)
  obtain ⟨m5, rfl⟩ : ∃ z, z = u4 := ⟨_, rfl⟩
  try dsimp only at h3
  subst h3
  refine r_aln (pc := 26) C 0 rfl dX5_hangIn_26 ?_
  refine r_ic (pc := 27) (v := nI 4) C rfl dX5_hangIn_27 ?_
  refine r_dup2 (pc := 28) C rfl rfl dX5_hangIn_28 ?_
  refine r_ialI (pc := 29) C 0 rfl (by omega) (by omega) dX5_hangIn_29 ?_
  refine r_v (y := nI u.cnt) ((cp_out (Or.inl (by omega))).trans hR.1.2.2.2.2.1) ?_
  refine r_ic (pc := 30) (v := nI 1) C rfl dX5_hangIn_30 ?_
  refine r_isubN (pc := 31) C (by omega) dX5_hangIn_31 ?_
  refine r_iasI (pc := 32) (ws2 := [(ra, aI (cT 0) 104 (upd (cpF f f (8 + 4 * (ca + 1) + 0) (8 + 4 * ca + 0) (4 * ((u.cnt - 1) - ca))) 4 (nI (u.cnt - 1))))]) C 0 rfl (by omega) (by omega) rfl dX5_hangIn_32 ?_
  subst hQ
  exact e_vW C hr hk (Nat.le_refl _) (Nat.le_refl _) (upd (cpF f f (8 + 4 * (ca + 1) + 0) (8 + 4 * ca + 0) (4 * ((u.cnt - 1) - ca))) 4 (nI (u.cnt - 1))) rfl (rq_hang hR hca hCn) dX5_hangIn_33

abbrev rmX5_canDrop : Room := { frames := 2, cells := 0, slots := 0, locals := 44 }
theorem n_X5_canDrop : yX5_canDrop.cls ≠ "java/lang/invoke/MethodHandle" ∧ yX5_canDrop.cls ≠ "java/lang/invoke/VarHandle" ∧ (parseMethodDescriptor yX5_canDrop.desc).map (fun d => d.parameters.length) = some 2 := by decide +kernel
set_option maxHeartbeats 4000000 in
set_option maxRecDepth 100000 in
theorem k_X5_canDrop (l : Launch) (D : va_G) (cT : Nat → ClassId) (ra : Nat) (f : Nat → Int32) (y : Nat) (u : SS) (hR : RowQ f u) (hJ : JQ u) (hy : y < u.las * u.wid) : MR l D cT yX5_canDrop wsX5_canDrop rmX5_canDrop [.ref ra, .int (nI y)] [(ra, aI (cT 0) 104 f)] (fun r => CDq u y r) := by
  refine m_R [(0, .ref ra), (1, .int (nI y))] (by decide +kernel) rfl (Nat.le_of_ble_eq_true rfl) rfl ?_
  intro p e s m args below meth c C hr hk
  generalize hQ : MQ below (vp_Si _) args s 0 0 (fun _ => False) = Q
  have hB := bd_of hJ
  obtain ⟨hF, hW, hM, hL, hPa, hBr, hCn, hFL, hE⟩ := id hB
  refine r_aln (pc := 0) C 0 rfl dX5_canDrop_0 ?_
  refine r_iln (pc := 1) C 1 rfl dX5_canDrop_1 ?_
  refine c_RS (pc := 2) (As := [.ref ra, .int (nI y)]) (wc := [(ra, aI (cT 0) 104 f)])  C (k_X5_byOutput l D cT ra f y u (by first | assumption | omega) (by first | assumption | omega) (by first | assumption | omega)) (va_cwS 2 C.1.2.2.2.2 gX5_canDrop_X5_byOutput rfl rfl rfl n_X5_byOutput ⟨Nat.le_of_ble_eq_true rfl, Nat.le_of_ble_eq_true rfl⟩) [0] rfl rfl rfl (Nat.le_of_ble_eq_true rfl) ⟨Nat.zero_le _, Nat.zero_le _⟩ dX5_canDrop_2 (fun r2 h1 => ?_)
  rcases h1 with ⟨rfl, h1⟩ | ⟨h1k, rfl, h1l, h1a, h1b⟩
  · refine r_isn (pc := 5) C [1, 2, 0] [(0, .ref ra), (1, .int (nI y)), (2, .int (-1))] rfl (by decide) rfl dX5_canDrop_5 ?_
    refine r_iln (pc := 6) C 2 rfl dX5_canDrop_6 ?_
    refine r_ic (pc := 7) (v := (-1)) C rfl dX5_canDrop_7 ?_
    refine r_ceq (pc := 8) (tgt := 29) C dX5_canDrop_8 (by decide) (fun c8 => ?_) (fun c8 => absurd c8 (by exact fun h => h rfl))
    refine r_ic (pc := 29) (v := nI 0) C rfl dX5_canDrop_29 ?_
    subst hQ
    exact e_zR C hr hk rfl (Or.inr ⟨rfl, fun d hd hb => absurd hb (h1 d hd)⟩) dX5_canDrop_30
  · refine r_isn (pc := 5) C [1, 2, 0] [(0, .ref ra), (1, .int (nI y)), (2, .int (nI h1k))] rfl (by decide) rfl dX5_canDrop_5 ?_
    refine r_iln (pc := 6) C 2 rfl dX5_canDrop_6 ?_
    refine r_ic (pc := 7) (v := (-1)) C rfl dX5_canDrop_7 ?_
    refine r_ceq (pc := 8) (tgt := 29) C dX5_canDrop_8 (by decide) (fun c8 => absurd c8 (by exact nI_m1 (by omega))) (fun c8 => ?_)
    refine r_aln (pc := 11) C 0 rfl dX5_canDrop_11 ?_
    refine r_iln (pc := 12) C 2 rfl dX5_canDrop_12 ?_
    refine r_ic (pc := 13) (v := nI 1) C rfl dX5_canDrop_13 ?_
    refine c_RS (pc := 14) (As := [.int (nI h1k), .int (nI 1)]) (wc := [])  C (k_X5_callAt l D cT h1k 1) (va_cwS 2 C.1.2.2.2.2 gX5_canDrop_X5_callAt rfl rfl rfl n_X5_callAt ⟨Nat.le_of_ble_eq_true rfl, Nat.le_of_ble_eq_true rfl⟩) [] rfl rfl rfl (Nat.le_of_ble_eq_true rfl) ⟨Nat.zero_le _, Nat.zero_le _⟩ dX5_canDrop_14 (fun r14 h2 => ?_)
    subst h2
    refine r_ialI (pc := 17) C 0 rfl (by first | omega | (have := pcTo_le (u.outs _) 16; omega) | (have := hE _ (by assumption); omega)) (by decide) dX5_canDrop_17 ?_
    refine r_v (y := nI (u.outs h1k)) ((hR.2.1 h1k (by first | omega | (have := pcTo_le (u.outs _) 16; omega) | (have := hE _ (by assumption); omega))).2.1) ?_
    refine c_RS (pc := 18) (As := [.int (nI (u.outs h1k))]) (wc := [])  C (k_X5_bits l D cT (u.outs h1k) ((hE _ h1l).2.2.1)) (va_cwS 1 C.1.2.2.2.2 gX5_canDrop_X5_bits rfl rfl rfl n_X5_bits ⟨Nat.le_of_ble_eq_true rfl, Nat.le_of_ble_eq_true rfl⟩) [] rfl rfl rfl (Nat.le_of_ble_eq_true rfl) ⟨Nat.zero_le _, Nat.zero_le _⟩ dX5_canDrop_18 (fun r18 h3 => ?_)
    subst h3
    refine r_ic (pc := 21) (v := nI 1) C rfl dX5_canDrop_21 ?_
    refine r_cleN (pc := 22) (tgt := 29) C (Nat.lt_of_le_of_lt (pcTo_le _ 16) (by decide)) (by decide) dX5_canDrop_22 (by decide) (fun c22 => ?_) (fun c22 => ?_)
    · refine r_ic (pc := 29) (v := nI 0) C rfl dX5_canDrop_29 ?_
      subst hQ
      exact e_zR C hr hk rfl (Or.inr ⟨rfl, fun d hd hb => by rw [out_uniq hJ hd h1l hb h1a]; exact c22⟩) dX5_canDrop_30
    · refine r_ic (pc := 25) (v := nI 1) C rfl dX5_canDrop_25 ?_
      refine r_goto (pc := 26) (tgt := 30) C dX5_canDrop_26 (by decide) ?_
      subst hQ
      exact e_zR C hr hk rfl (Or.inl ⟨rfl, _, h1l, h1a, c22⟩) dX5_canDrop_30

abbrev rmX5_dropIn : Room := { frames := 2, cells := 0, slots := 0, locals := 44 }
theorem n_X5_dropIn : yX5_dropIn.cls ≠ "java/lang/invoke/MethodHandle" ∧ yX5_dropIn.cls ≠ "java/lang/invoke/VarHandle" ∧ (parseMethodDescriptor yX5_dropIn.desc).map (fun d => d.parameters.length) = some 2 := by decide +kernel
set_option maxHeartbeats 4000000 in
set_option maxRecDepth 100000 in
theorem k_X5_dropIn (l : Launch) (D : va_G) (cT : Nat → ClassId) (ra : Nat) (f : Nat → Int32) (y : Nat) (u : SS) (ca : Nat) (hR : RowQ f u) (hJ : JQ u) (hy : y < u.las * u.wid) (hca : ca < u.cnt) (hbit : (u.outs ca).testBit y = true) : MWi (S := (Nat → Int32)) l D cT yX5_dropIn wsX5_dropIn rmX5_dropIn [.ref ra, .int (nI y)] [(ra, aI (cT 0) 104 f)] (fun r w9 => r = nI (pcn (wo (u.outs ca) (2 ^ y))) ∧ RowQ w9 (outU u ca (wo (u.outs ca) (2 ^ y)))) (fun w9 => [(ra, aI (cT 0) 104 w9)]) 0 0 := by
  refine m_Wi [(0, .ref ra), (1, .int (nI y))] (by decide +kernel) rfl (Nat.le_of_ble_eq_true rfl) rfl ?_
  intro p e s m args below meth c A hAe C hA hr hk hnm_
  generalize hQ : MQ below (va_Qi _ _ A) args s 0 0 A = Q
  have hB := bd_of hJ
  obtain ⟨hF, hW, hM, hL, hPa, hBr, hCn, hFL, hE⟩ := id hB
  refine r_aln (pc := 0) C 0 rfl dX5_dropIn_0 ?_
  refine r_iln (pc := 1) C 1 rfl dX5_dropIn_1 ?_
  refine c_RS (pc := 2) (As := [.ref ra, .int (nI y)]) (wc := [(ra, aI (cT 0) 104 f)])  C (k_X5_byOutput l D cT ra f y u (by first | assumption | omega) (by first | assumption | omega) (by first | assumption | omega)) (va_cwS 2 C.1.2.2.2.2 gX5_dropIn_X5_byOutput rfl rfl rfl n_X5_byOutput ⟨Nat.le_of_ble_eq_true rfl, Nat.le_of_ble_eq_true rfl⟩) [0] rfl rfl rfl (Nat.le_of_ble_eq_true rfl) ⟨Nat.zero_le _, Nat.zero_le _⟩ dX5_dropIn_2 (fun r2 h1 => ?_)
  rcases h1 with ⟨rfl, h1⟩ | ⟨h1k, rfl, h1l, h1a, h1b⟩
  · exact absurd hbit (h1 _ hca)
  · have h1e := out_uniq hJ hca h1l hbit h1a
    subst h1e
    refine r_isn (pc := 5) C [1, 2, 0] [(0, .ref ra), (1, .int (nI y)), (2, .int (nI ca))] rfl (by decide) rfl dX5_dropIn_5 ?_
    refine r_aln (pc := 6) C 0 rfl dX5_dropIn_6 ?_
    refine r_iln (pc := 7) C 2 rfl dX5_dropIn_7 ?_
    refine r_ic (pc := 8) (v := nI 1) C rfl dX5_dropIn_8 ?_
    refine c_RS (pc := 9) (As := [.int (nI ca), .int (nI 1)]) (wc := [])  C (k_X5_callAt l D cT ca 1) (va_cwS 2 C.1.2.2.2.2 gX5_dropIn_X5_callAt rfl rfl rfl n_X5_callAt ⟨Nat.le_of_ble_eq_true rfl, Nat.le_of_ble_eq_true rfl⟩) [] rfl rfl rfl (Nat.le_of_ble_eq_true rfl) ⟨Nat.zero_le _, Nat.zero_le _⟩ dX5_dropIn_9 (fun r9 h2 => ?_)
    subst h2
    refine r_dup2 (pc := 12) C rfl rfl dX5_dropIn_12 ?_
    refine r_ialI (pc := 13) C 0 rfl (by omega) (by decide) dX5_dropIn_13 ?_
    refine r_v (y := nI (u.outs ca)) ((hR.2.1 ca (by omega)).2.1) ?_
    refine r_ic (pc := 14) (v := nI 1) C rfl dX5_dropIn_14 ?_
    refine r_iln (pc := 15) C 1 rfl dX5_dropIn_15 ?_
    refine r_ishlN (pc := 16) C (by omega) (by rw [Nat.one_mul]; exact p2_lt31 (by omega)) dX5_dropIn_16 ?_
    refine r_v (y := nI (2 ^ y)) (congrArg nI (Nat.one_mul _)) ?_
    refine r_ic (pc := 17) (v := (-1)) C rfl dX5_dropIn_17 ?_
    refine r_ixor (pc := 18) C dX5_dropIn_18 ?_
    refine r_iandWo (pc := 19) C dX5_dropIn_19 ?_
    refine r_iasI (pc := 20) (ws2 := [(ra, aI (cT 0) 104 (upd f (8 + 4 * ca + 1) (nI (wo (u.outs ca) (2 ^ y)))))]) C 0 rfl (by omega) (by decide) rfl dX5_dropIn_20 ?_
    refine r_aln (pc := 21) C 0 rfl dX5_dropIn_21 ?_
    refine r_iln (pc := 22) C 2 rfl dX5_dropIn_22 ?_
    refine r_ic (pc := 23) (v := nI 1) C rfl dX5_dropIn_23 ?_
    refine c_RS (pc := 24) (As := [.int (nI ca), .int (nI 1)]) (wc := [])  C (k_X5_callAt l D cT ca 1) (va_cwS 2 C.1.2.2.2.2 gX5_dropIn_X5_callAt rfl rfl rfl n_X5_callAt ⟨Nat.le_of_ble_eq_true rfl, Nat.le_of_ble_eq_true rfl⟩) [] rfl rfl rfl (Nat.le_of_ble_eq_true rfl) ⟨Nat.zero_le _, Nat.zero_le _⟩ dX5_dropIn_24 (fun r24 h3 => ?_)
    subst h3
    refine r_ialI (pc := 27) C 0 rfl (by omega) (by decide) dX5_dropIn_27 ?_
    refine r_v (y := nI (wo (u.outs ca) (2 ^ y))) pk_us ?_
    refine c_RS (pc := 28) (As := [.int (nI (wo (u.outs ca) (2 ^ y)))]) (wc := [])  C (k_X5_bits l D cT (wo (u.outs ca) (2 ^ y)) (wo_lt (hE _ hca).2.2.1)) (va_cwS 1 C.1.2.2.2.2 gX5_dropIn_X5_bits rfl rfl rfl n_X5_bits ⟨Nat.le_of_ble_eq_true rfl, Nat.le_of_ble_eq_true rfl⟩) [] rfl rfl rfl (Nat.le_of_ble_eq_true rfl) ⟨Nat.zero_le _, Nat.zero_le _⟩ dX5_dropIn_28 (fun r28 h4 => ?_)
    subst h4
    subst hQ
    exact e_iW C hr hk (Nat.le_refl _) (Nat.le_refl _) (upd f (8 + 4 * ca + 1) (nI (wo (u.outs ca) (2 ^ y)))) rfl (⟨rfl, rq_out hR hca hCn⟩) dX5_dropIn_31

abbrev rmX5_canBreak : Room := { frames := 1, cells := 0, slots := 0, locals := 21 }
theorem n_X5_canBreak : yX5_canBreak.cls ≠ "java/lang/invoke/MethodHandle" ∧ yX5_canBreak.cls ≠ "java/lang/invoke/VarHandle" ∧ (parseMethodDescriptor yX5_canBreak.desc).map (fun d => d.parameters.length) = some 2 := by decide +kernel
set_option maxHeartbeats 4000000 in
set_option maxRecDepth 100000 in
theorem k_X5_canBreak (l : Launch) (D : va_G) (cT : Nat → ClassId) (ra : Nat) (f : Nat → Int32) (mb : Nat) (u : SS) (hR : RowQ f u) (hJ : JQ u) (hmb : mb < 4) : MR l D cT yX5_canBreak wsX5_canBreak rmX5_canBreak [.ref ra, .int (nI mb)] [(ra, aI (cT 0) 104 f)] (fun r => (r = nI 1 ∧ ∀ k, k < u.cnt → ¬ u.brd k = mb) ∨ (r = nI 0 ∧ ∃ k, k < u.cnt ∧ u.brd k = mb)) := by
  refine m_R [(0, .ref ra), (1, .int (nI mb))] (by decide +kernel) rfl (Nat.le_of_ble_eq_true rfl) rfl ?_
  intro p e s m args below meth c C hr hk
  generalize hQ : MQ below (vp_Si _) args s 0 0 (fun _ => False) = Q
  have hB := bd_of hJ
  obtain ⟨hF, hW, hM, hL, hPa, hBr, hCn, hFL, hE⟩ := id hB
  have hBo := fun k (h : k < u.cnt) => (hJ.1.2.2.2.2.2.2.2.1 k (by omega)).2.2
  refine r_ic (pc := 0) (v := nI 1) C rfl dX5_canBreak_0 ?_
  refine r_isn (pc := 1) C [1, 2, 0] [(0, .ref ra), (1, .int (nI mb)), (2, .int (nI 1))] rfl (by decide) rfl dX5_canBreak_1 ?_
  refine r_ic (pc := 2) (v := nI 0) C rfl dX5_canBreak_2 ?_
  refine r_isn (pc := 3) C [1, 2, 3, 0] [(0, .ref ra), (1, .int (nI mb)), (2, .int (nI 1)), (3, .int (nI 0))] rfl (by decide) rfl dX5_canBreak_3 ?_
  have L4 : ∀ (n4 : Nat) (i : Nat) (iv : Nat) (hi : i ≤ u.cnt) (hiv : iv < 2) (hq : (iv = 1 ∧ ∀ k, k < i → ¬ u.brd k = mb) ∨ (iv = 0 ∧ ∃ k, k < i ∧ u.brd k = mb)), u.cnt - i < n4 → RW p l e (headSpec wsX5_canBreak rmX5_canBreak).room s m args below meth c (IR s D) 4 0 0 Q [(ra, aI (cT 0) 104 f)] 4 [(0, .ref ra), (1, .int (nI mb)), (2, .int (nI iv)), (3, .int (nI i))] [] := by
    intro n4
    induction n4 with
    | zero => intro i iv hi hiv hq hn4; exact absurd hn4 (Nat.not_lt_zero _)
    | succ n4 ih4 =>
      intro i iv hi hiv hq hn4
      refine r_iln (pc := 4) C 3 rfl dX5_canBreak_4 ?_
      refine r_aln (pc := 5) C 0 rfl dX5_canBreak_5 ?_
      refine r_ic (pc := 6) (v := nI 4) C rfl dX5_canBreak_6 ?_
      refine r_ialI (pc := 7) C 0 rfl (by first | omega | (have := hBo i (by omega); omega)) (by decide) dX5_canBreak_7 ?_
      refine r_v (y := nI u.cnt) hR.1.2.2.2.2.1 ?_
      refine r_cgeN (pc := 8) (tgt := 38) C (by first | omega | (have := hBo i (by omega); omega)) (by first | omega | (have := hBo i (by omega); omega)) dX5_canBreak_8 (by decide) (fun c8 => ?_) (fun c8 => ?_)
      · refine r_iln (pc := 38) C 2 rfl dX5_canBreak_38 ?_
        subst hQ
        exact e_zR C hr hk (nar_b (by first | omega | (have := hBo i (by omega); omega))) (by rcases hq with ⟨e, h1⟩ | ⟨e, k, h1, h2⟩; exact Or.inl ⟨by rw [e], fun j hj => h1 j (by omega)⟩; exact Or.inr ⟨by rw [e], k, by omega, h2⟩) dX5_canBreak_39
      · refine r_iln (pc := 11) C 2 rfl dX5_canBreak_11 ?_
        refine r_zeqN (pc := 12) (tgt := 30) C (by first | omega | (have := hBo i (by omega); omega)) dX5_canBreak_12 (by decide) (fun c12 => ?_) (fun c12 => ?_)
        · refine r_ic (pc := 30) (v := nI 0) C rfl dX5_canBreak_30 ?_
          refine r_isn (pc := 31) C [1, 2, 0, 3] [(0, .ref ra), (1, .int (nI mb)), (2, .int (nI 0)), (3, .int (nI i))] rfl (by decide) rfl dX5_canBreak_31 ?_
          refine r_incN (pc := 32) C 3 [1, 2, 3, 0] [(0, .ref ra), (1, .int (nI mb)), (2, .int (nI 0)), (3, .int (nI (i + 1)))] rfl (by decide) rfl dX5_canBreak_32 ?_
          refine r_goto (pc := 35) (tgt := 4) C dX5_canBreak_35 (by decide) ?_
          exact ih4 (i + 1) 0 (by omega) (by omega) (Or.inr ⟨rfl, by obtain ⟨k, h1, h2⟩ := (hq.resolve_left (fun q => by omega)).2; exact ⟨k, by omega, h2⟩⟩) (by omega)
        · refine r_aln (pc := 15) C 0 rfl dX5_canBreak_15 ?_
          refine r_iln (pc := 16) C 3 rfl dX5_canBreak_16 ?_
          refine r_ic (pc := 17) (v := nI 2) C rfl dX5_canBreak_17 ?_
          refine c_RS (pc := 18) (As := [.int (nI i), .int (nI 2)]) (wc := [])  C (k_X5_callAt l D cT i 2) (va_cwS 2 C.1.2.2.2.2 gX5_canBreak_X5_callAt rfl rfl rfl n_X5_callAt ⟨Nat.le_of_ble_eq_true rfl, Nat.le_of_ble_eq_true rfl⟩) [] rfl rfl rfl (Nat.le_of_ble_eq_true rfl) ⟨Nat.zero_le _, Nat.zero_le _⟩ dX5_canBreak_18 (fun r18 h1 => ?_)
          subst h1
          refine r_ialI (pc := 21) C 0 rfl (by first | omega | (have := hBo i (by omega); omega)) (by decide) dX5_canBreak_21 ?_
          refine r_v (y := nI (u.brd i)) ((hR.2.1 i (by first | omega | (have := hBo i (by omega); omega))).2.2.1) ?_
          refine r_iln (pc := 22) C 1 rfl dX5_canBreak_22 ?_
          refine r_ceqN (pc := 23) (tgt := 30) C (by first | omega | (have := hBo i (by omega); omega)) (by first | omega | (have := hBo i (by omega); omega)) dX5_canBreak_23 (by decide) (fun c23 => ?_) (fun c23 => ?_)
          · refine r_ic (pc := 30) (v := nI 0) C rfl dX5_canBreak_30 ?_
            refine r_isn (pc := 31) C [1, 2, 0, 3] [(0, .ref ra), (1, .int (nI mb)), (2, .int (nI 0)), (3, .int (nI i))] rfl (by decide) rfl dX5_canBreak_31 ?_
            refine r_incN (pc := 32) C 3 [1, 2, 3, 0] [(0, .ref ra), (1, .int (nI mb)), (2, .int (nI 0)), (3, .int (nI (i + 1)))] rfl (by decide) rfl dX5_canBreak_32 ?_
            refine r_goto (pc := 35) (tgt := 4) C dX5_canBreak_35 (by decide) ?_
            exact ih4 (i + 1) 0 (by omega) (by omega) (Or.inr ⟨rfl, i, Nat.lt_succ_self _, c23⟩) (by omega)
          · refine r_ic (pc := 26) (v := nI 1) C rfl dX5_canBreak_26 ?_
            refine r_goto (pc := 27) (tgt := 31) C dX5_canBreak_27 (by decide) ?_
            refine r_isn (pc := 31) C [1, 2, 0, 3] [(0, .ref ra), (1, .int (nI mb)), (2, .int (nI 1)), (3, .int (nI i))] rfl (by decide) rfl dX5_canBreak_31 ?_
            refine r_incN (pc := 32) C 3 [1, 2, 3, 0] [(0, .ref ra), (1, .int (nI mb)), (2, .int (nI 1)), (3, .int (nI (i + 1)))] rfl (by decide) rfl dX5_canBreak_32 ?_
            refine r_goto (pc := 35) (tgt := 4) C dX5_canBreak_35 (by decide) ?_
            exact ih4 (i + 1) 1 (by omega) (by omega) (Or.inl ⟨rfl, fun k hk => by rcases Nat.lt_succ_iff_lt_or_eq.mp hk with g | g; exact (hq.resolve_right (fun q => by omega)).2 k g; subst g; exact c23⟩) (by omega)
  exact L4 _ 0 1 (Nat.zero_le _) (by decide) (Or.inl ⟨rfl, fun k hk => absurd hk (Nat.not_lt_zero _)⟩) (Nat.lt_succ_self _)

abbrev rmX5_breakIn : Room := { frames := 0, cells := 0, slots := 0, locals := 0 }
theorem n_X5_breakIn : yX5_breakIn.cls ≠ "java/lang/invoke/MethodHandle" ∧ yX5_breakIn.cls ≠ "java/lang/invoke/VarHandle" ∧ (parseMethodDescriptor yX5_breakIn.desc).map (fun d => d.parameters.length) = some 3 := by decide +kernel
set_option maxHeartbeats 4000000 in
set_option maxRecDepth 100000 in
theorem k_X5_breakIn (l : Launch) (D : va_G) (cT : Nat → ClassId) (ra : Nat) (f : Nat → Int32) (mb is : Nat) (u : SS) (hR : RowQ f u) (hB : BDq u) (hmb : mb < 4) (his : is < 2) : MWv (S := (Nat → Int32)) l D cT yX5_breakIn wsX5_breakIn rmX5_breakIn [.ref ra, .int (nI mb), .int (nI is)] [(ra, aI (cT 0) 104 f)] (fun w9 => RowQ w9 (broU u (brkV u.bro mb is))) (fun w9 => [(ra, aI (cT 0) 104 w9)]) 0 0 := by
  refine m_Wv [(0, .ref ra), (1, .int (nI mb)), (2, .int (nI is))] (by decide +kernel) rfl (Nat.le_of_ble_eq_true rfl) rfl ?_
  intro p e s m args below meth c A hAe C hA hr hk hnm_
  generalize hQ : MQ below (va_Qv _ _ A) args s 0 0 A = Q
  obtain ⟨hF, hW, hM, hL, hPa, hBr, hCn, hFL, hE⟩ := id hB
  refine r_aln (pc := 0) C 0 rfl dX5_breakIn_0 ?_
  refine r_bi (pc := 1) (v := nI 7) C rfl dX5_breakIn_1 ?_
  refine r_iln (pc := 3) C 2 rfl dX5_breakIn_3 ?_
  refine r_zeqN (pc := 4) (tgt := 18) C (by omega) dX5_breakIn_4 (by decide) (fun c4 => ?_) (fun c4 => ?_)
  · refine r_aln (pc := 18) C 0 rfl dX5_breakIn_18 ?_
    refine r_bi (pc := 19) (v := nI 7) C rfl dX5_breakIn_19 ?_
    refine r_ialI (pc := 21) C 0 rfl (by omega) (by decide) dX5_breakIn_21 ?_
    refine r_v (y := nI u.bro) hR.1.2.2.2.2.2.2.2 ?_
    refine r_ic (pc := 22) (v := nI 1) C rfl dX5_breakIn_22 ?_
    refine r_iln (pc := 23) C 1 rfl dX5_breakIn_23 ?_
    refine r_ishlN (pc := 24) C (by omega) (by rw [Nat.one_mul]; exact p2_lt31 (by omega)) dX5_breakIn_24 ?_
    refine r_v (y := nI (2 ^ mb)) (congrArg nI (Nat.one_mul _)) ?_
    refine r_ic (pc := 25) (v := (-1)) C rfl dX5_breakIn_25 ?_
    refine r_ixor (pc := 26) C dX5_breakIn_26 ?_
    refine r_iandWo (pc := 27) C dX5_breakIn_27 ?_
    refine r_iasI (pc := 28) (ws2 := [(ra, aI (cT 0) 104 (upd f 7 (nI (wo u.bro (2 ^ mb)))))]) C 0 rfl (by omega) (by decide) rfl dX5_breakIn_28 ?_
    subst hQ
    exact e_vW C hr hk (Nat.le_refl _) (Nat.le_refl _) (upd f 7 (nI (wo u.bro (2 ^ mb)))) rfl (by rw [show brkV u.bro mb is = wo u.bro (2 ^ mb) from if_pos c4]; exact rq_bro hR) dX5_breakIn_29
  · refine r_aln (pc := 7) C 0 rfl dX5_breakIn_7 ?_
    refine r_bi (pc := 8) (v := nI 7) C rfl dX5_breakIn_8 ?_
    refine r_ialI (pc := 10) C 0 rfl (by omega) (by decide) dX5_breakIn_10 ?_
    refine r_v (y := nI u.bro) hR.1.2.2.2.2.2.2.2 ?_
    refine r_ic (pc := 11) (v := nI 1) C rfl dX5_breakIn_11 ?_
    refine r_iln (pc := 12) C 1 rfl dX5_breakIn_12 ?_
    refine r_ishlN (pc := 13) C (by omega) (by rw [Nat.one_mul]; exact p2_lt31 (by omega)) dX5_breakIn_13 ?_
    refine r_v (y := nI (2 ^ mb)) (congrArg nI (Nat.one_mul _)) ?_
    refine r_iorN (pc := 14) C dX5_breakIn_14 ?_
    refine r_goto (pc := 15) (tgt := 28) C dX5_breakIn_15 (by decide) ?_
    refine r_iasI (pc := 28) (ws2 := [(ra, aI (cT 0) 104 (upd f 7 (nI (u.bro ||| (2 ^ mb)))))]) C 0 rfl (by omega) (by decide) rfl dX5_breakIn_28 ?_
    subst hQ
    exact e_vW C hr hk (Nat.le_refl _) (Nat.le_refl _) (upd f 7 (nI (u.bro ||| (2 ^ mb)))) rfl (by rw [show brkV u.bro mb is = u.bro ||| 2 ^ mb from if_neg (by omega)]; exact rq_bro hR) dX5_breakIn_29

