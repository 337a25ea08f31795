/-! endings, outputs taken, boards broken: one thing each; scripts, simulations, texts -/
theorem shf_eqv {f g : Nat → Nat} {ca n : Nat} (h : ∀ c, c < n + 1 → f c = g c) {c : Nat} (hc : c < n) : shf f ca n c = shf g ca n c := by
  unfold shf
  by_cases q : ca ≤ c ∧ c < n
  · rw [if_pos q, if_pos q]; exact h _ (by omega)
  · rw [if_neg q, if_neg q]; exact h _ (by omega)
theorem hangU_eqv {u w : SS} (e : Eqv u w) {ca : Nat} (hc : ca < u.cnt) : Eqv (hangU u ca) (hangU w ca) := by
  obtain ⟨⟨e0, e1, e2, e3, e4, e5, e6, e7⟩, h, h3⟩ := e
  refine ⟨⟨e0, e1, e2, e3, congrArg (· - 1) e4, e5, e6, e7⟩, fun c hc2 => ?_, fun z hz => h3 z hz⟩
  have hc2 : c < u.cnt - 1 := hc2
  show shf u.inp ca (u.cnt - 1) c = shf w.inp ca (w.cnt - 1) c ∧ shf u.outs ca (u.cnt - 1) c = shf w.outs ca (w.cnt - 1) c ∧ shf u.brd ca (u.cnt - 1) c = shf w.brd ca (w.cnt - 1) c ∧ shf u.mvd ca (u.cnt - 1) c = shf w.mvd ca (w.cnt - 1) c
  rw [← e4]
  exact ⟨shf_eqv (fun c hc => (h c (by omega)).1) hc2, shf_eqv (fun c hc => (h c (by omega)).2.1) hc2, shf_eqv (fun c hc => (h c (by omega)).2.2.1) hc2, shf_eqv (fun c hc => (h c (by omega)).2.2.2) hc2⟩
theorem hgf_of {u v : SS} {x r : Int32} (hJ : JQ u) (h : HGs u x r v) : (r = -2 ∧ ¬ CIn u.cnt x ∧ Eqv v u) ∨ ∃ ca, x = nI ca ∧ ca < u.cnt ∧ r = nI (u.cnt - 1) ∧ Eqv v (hangU u ca) := by
  have h16 := (bd_of hJ).2.2.2.2.2.2.1
  obtain ⟨h, a1, a2, a3, e1, e2, e3, e4, e5, e6⟩ := h
  rcases h with ⟨e, h1, b1, b2, b3, b4, b5⟩ | ⟨ca, ex, hc, er, b1, b2, b3, b4, b5⟩
  · exact Or.inl ⟨e, h1, same_eqv ⟨a1, b1, b2, b3, b4, b5, a2, a3⟩ ⟨e1, e2, e3, e4, e5, e6⟩⟩
  · refine Or.inr ⟨ca, ex, hc, er, ⟨e1, e2, e3, e4, b1, e5, a1, e6⟩, fun c hc2 => ?_, fun z _ => ⟨by rw [a3]; rfl, by rw [a2]; rfl⟩⟩
    rw [b1] at hc2
    exact ⟨b2 c (by omega), b3 c (by omega), b4 c (by omega), b5 c (by omega)⟩
theorem hgs_det {u w v1 v2 : SS} {x r1 r2 : Int32} (hJ : JQ u) (hJw : JQ w) (e : Eqv u w) (h1 : HGs u x r1 v1) (h2 : HGs w x r2 v2) : r1 = r2 ∧ Eqv v1 v2 := by
  have h16 := (bd_of hJ).2.2.2.2.2.2.1
  have ec : u.cnt = w.cnt := e.1.2.2.2.2.1
  rcases hgf_of hJ h1 with ⟨a1, a2, a3⟩ | ⟨ca, a1, a2, a3, a4⟩
  · rcases hgf_of hJw h2 with ⟨b1, b2, b3⟩ | ⟨cb, b1, b2, b3, b4⟩
    · exact ⟨a1.trans b1.symm, eqv_trans a3 (eqv_trans e (eqv_symm b3))⟩
    · exact absurd ⟨cb, b1, by omega⟩ a2
  · rcases hgf_of hJw h2 with ⟨b1, b2, b3⟩ | ⟨cb, b1, b2, b3, b4⟩
    · exact absurd ⟨ca, a1, by omega⟩ b2
    · have q := nI_inj4 (by omega) (by omega) (a1.symm.trans b1)
      subst q
      exact ⟨by rw [a3, b3, ec], eqv_trans a4 (eqv_trans (hangU_eqv e a2) (eqv_symm b4))⟩
theorem outU_eqv {u w : SS} (e : Eqv u w) {ca o : Nat} : Eqv (outU u ca o) (outU w ca o) := by
  obtain ⟨⟨e0, e1, e2, e3, e4, e5, e6, e7⟩, h, h3⟩ := e
  refine ⟨⟨e0, e1, e2, e3, e4, e5, e6, e7⟩, fun c hc => ⟨(h c hc).1, ?_, (h c hc).2.2.1, (h c hc).2.2.2⟩, fun z hz => h3 z hz⟩
  show va_up u.outs ca o c = va_up w.outs ca o c
  by_cases g : c = ca
  · rw [g, va_up_self, va_up_self]
  · rw [va_up_ne _ _ g, va_up_ne _ _ g]; exact (h c hc).2.1
def DOK (u : SS) (jy ca : Nat) : Prop := jy < u.las * u.wid ∧ ca < u.cnt ∧ (u.outs ca).testBit jy = true ∧ ¬ u.outs ca = 2 ^ jy
def DRf (u : SS) (y r : Int32) (v : SS) : Prop := (r = -2 ∧ ¬ CIn (u.las * u.wid) y ∧ Eqv v u) ∨ (r = -3 ∧ (∃ jy, y = nI jy ∧ jy < u.las * u.wid ∧ ∀ ca, ¬ DOK u jy ca) ∧ Eqv v u) ∨ ∃ jy ca, y = nI jy ∧ DOK u jy ca ∧ r = nI (pcn (wo (u.outs ca) (2 ^ jy))) ∧ Eqv v (outU u ca (wo (u.outs ca) (2 ^ jy)))
theorem drf_of {u v : SS} {y r : Int32} (hJ : JQ u) (h : DRs u y r v) : DRf u y r v := by
  obtain ⟨h, ⟨a1, a2, a3, a4, a5, a6, a7⟩, e1, e2, e3, e4, e5, e6⟩ := h
  rcases h with ⟨e, h1, h2⟩ | ⟨e, ⟨jy, ey, hy, h1⟩, h2⟩ | ⟨jy, ca, ey, hy, hc, hb, hne, er, h2⟩
  · exact Or.inl ⟨e, h1, same_eqv ⟨a1, a2, a3, h2, a4, a5, a6, a7⟩ ⟨e1, e2, e3, e4, e5, e6⟩⟩
  · refine Or.inr (Or.inl ⟨e, ⟨jy, ey, hy, fun ca hO => ?_⟩, same_eqv ⟨a1, a2, a3, h2, a4, a5, a6, a7⟩ ⟨e1, e2, e3, e4, e5, e6⟩⟩)
    obtain ⟨-, o1, o2, o3⟩ := hO
    rcases h1 with h1 | ⟨cb, q1, q2, q3⟩
    · exact h1 ca o1 o2
    · have := out_uniq hJ o1 q1 o2 q2
      subst this
      exact o3 q3
  · refine Or.inr (Or.inr ⟨jy, ca, ey, ⟨hy, hc, hb, hne⟩, er, ⟨e1, e2, e3, e4, a2, e5, a1, e6⟩, fun c _ => ⟨by rw [a3]; rfl, by rw [h2]; rfl, by rw [a4]; rfl, by rw [a5]; rfl⟩, fun z _ => ⟨by rw [a7]; rfl, by rw [a6]; rfl⟩⟩)
theorem dok_eqv {u w : SS} (e : Eqv u w) {jy ca : Nat} (h : DOK w jy ca) : DOK u jy ca := by
  obtain ⟨h1, h2, h3, h4⟩ := h
  have q : ca < u.cnt := by rw [e.1.2.2.2.2.1]; exact h2
  refine ⟨by rw [e.1.2.2.2.1, e.1.2.1]; exact h1, q, ?_, ?_⟩
  · rw [(e.2.1 ca q).2.1]; exact h3
  · rw [(e.2.1 ca q).2.1]; exact h4
theorem drs_det {u w v1 v2 : SS} {y r1 r2 : Int32} (hJ : JQ u) (hJw : JQ w) (e : Eqv u w) (h1 : DRs u y r1 v1) (h2 : DRs w y r2 v2) : r1 = r2 ∧ Eqv v1 v2 := by
  have hL : u.las * u.wid = w.las * w.wid := by rw [e.1.2.2.2.1, e.1.2.1]
  have hL16 := (bd_of hJ).2.2.2.2.2.2.2.1.2
  rcases drf_of hJ h1 with ⟨a1, a2, a3⟩ | ⟨a1, ⟨jy, a2, a3, a4⟩, a5⟩ | ⟨jy, ca, a1, a2, a3, a4⟩
  · rcases drf_of hJw h2 with ⟨b1, b2, b3⟩ | ⟨b1, ⟨jz, b2, b3, b4⟩, b5⟩ | ⟨jz, cb, b1, b2, b3, b4⟩
    · exact ⟨a1.trans b1.symm, eqv_trans a3 (eqv_trans e (eqv_symm b3))⟩
    · exact absurd ⟨jz, b2, by omega⟩ a2
    · exact absurd ⟨jz, b1, by have := b2.1; omega⟩ a2
  · rcases drf_of hJw h2 with ⟨b1, b2, b3⟩ | ⟨b1, ⟨jz, b2, b3, b4⟩, b5⟩ | ⟨jz, cb, b1, b2, b3, b4⟩
    · exact absurd ⟨jy, a2, by omega⟩ b2
    · exact ⟨a1.trans b1.symm, eqv_trans a5 (eqv_trans e (eqv_symm b5))⟩
    · have q := nI_inj4 (by omega) (by have := b2.1; omega) (a2.symm.trans b1)
      subst q
      exact absurd (dok_eqv e b2) (a4 cb)
  · rcases drf_of hJw h2 with ⟨b1, b2, b3⟩ | ⟨b1, ⟨jz, b2, b3, b4⟩, b5⟩ | ⟨jz, cb, b1, b2, b3, b4⟩
    · exact absurd ⟨jy, a1, by have := a2.1; omega⟩ b2
    · have q := nI_inj4 (by have := a2.1; omega) (by omega) (a1.symm.trans b2)
      subst q
      exact absurd (dok_eqv (eqv_symm e) a2) (b4 ca)
    · have q := nI_inj4 (by have := a2.1; omega) (by have := b2.1; omega) (a1.symm.trans b1)
      subst q
      have b2' := dok_eqv e b2
      have q := out_uniq hJ a2.2.1 b2'.2.1 a2.2.2.1 b2'.2.2.1
      subst q
      have eo : u.outs ca = w.outs ca := (e.2.1 ca a2.2.1).2.1
      exact ⟨by rw [a3, b3, eo], eqv_trans a4 (by rw [eo]; exact eqv_trans (outU_eqv e) (eqv_symm b4))⟩
theorem broU_eqv {u w : SS} (e : Eqv u w) {b : Nat} : Eqv (broU u b) (broU w b) := by
  obtain ⟨⟨e0, e1, e2, e3, e4, e5, e6, e7⟩, h, h3⟩ := e
  exact ⟨⟨e0, e1, e2, e3, e4, e5, e6, rfl⟩, h, h3⟩
theorem patU_eqv {u w : SS} (e : Eqv u w) {p : Nat} : Eqv (patU u p) (patU w p) := by
  obtain ⟨⟨e0, e1, e2, e3, e4, e5, e6, e7⟩, h, h3⟩ := e
  exact ⟨⟨e0, e1, e2, e3, e4, rfl, e6, e7⟩, h, h3⟩
def BKf (u : SS) (x : Int32) (is : Nat) (r : Int32) (v : SS) : Prop := (r = -2 ∧ ¬ CIn u.mid x ∧ Eqv v u) ∨ (r = -3 ∧ (∃ mb, x = nI mb ∧ mb < u.mid ∧ 0 < is ∧ ∃ k, k < u.cnt ∧ u.brd k = mb) ∧ Eqv v u) ∨ ∃ mb, x = nI mb ∧ mb < u.mid ∧ (0 < is → ∀ k, k < u.cnt → ¬ u.brd k = mb) ∧ r = nI (pcn (wo (2 ^ u.mid - 1) (brkV u.bro mb is))) ∧ Eqv v (broU u (brkV u.bro mb is))
theorem bkf_of {u v : SS} {x r : Int32} {is : Nat} (h : BKs u x is r v) : BKf u x is r v := by
  obtain ⟨h, a, e1, e2, e3, e4, e5⟩ := h
  rcases h with ⟨e, h1, h2⟩ | ⟨e, h1, h2⟩ | ⟨mb, ex, hm, h1, h2, er⟩
  · exact Or.inl ⟨e, h1, same_eqv a ⟨e1, e2, e3, e4, e5, h2⟩⟩
  · exact Or.inr (Or.inl ⟨e, h1, same_eqv a ⟨e1, e2, e3, e4, e5, h2⟩⟩)
  · obtain ⟨a1, a2, a3, a4, a5, a6, a7, a8⟩ := a
    refine Or.inr (Or.inr ⟨mb, ex, hm, h1, by rw [er, h2]; rfl, ⟨e1, e2, e3, e4, a2, e5, a1, by rw [h2]; rfl⟩, fun c _ => ⟨by rw [a3]; rfl, by rw [a4]; rfl, by rw [a5]; rfl, by rw [a6]; rfl⟩, fun z _ => ⟨by rw [a8]; rfl, by rw [a7]; rfl⟩⟩)
theorem bks_det {u w v1 v2 : SS} {x r1 r2 : Int32} {is : Nat} (hJ : JQ u) (e : Eqv u w) (h1 : BKs u x is r1 v1) (h2 : BKs w x is r2 v2) : r1 = r2 ∧ Eqv v1 v2 := by
  have hm : u.mid = w.mid := e.1.2.2.1
  have h4 := (bd_of hJ).2.2.1.2
  have hk : ∀ {m : Nat}, (∃ k, k < w.cnt ∧ w.brd k = m) → ∃ k, k < u.cnt ∧ u.brd k = m := fun ⟨k, q1, q2⟩ => by
    have q : k < u.cnt := by rw [e.1.2.2.2.2.1]; exact q1
    exact ⟨k, q, by rw [(e.2.1 k q).2.2.1]; exact q2⟩
  have hk2 : ∀ {m : Nat}, (∃ k, k < u.cnt ∧ u.brd k = m) → ∃ k, k < w.cnt ∧ w.brd k = m := fun ⟨k, q1, q2⟩ => ⟨k, by rw [← e.1.2.2.2.2.1]; exact q1, by rw [← (e.2.1 k q1).2.2.1]; exact q2⟩
  rcases bkf_of h1 with ⟨a1, a2, a3⟩ | ⟨a1, ⟨mb, a2, a3, a4, a5⟩, a6⟩ | ⟨mb, a1, a2, a3, a4, a5⟩
  · rcases bkf_of h2 with ⟨b1, b2, b3⟩ | ⟨b1, ⟨mc, b2, b3, b4, b5⟩, b6⟩ | ⟨mc, b1, b2, b3, b4, b5⟩
    · exact ⟨a1.trans b1.symm, eqv_trans a3 (eqv_trans e (eqv_symm b3))⟩
    · exact absurd ⟨mc, b2, by omega⟩ a2
    · exact absurd ⟨mc, b1, by omega⟩ a2
  · rcases bkf_of h2 with ⟨b1, b2, b3⟩ | ⟨b1, ⟨mc, b2, b3, b4, b5⟩, b6⟩ | ⟨mc, b1, b2, b3, b4, b5⟩
    · exact absurd ⟨mb, a2, by omega⟩ b2
    · exact ⟨a1.trans b1.symm, eqv_trans a6 (eqv_trans e (eqv_symm b6))⟩
    · have q := nI_inj4 (by omega) (by omega) (a2.symm.trans b1)
      subst q
      obtain ⟨k, q1, q2⟩ := hk2 a5
      exact absurd q2 (b3 a4 k q1)
  · rcases bkf_of h2 with ⟨b1, b2, b3⟩ | ⟨b1, ⟨mc, b2, b3, b4, b5⟩, b6⟩ | ⟨mc, b1, b2, b3, b4, b5⟩
    · exact absurd ⟨mb, a1, by omega⟩ b2
    · have q := nI_inj4 (by omega) (by omega) (a1.symm.trans b2)
      subst q
      obtain ⟨k, q1, q2⟩ := hk b5
      exact absurd q2 (a3 b4 k q1)
    · have q := nI_inj4 (by omega) (by omega) (a1.symm.trans b1)
      subst q
      have eb : u.bro = w.bro := e.1.2.2.2.2.2.2.2
      exact ⟨by rw [a4, b4, eb, hm], eqv_trans a5 (by rw [eb]; exact eqv_trans (broU_eqv e) (eqv_symm b5))⟩
/-- the calls that moved -/
theorem acs_mov {u v : SS} {x y r : Int32} (hJ : JQ u) (h : ACs u x y r v) : nI v.mov = nI u.mov + mx0 r := by
  have h16 := (bd_of hJ).2.2.2.2.2.2.1
  have z : nI u.mov = nI u.mov + mx0 (-2) ∧ nI u.mov = nI u.mov + mx0 (-3) := ⟨(Int32.add_zero _).symm, (Int32.add_zero _).symm⟩
  rcases acf_of hJ h with ⟨a1, -, a3⟩ | ⟨a1, -, a3⟩ | ⟨jx, jy, k, π, -, -, a3, a4, a5⟩
  · rw [a1, show v.mov = u.mov from a3.1.2.2.2.2.2.2.1]; exact z.1
  · rw [a1, show v.mov = u.mov from a3.1.2.2.2.2.2.2.1]; exact z.2
  · rw [show v.mov = u.mov + sumTo (fun c => mvn (u.brd c) (π c)) u.cnt from a5.1.2.2.2.2.2.2.1, a3]
    have hk := a4.2.2.2.2.2.2.1
    have hV := a4.2.2.2.2.2.1
    have e1 : Mvs (u.cnt + 1) (bfN u.cnt u.brd) π = sumTo (fun c => mvn (u.brd c) (π c)) u.cnt := by
      show sumTo (fun c => mv (bfN u.cnt u.brd c) (π c)) u.cnt + mv (bfN u.cnt u.brd u.cnt) (π u.cnt) = _
      have e0 : mv (bfN u.cnt u.brd u.cnt) (π u.cnt) = 0 := mv_0 (Or.inl (if_neg (Nat.lt_irrefl _)))
      rw [e0, sumTo_congr (g := fun c => mvn (u.brd c) (π c)) (fun c hc => by
        show mv (if c < u.cnt then nI (u.brd c) else -1) (π c) = _
        rw [if_pos hc]
        have := (hV c (by omega)).1
        have := hJ.1.2.2.2.2.2.2.2.1 c (by omega)
        exact mv_mvn (by omega) (by omega))]; rfl
    have h31 := hJ.1.2.2.2.2.1
    have hkp := a4.2.2.2.2.1
    have e2 : mx0 (nI k) = nI k := by
      unfold mx0
      rcases Nat.eq_zero_or_pos k with q | q
      · subst q; rw [if_neg (by decide)]
      · rw [if_pos ((nI_ltI (by decide) (by omega)).mpr q)]
    rw [e2, ← hk, e1]
    exact Int32.ofNat_add _ _
theorem aos_mov {u v : SS} {x y r : Int32} (hJ : JQ u) (h : AOs u x y r v) : nI v.mov = nI u.mov + mx0 r := by
  have h16 := (bd_of hJ).2.2.2.2.2.2.1
  have z : nI u.mov = nI u.mov + mx0 (-2) ∧ nI u.mov = nI u.mov + mx0 (-3) := ⟨(Int32.add_zero _).symm, (Int32.add_zero _).symm⟩
  rcases aof_of hJ h with ⟨a1, -, a3⟩ | ⟨a1, -, a3⟩ | ⟨ca, jy, k, π, -, -, a3, a4, a5⟩
  · rw [a1, show v.mov = u.mov from a3.1.2.2.2.2.2.2.1]; exact z.1
  · rw [a1, show v.mov = u.mov from a3.1.2.2.2.2.2.2.1]; exact z.2
  · rw [show v.mov = u.mov + sumTo (fun c => mvn (u.brd c) (π c)) u.cnt from a5.1.2.2.2.2.2.2.1, a3]
    have hk := a4.2.2.2.2.2.2.1
    have hV := a4.2.2.2.2.2.1
    have e1 : Mvs u.cnt (fun c => nI (u.brd c)) π = sumTo (fun c => mvn (u.brd c) (π c)) u.cnt := sumTo_congr (fun c hc => by
        have := (hV c (by omega)).1
        have := hJ.1.2.2.2.2.2.2.2.1 c (by omega)
        exact mv_mvn (by omega) (by omega))
    have h31 := hJ.1.2.2.2.2.1
    have hkp := a4.2.2.2.2.1
    have e2 : mx0 (nI k) = nI k := by
      unfold mx0
      rcases Nat.eq_zero_or_pos k with q | q
      · subst q; rw [if_neg (by decide)]
      · rw [if_pos ((nI_ltI (by decide) (by omega)).mpr q)]
    rw [e2, ← hk, e1]
    exact Int32.ofNat_add _ _
/-- one group of a script -/
def C7 (u : SS) (k hi lo : Nat) : Prop := (k = 7 ∧ hi < u.cnt ∧ u.brd hi = lo) ∨ (k = 8 ∧ hi = 0 ∧ sumTo (fun c => 1 + pcn (lbs u.wid (u.outs c))) u.cnt ≤ lo) ∨ (k = 9 ∧ hi = 0 ∧ lo ≤ u.cnt)
def C8 (u : SS) (k hi lo : Nat) : Prop := (k = 3 ∧ lo ≠ 0) ∨ (k = 4 ∧ hi ≠ 0) ∨ (k = 5 ∧ ¬ (lo = 0 ∧ hi % 10 ≤ 1)) ∨ (k = 6 ∧ ¬ (hi = 0 ∧ lo ≤ 3)) ∨ (k = 7 ∧ ¬ (hi < u.cnt ∧ u.brd hi = lo)) ∨ (k = 8 ∧ ¬ (hi = 0 ∧ sumTo (fun c => 1 + pcn (lbs u.wid (u.outs c))) u.cnt ≤ lo)) ∨ (k = 9 ∧ ¬ (hi = 0 ∧ lo ≤ u.cnt)) ∨ k = 0
def SUf (u : SS) (k hi lo : Nat) (r : Int32) (v : SS) : Prop :=
  (k = 1 ∧ ∃ r0, ACs u (nI hi) (nI lo) r0 v ∧ r = B01 r0) ∨ (k = 2 ∧ ∃ r0, AOs u (nI hi) (nI lo) r0 v ∧ r = B01 r0) ∨ (k = 3 ∧ lo = 0 ∧ ∃ r0, HGs u (nI hi) r0 v ∧ r = B01 r0) ∨
  (k = 4 ∧ hi = 0 ∧ ∃ r0, DRs u (nI lo) r0 v ∧ r = B01 r0) ∨ (k = 5 ∧ lo = 0 ∧ hi % 10 ≤ 1 ∧ ∃ r0, BKs u (nI (hi / 10)) (hi % 10) r0 v ∧ r = B01 r0) ∨ (k = 6 ∧ hi = 0 ∧ lo ≤ 3 ∧ Eqv v (patU u lo) ∧ r = nI 1) ∨
  (C7 u k hi lo ∧ Eqv v u ∧ r = nI 1) ∨ (C8 u k hi lo ∧ Eqv v u ∧ r = nI 0)
theorem suf_of {u v : SS} {g : Nat} {r : Int32} (h : SUs u g r v) : SUf u (g / 10000) (g / 100 % 100) (g % 100) r v := by
  obtain ⟨h, e1, e2, e3, e4⟩ := h
  rcases h with ⟨k, r0, h, e5, e6, er⟩ | ⟨k, r0, h, e5, e6, er⟩ | ⟨k, hl, r0, h, a1, a2, a3, e5, e6, er⟩ | ⟨k, hl, r0, h, a, e5, e6, er⟩ | ⟨k, hl, hk, r0, h, a, e5, er⟩ | ⟨k, hl, hk, e5, e6, a, er⟩ | ⟨⟨a, e5, e6⟩, er, h⟩ | ⟨⟨a, e5, e6⟩, er, h⟩
  · exact Or.inl ⟨k, r0, ⟨h, e1, e2, e3, e4, e5, e6⟩, er⟩
  · exact Or.inr (Or.inl ⟨k, r0, ⟨h, e1, e2, e3, e4, e5, e6⟩, er⟩)
  · exact Or.inr (Or.inr (Or.inl ⟨k, hl, r0, ⟨h, a1, a2, a3, e1, e2, e3, e4, e5, e6⟩, er⟩))
  · exact Or.inr (Or.inr (Or.inr (Or.inl ⟨k, hl, r0, ⟨h, a, e1, e2, e3, e4, e5, e6⟩, er⟩)))
  · exact Or.inr (Or.inr (Or.inr (Or.inr (Or.inl ⟨k, hl, hk, r0, ⟨h, a, e1, e2, e3, e4, e5⟩, er⟩))))
  · refine Or.inr (Or.inr (Or.inr (Or.inr (Or.inr (Or.inl ⟨k, hl, hk, ?_, er⟩)))))
    obtain ⟨a1, a2, a3, a4, a5, a6, a7, a8⟩ := a
    exact ⟨⟨e1, e2, e3, e4, a2, e5, a1, e6⟩, fun c _ => ⟨by rw [a3]; rfl, by rw [a4]; rfl, by rw [a5]; rfl, by rw [a6]; rfl⟩, fun z _ => ⟨by rw [a8]; rfl, by rw [a7]; rfl⟩⟩
  · exact Or.inr (Or.inr (Or.inr (Or.inr (Or.inr (Or.inr (Or.inl ⟨h, same_eqv a ⟨e1, e2, e3, e4, e5, e6⟩, er⟩))))))
  · exact Or.inr (Or.inr (Or.inr (Or.inr (Or.inr (Or.inr (Or.inr ⟨h, same_eqv a ⟨e1, e2, e3, e4, e5, e6⟩, er⟩))))))
theorem lk_eqv {u w : SS} (e : Eqv u w) : sumTo (fun c => 1 + pcn (lbs u.wid (u.outs c))) u.cnt = sumTo (fun c => 1 + pcn (lbs w.wid (w.outs c))) w.cnt := by
  rw [← e.1.2.2.2.2.1, ← e.1.2.1]
  exact sumTo_congr (fun c hc => by rw [(e.2.1 c hc).2.1])
theorem c7_eqv {u w : SS} (e : Eqv u w) {k hi lo : Nat} (h : C7 w k hi lo) : C7 u k hi lo := by
  rcases h with ⟨a, b, c⟩ | ⟨a, b, c⟩ | ⟨a, b, c⟩
  · have q : hi < u.cnt := by rw [e.1.2.2.2.2.1]; exact b
    exact Or.inl ⟨a, q, by rw [(e.2.1 hi q).2.2.1]; exact c⟩
  · exact Or.inr (Or.inl ⟨a, b, by rw [lk_eqv e]; exact c⟩)
  · exact Or.inr (Or.inr ⟨a, b, by rw [e.1.2.2.2.2.1]; exact c⟩)
theorem c78 {u : SS} {k hi lo : Nat} (h : C7 u k hi lo) (g : C8 u k hi lo) : False := by
  rcases h with ⟨a, b, c⟩ | ⟨a, b, c⟩ | ⟨a, b, c⟩ <;> rcases g with ⟨d, f⟩ | ⟨d, f⟩ | ⟨d, f⟩ | ⟨d, f⟩ | ⟨d, f⟩ | ⟨d, f⟩ | ⟨d, f⟩ | d <;> first | (exfalso; omega) | exact f ⟨b, c⟩
theorem c7_k {u : SS} {k hi lo : Nat} (h : C7 u k hi lo) : 7 ≤ k := by
  rcases h with ⟨a, -⟩ | ⟨a, -⟩ | ⟨a, -⟩ <;> omega
theorem c8_k {u : SS} {k hi lo : Nat} (h : C8 u k hi lo) : ¬ k = 1 ∧ ¬ k = 2 ∧ (k = 3 → lo ≠ 0) ∧ (k = 4 → hi ≠ 0) ∧ (k = 5 → ¬ (lo = 0 ∧ hi % 10 ≤ 1)) ∧ (k = 6 → ¬ (hi = 0 ∧ lo ≤ 3)) := by
  rcases h with ⟨d, f⟩ | ⟨d, f⟩ | ⟨d, f⟩ | ⟨d, f⟩ | ⟨d, f⟩ | ⟨d, f⟩ | ⟨d, f⟩ | d <;> subst d <;> refine ⟨by decide, by decide, ?_, ?_, ?_, ?_⟩ <;> intro q <;> first | (exfalso; omega) | exact f
theorem sus_det {u w v1 v2 : SS} {g : Nat} {r1 r2 : Int32} (hJ : JQ u) (hJw : JQ w) (e : Eqv u w) (h1 : SUs u g r1 v1) (h2 : SUs w g r2 v2) : r1 = r2 ∧ Eqv v1 v2 := by
  have h1 := suf_of h1
  have h2 := suf_of h2
  generalize g / 10000 = k at h1 h2
  generalize g / 100 % 100 = hi at h1 h2
  generalize g % 100 = lo at h1 h2
  rcases h1 with ⟨a0, r0, a, b⟩ | ⟨a0, r0, a, b⟩ | ⟨a0, a1, r0, a, b⟩ | ⟨a0, a1, r0, a, b⟩ | ⟨a0, a1, a2, r0, a, b⟩ | ⟨a0, a1, a2, a, b⟩ | ⟨a0, a, b⟩ | ⟨a0, a, b⟩
  all_goals rcases h2 with ⟨c0, s0, c, d⟩ | ⟨c0, s0, c, d⟩ | ⟨c0, c1, s0, c, d⟩ | ⟨c0, c1, s0, c, d⟩ | ⟨c0, c1, c2, s0, c, d⟩ | ⟨c0, c1, c2, c, d⟩ | ⟨c0, c, d⟩ | ⟨c0, c, d⟩
  all_goals first
    | (exfalso; omega)
    | (exfalso; have q := c7_k a0; omega)
    | (exfalso; have q := c7_k c0; omega)
    | (exfalso; have q := c8_k a0; omega)
    | (exfalso; have q := c8_k c0; omega)
    | exact (c78 (c7_eqv e c0) a0).elim
    | exact (c78 (c7_eqv (eqv_symm e) a0) c0).elim
    | (obtain ⟨q1, q2⟩ := acs_det hJ hJw e a c; exact ⟨by rw [b, d, q1], q2⟩)
    | (obtain ⟨q1, q2⟩ := aos_det hJ hJw e a c; exact ⟨by rw [b, d, q1], q2⟩)
    | (obtain ⟨q1, q2⟩ := hgs_det hJ hJw e a c; exact ⟨by rw [b, d, q1], q2⟩)
    | (obtain ⟨q1, q2⟩ := drs_det hJ hJw e a c; exact ⟨by rw [b, d, q1], q2⟩)
    | (obtain ⟨q1, q2⟩ := bks_det hJ e a c; exact ⟨by rw [b, d, q1], q2⟩)
    | exact ⟨b.trans d.symm, eqv_trans a (eqv_trans (patU_eqv e) (eqv_symm c))⟩
    | exact ⟨b.trans d.symm, eqv_trans a (eqv_trans e (eqv_symm c))⟩
theorem jq_eqv {u v : SS} (hJ : JQ u) (e : Eqv v u) (h16 : ∀ c, c < 16 → v.inp c < 16 ∧ v.outs c < 65536 ∧ v.brd c < 4) : JQ v := by
  obtain ⟨⟨h1, h2, h3, h4, h5, h6, h7, h8, h9, h10, h11⟩, h12⟩ := hJ
  obtain ⟨⟨e0, e1, e2, e3, e4, e5, e6, e7⟩, h, -⟩ := e
  refine ⟨⟨by rw [e0]; exact h1, by rw [e1]; exact h2, by rw [e2]; exact h3, by rw [e3]; exact h4, by rw [e5]; exact h5, by rw [e7, e2]; exact h6, by rw [e4]; exact h7, h16, fun c hc => ?_, fun c d hc hd hcd => ?_, fun c d hc hd hcd hb => ?_⟩, fun c hc => ?_⟩
  · have hc' : c < u.cnt := by rw [← e4]; exact hc
    obtain ⟨b0, b1, b2, b3⟩ := h c hc
    rw [b0, b1, b2, e0, e1, e2, e3, e7]; exact h9 c hc'
  · obtain ⟨b0, b1, b2, b3⟩ := h c hc
    obtain ⟨d0, d1, d2, d3⟩ := h d hd
    rw [b0, b1, d0, d1]; exact h10 c d (by rw [← e4]; exact hc) (by rw [← e4]; exact hd) hcd
  · obtain ⟨b0, b1, b2, b3⟩ := h c hc
    obtain ⟨d0, d1, d2, d3⟩ := h d hd
    rw [b0, b1, d0, d1, e1]
    rw [b2, d2] at hb
    exact h11 c d (by rw [← e4]; exact hc) (by rw [← e4]; exact hd) hcd hb
  · rw [(h c hc).2.1]; exact h12 c (by rw [← e4]; exact hc)
theorem jq_16 {u v : SS} (hI : SINV v) : ∀ c, c < 16 → v.inp c < 16 ∧ v.outs c < 65536 ∧ v.brd c < 4 := hI.2.2.2.2.2.2.2.1
theorem jq_su {u v : SS} {g : Nat} {r : Int32} (hJ : JQ u) (h : SUs u g r v) : JQ v := by
  have hI : SINV v := by
    obtain ⟨h, e1, e2, e3, e4⟩ := h
    show INVq v.fst v.wid v.mid v.las v.pat v.bro v.cnt v.inp v.outs v.brd
    rw [e1, e2, e3, e4]; exact inv_su hJ.1 h
  rcases suf_of h with ⟨a0, r0, a, b⟩ | ⟨a0, r0, a, b⟩ | ⟨a0, a1, r0, a, b⟩ | ⟨a0, a1, r0, a, b⟩ | ⟨a0, a1, a2, r0, a, b⟩ | ⟨a0, a1, a2, a, b⟩ | ⟨a0, a, b⟩ | ⟨a0, a, b⟩
  · exact jq_ac hJ a
  · exact jq_ao hJ a
  · exact jq_hg hJ a
  · exact jq_dr hJ a
  · exact jq_bk hJ (by omega) a
  · exact jq_eqv (jq_pat hJ a2) a hI.2.2.2.2.2.2.2.1
  · exact jq_eqv hJ a hI.2.2.2.2.2.2.2.1
  · exact jq_eqv hJ a hI.2.2.2.2.2.2.2.1
theorem runQ_jq {gf : Nat → Nat} {u : SS} (hJ : JQ u) : ∀ {i : Nat} {v : SS}, runQ gf i u v → JQ v
  | 0, v, h => by rw [show v = u from h]; exact hJ
  | i + 1, v, h => by
    obtain ⟨w, r, h, -, g⟩ := h
    exact jq_su (runQ_jq hJ h) g
theorem runQ_det {gf : Nat → Nat} {u w : SS} (hJ : JQ u) (hJw : JQ w) (e : Eqv u w) : ∀ {i : Nat} {v1 v2 : SS}, runQ gf i u v1 → runQ gf i w v2 → Eqv v1 v2
  | 0, v1, v2, h1, h2 => by rw [show v1 = u from h1, show v2 = w from h2]; exact e
  | i + 1, v1, v2, h1, h2 => by
    obtain ⟨w1, s1, a1, -, b1⟩ := h1
    obtain ⟨w2, s2, a2, -, b2⟩ := h2
    exact (sus_det (runQ_jq hJ a1) (runQ_jq hJw a2) (runQ_det hJ hJw e a1 a2) b1 b2).2
theorem runQ_pre {gf : Nat → Nat} {u : SS} : ∀ {i : Nat} {v : SS}, runQ gf i u v → ∀ j, j < i → ∃ w r x, runQ gf j u w ∧ ¬ r = 0 ∧ SUs w (gf j) r x
  | 0, v, h, j, hj => absurd hj (Nat.not_lt_zero _)
  | i + 1, v, h, j, hj => by
    obtain ⟨w, r, h, hr, g⟩ := h
    rcases Nat.lt_succ_iff_lt_or_eq.mp hj with q | q
    · exact runQ_pre h j q
    · subst q; exact ⟨w, r, v, h, hr, g⟩
/-- what a script answers -/
def RSq (u : SS) (gf : Nat → Nat) (j : Nat) (r : Int32) : Prop := (∃ i v w, i < j ∧ r = nI i ∧ runQ gf i u v ∧ SUs v (gf i) 0 w) ∨ (r = -1 ∧ ∃ v, runQ gf j u v)
theorem rsq_det {gf : Nat → Nat} {u w : SS} {j : Nat} {r1 r2 : Int32} (hJ : JQ u) (hJw : JQ w) (e : Eqv u w) (h1 : RSq u gf j r1) (h2 : RSq w gf j r2) : r1 = r2 := by
  have key : ∀ {u w : SS}, JQ u → JQ w → Eqv u w → ∀ {i k : Nat} {v x y : SS}, runQ gf i u v → SUs v (gf i) 0 x → i < k → runQ gf k w y → False := by
    intro u w hJ hJw e i k v x y h1 h2 hik h3
    obtain ⟨w', r, x', a1, a2, a3⟩ := runQ_pre h3 i hik
    have := (sus_det (runQ_jq hJ h1) (runQ_jq hJw a1) (runQ_det hJ hJw e h1 a1) h2 a3).1
    exact a2 this.symm
  rcases h1 with ⟨i, v, x, hi, e1, a1, a2⟩ | ⟨e1, v, a1⟩
  · rcases h2 with ⟨k, v', x', hk, e2, b1, b2⟩ | ⟨e2, v', b1⟩
    · rcases Nat.lt_trichotomy i k with q | q | q
      · exact (key hJ hJw e a1 a2 q b1).elim
      · rw [e1, e2, q]
      · exact (key hJw hJ (eqv_symm e) b1 b2 q a1).elim
    · exact (key hJ hJw e a1 a2 hi b1).elim
  · rcases h2 with ⟨k, v', x', hk, e2, b1, b2⟩ | ⟨e2, v', b1⟩
    · exact (key hJw hJ (eqv_symm e) b1 b2 hk a1).elim
    · rw [e1, e2]
/-- one turn of a simulation -/
def MTf (u : SS) (rr : Nat) (r : Int32) (v : SS) : Prop :=
  (rr % 8 = 4 ∧ ∃ r0, AOs u (nI (rst (rr / 8) u.cnt)) (nI (rst (rr / 128) (u.las * u.wid))) r0 v ∧ r = mx0 r0) ∨ ((rr % 8 = 5 ∨ rr % 8 = 6) ∧ ∃ r0, HGs u (nI (rst (rr / 8) u.cnt)) r0 v ∧ r = nI 0) ∨
  (rr % 8 = 7 ∧ ∃ r0, DRs u (nI (rst (rr / 128) (u.las * u.wid))) r0 v ∧ r = nI 0) ∨ (rr % 8 < 4 ∧ ∃ r0, ACs u (nI (rst (rr / 8) (u.fst * u.wid))) (nI (rst (rr / 128) (u.las * u.wid))) r0 v ∧ r = mx0 r0)
theorem mtf_of {u v : SS} {g : Nat} {r : Int32} (h : MTs u g r v) : MTf u g r v := by
  obtain ⟨h, e1, e2, e3, e4, e5, e6⟩ := h
  rcases h with ⟨k, r0, h, er⟩ | ⟨k, r0, h, a1, a2, a3, er⟩ | ⟨k, r0, h, a, er⟩ | ⟨k, r0, h, er⟩
  · exact Or.inl ⟨k, r0, ⟨h, e1, e2, e3, e4, e5, e6⟩, er⟩
  · exact Or.inr (Or.inl ⟨k, r0, ⟨h, a1, a2, a3, e1, e2, e3, e4, e5, e6⟩, er⟩)
  · exact Or.inr (Or.inr (Or.inl ⟨k, r0, ⟨h, a, e1, e2, e3, e4, e5, e6⟩, er⟩))
  · exact Or.inr (Or.inr (Or.inr ⟨k, r0, ⟨h, e1, e2, e3, e4, e5, e6⟩, er⟩))
theorem mts_det {u w v1 v2 : SS} {g : Nat} {r1 r2 : Int32} (hJ : JQ u) (hJw : JQ w) (e : Eqv u w) (h1 : MTs u g r1 v1) (h2 : MTs w g r2 v2) : r1 = r2 ∧ Eqv v1 v2 := by
  have hc : w.cnt = u.cnt := e.1.2.2.2.2.1.symm
  have hL : w.las * w.wid = u.las * u.wid := by rw [e.1.2.2.2.1, e.1.2.1]
  have hF : w.fst * w.wid = u.fst * u.wid := by rw [e.1.1, e.1.2.1]
  have h2 := mtf_of h2
  unfold MTf at h2
  rw [hc, hL, hF] at h2
  rcases mtf_of h1 with ⟨a0, r0, a, b⟩ | ⟨a0, r0, a, b⟩ | ⟨a0, r0, a, b⟩ | ⟨a0, r0, a, b⟩
  all_goals rcases h2 with ⟨c0, s0, c, d⟩ | ⟨c0, s0, c, d⟩ | ⟨c0, s0, c, d⟩ | ⟨c0, s0, c, d⟩
  all_goals first
    | (exfalso; omega)
    | skip
  · obtain ⟨q1, q2⟩ := aos_det hJ hJw e a c; exact ⟨by rw [b, d, q1], q2⟩
  · obtain ⟨q1, q2⟩ := hgs_det hJ hJw e a c; exact ⟨by rw [b, d], q2⟩
  · obtain ⟨q1, q2⟩ := drs_det hJ hJw e a c; exact ⟨by rw [b, d], q2⟩
  · obtain ⟨q1, q2⟩ := acs_det hJ hJw e a c; exact ⟨by rw [b, d, q1], q2⟩
theorem jq_mt {u v : SS} {g : Nat} {r : Int32} (hJ : JQ u) (h : MTs u g r v) : JQ v := by
  rcases mtf_of h with ⟨a0, r0, a, b⟩ | ⟨a0, r0, a, b⟩ | ⟨a0, r0, a, b⟩ | ⟨a0, r0, a, b⟩
  · exact jq_ao hJ a
  · exact jq_hg hJ a
  · exact jq_dr hJ a
  · exact jq_ac hJ a
theorem mts_mov {u v : SS} {g : Nat} {r : Int32} (hJ : JQ u) (h : MTs u g r v) : nI v.mov = nI u.mov + r := by
  rcases mtf_of h with ⟨a0, r0, a, b⟩ | ⟨a0, r0, a, b⟩ | ⟨a0, r0, a, b⟩ | ⟨a0, r0, a, b⟩
  · rw [b]; exact aos_mov hJ a
  · rw [b, show v.mov = u.mov from a.2.1]; exact (Int32.add_zero _).symm
  · rw [b, show v.mov = u.mov from a.2.1.1]; exact (Int32.add_zero _).symm
  · rw [b]; exact acs_mov hJ a
theorem simQ_jq {sd : Int64} {u : SS} (hJ : JQ u) : ∀ {i : Nat} {v : SS} {t : Int32}, simQ sd i u v t → JQ v
  | 0, v, t, h => by rw [show v = u from h.1]; exact hJ
  | i + 1, v, t, h => by
    obtain ⟨w, t0, r, h, g, -⟩ := h
    exact jq_mt (simQ_jq hJ h) g
theorem simQ_det {sd : Int64} {u w : SS} (hJ : JQ u) (hJw : JQ w) (e : Eqv u w) : ∀ {i : Nat} {v1 v2 : SS} {t1 t2 : Int32}, simQ sd i u v1 t1 → simQ sd i w v2 t2 → t1 = t2 ∧ Eqv v1 v2
  | 0, v1, v2, t1, t2, h1, h2 => by rw [h1.1, h1.2, h2.1, h2.2]; exact ⟨rfl, e⟩
  | i + 1, v1, v2, t1, t2, h1, h2 => by
    obtain ⟨w1, s1, r1, a1, b1, c1⟩ := h1
    obtain ⟨w2, s2, r2, a2, b2, c2⟩ := h2
    obtain ⟨q1, q2⟩ := simQ_det hJ hJw e a1 a2
    obtain ⟨q3, q4⟩ := mts_det (simQ_jq hJ a1) (simQ_jq hJw a2) q2 b1 b2
    exact ⟨by rw [c1, c2, q1, q3], q4⟩
theorem simQ_mov {sd : Int64} {u : SS} (hJ : JQ u) : ∀ {i : Nat} {v : SS} {t : Int32}, simQ sd i u v t → nI v.mov = nI u.mov + t
  | 0, v, t, h => by rw [h.1, h.2]; exact (Int32.add_zero _).symm
  | i + 1, v, t, h => by
    obtain ⟨w, t0, r, h, g, e⟩ := h
    rw [mts_mov (simQ_jq hJ h) g, simQ_mov hJ h, e, Int32.add_assoc]
/-- a text's commands -/
theorem cms_det {u w v1 v2 : SS} {lt a : Nat} {o1 o2 r1 r2 : Int32} (hJ : JQ u) (hJw : JQ w) (e : Eqv u w) (eo : lt = 99 ∨ lt = 106 → o1 = o2) (h1 : CMs u lt a o1 r1 v1) (h2 : CMs w lt a o2 r2 v2) : r1 = r2 ∧ Eqv v1 v2 := by
  obtain ⟨h1, a1, a2, a3, a4⟩ := h1
  obtain ⟨h2, b1, b2, b3, b4⟩ := h2
  rcases h1 with ⟨a0, x, x5, x6⟩ | ⟨a0, x, x5, x6⟩ | ⟨a0, x, y1, y2, y3, x5, x6⟩ | ⟨a0, x, y1, x5⟩ | ⟨a0, x, x5, x6, y1⟩
  all_goals rcases h2 with ⟨c0, z, z5, z6⟩ | ⟨c0, z, z5, z6⟩ | ⟨c0, z, t1, t2, t3, z5, z6⟩ | ⟨c0, z, t1, z5⟩ | ⟨c0, z, z5, z6, t1⟩
  all_goals first
    | (exfalso; omega)
    | skip
  · rw [eo (Or.inl a0)] at x
    exact acs_det hJ hJw e ⟨x, a1, a2, a3, a4, x5, x6⟩ ⟨z, b1, b2, b3, b4, z5, z6⟩
  · rw [eo (Or.inr a0)] at x
    exact aos_det hJ hJw e ⟨x, a1, a2, a3, a4, x5, x6⟩ ⟨z, b1, b2, b3, b4, z5, z6⟩
  · exact hgs_det hJ hJw e ⟨x, y1, y2, y3, a1, a2, a3, a4, x5, x6⟩ ⟨z, t1, t2, t3, b1, b2, b3, b4, z5, z6⟩
  · have z := z
    rw [← e.1.2.2.2.2.2.2.2] at z
    have q := bks_det (u := u) (w := w) (v1 := v1) (v2 := v2) (x := nI a) (r1 := r1) (r2 := r2) (is := if u.bro.testBit a = true then 0 else 1) hJ e ⟨x, y1, a1, a2, a3, a4, x5⟩ ⟨by rw [← e.1.2.2.2.2.2.2.2]; exact z, t1, b1, b2, b3, b4, z5⟩
    exact q
  · have q1 : Eqv v1 (patU u a) := by
      obtain ⟨y1, y2, y3, y4, y5, y6, y7, y8⟩ := y1
      exact ⟨⟨a1, a2, a3, a4, y2, x5, y1, x6⟩, fun c _ => ⟨by rw [y3]; rfl, by rw [y4]; rfl, by rw [y5]; rfl, by rw [y6]; rfl⟩, fun z _ => ⟨by rw [y8]; rfl, by rw [y7]; rfl⟩⟩
    have q2 : Eqv v2 (patU w a) := by
      obtain ⟨y1, y2, y3, y4, y5, y6, y7, y8⟩ := t1
      exact ⟨⟨b1, b2, b3, b4, y2, z5, y1, z6⟩, fun c _ => ⟨by rw [y3]; rfl, by rw [y4]; rfl, by rw [y5]; rfl, by rw [y6]; rfl⟩, fun z _ => ⟨by rw [y8]; rfl, by rw [y7]; rfl⟩⟩
    exact ⟨by rw [x, z, e.1.2.2.2.2.2.1], eqv_trans q1 (eqv_trans (patU_eqv e) (eqv_symm q2))⟩
theorem jq_cm {u v : SS} {lt a : Nat} {ro r : Int32} (hJ : JQ u) (hna : lt = 112 → a ≤ 3) (h : CMs u lt a ro r v) : JQ v := by
  have hI : SINV v := by
    obtain ⟨h, e1, e2, e3, e4⟩ := h
    show INVq v.fst v.wid v.mid v.las v.pat v.bro v.cnt v.inp v.outs v.brd
    rw [e1, e2, e3, e4]; exact inv_cm hJ.1 hna h
  obtain ⟨h1, a1, a2, a3, a4⟩ := h
  rcases h1 with ⟨a0, x, x5, x6⟩ | ⟨a0, x, x5, x6⟩ | ⟨a0, x, y1, y2, y3, x5, x6⟩ | ⟨a0, x, y1, x5⟩ | ⟨a0, x, x5, x6, y1⟩
  · exact jq_ac hJ ⟨x, a1, a2, a3, a4, x5, x6⟩
  · exact jq_ao hJ ⟨x, a1, a2, a3, a4, x5, x6⟩
  · exact jq_hg hJ ⟨x, y1, y2, y3, a1, a2, a3, a4, x5, x6⟩
  · exact jq_bk hJ (by split <;> decide) ⟨x, y1, a1, a2, a3, a4, x5⟩
  · obtain ⟨y1, y2, y3, y4, y5, y6, y7, y8⟩ := y1
    exact jq_eqv (jq_pat hJ (hna a0)) ⟨⟨a1, a2, a3, a4, y2, x5, y1, x6⟩, fun c _ => ⟨by rw [y3]; rfl, by rw [y4]; rfl, by rw [y5]; rfl, by rw [y6]; rfl⟩, fun z _ => ⟨by rw [y8]; rfl, by rw [y7]; rfl⟩⟩ hI.2.2.2.2.2.2.2.1
theorem ldQ_jq {fw mid lw len : Nat} {sg : Nat → Nat} {u0 : SS} (hl : len ≤ 120) (h5 : 5 ≤ len) (hJ : JQ u0) : ∀ {i p : Nat} {v : SS} {k : Nat}, ldQ fw mid lw len sg u0 i p v k → JQ v
  | 0, p, v, k, h => by rw [show v = u0 from h.2.1]; exact hJ
  | i + 1, p, v, k, h => by
    obtain ⟨p0, w, k0, lt, a, b, ro, r, h, hP, -, hC, -⟩ := h
    have := ld_pos hl h5 h
    have q := pc_ok hl (by omega) hP
    exact jq_cm (ldQ_jq hl h5 hJ h) (fun e => by omega) hC
theorem ldQ_det {fw mid lw len : Nat} {sg : Nat → Nat} {u0 w0 : SS} (hl : len ≤ 120) (h5 : 5 ≤ len) (hJ : JQ u0) (hJw : JQ w0) (e : Eqv u0 w0) : ∀ {i p1 p2 : Nat} {v1 v2 : SS} {k1 k2 : Nat}, ldQ fw mid lw len sg u0 i p1 v1 k1 → ldQ fw mid lw len sg w0 i p2 v2 k2 → p1 = p2 ∧ Eqv v1 v2 ∧ k1 = k2
  | 0, p1, p2, v1, v2, k1, k2, h1, h2 => by
    obtain ⟨a1, a2, a3⟩ := h1
    obtain ⟨b1, b2, b3⟩ := h2
    exact ⟨a1.trans b1.symm, by rw [a2, b2]; exact e, a3.trans b3.symm⟩
  | i + 1, p1, p2, v1, v2, k1, k2, h1, h2 => by
    obtain ⟨q1, w1, l1, lt1, a1, b1, ro1, r1, h1, hP1, ho1, hC1, e1⟩ := h1
    obtain ⟨q2, w2, l2, lt2, a2, b2, ro2, r2, h2, hP2, ho2, hC2, e2⟩ := h2
    obtain ⟨f1, f2, f3⟩ := ldQ_det hl h5 hJ hJw e h1 h2
    subst f1
    rw [hP1] at hP2
    cases hP2
    obtain ⟨g1, g2⟩ := cms_det (ldQ_jq hl h5 hJ h1) (ldQ_jq hl h5 hJw h2) f2 (fun q => (ho1 q).trans (ho2 q).symm) hC1 hC2
    exact ⟨rfl, g2, by rw [e1, e2, f3, g1]⟩
theorem ldQ_pre {fw mid lw len : Nat} {sg : Nat → Nat} {u0 : SS} (hl : len ≤ 120) (h5 : 5 ≤ len) : ∀ {i p : Nat} {v : SS} {k : Nat}, ldQ fw mid lw len sg u0 i p v k → ∀ j, j < i → ∃ q w l, ldQ fw mid lw len sg u0 j q w l ∧ q < len
  | 0, p, v, k, h, j, hj => absurd hj (Nat.not_lt_zero _)
  | i + 1, p, v, k, h, j, hj => by
    obtain ⟨p0, w, k0, lt, a, b, ro, r, h, hP, -⟩ := h
    rcases Nat.lt_succ_iff_lt_or_eq.mp hj with q | q
    · exact ldQ_pre hl h5 h j q
    · subst q
      have := ld_pos hl h5 h
      exact ⟨p0, w, k0, h, (pc_ok hl (by omega) hP).1⟩
theorem ldQ_fin {fw mid lw len : Nat} {sg : Nat → Nat} {u0 w0 : SS} (hl : len ≤ 120) (h5 : 5 ≤ len) (hJ : JQ u0) (hJw : JQ w0) (e : Eqv u0 w0) {i1 i2 p1 p2 : Nat} {v1 v2 : SS} {k1 k2 : Nat} (h1 : ldQ fw mid lw len sg u0 i1 p1 v1 k1) (h2 : ldQ fw mid lw len sg w0 i2 p2 v2 k2) (g1 : len ≤ p1) (g2 : len ≤ p2) : Eqv v1 v2 ∧ k1 = k2 := by
  rcases Nat.lt_trichotomy i1 i2 with q | q | q
  · obtain ⟨a, b, c, d, f⟩ := ldQ_pre hl h5 h2 i1 q
    have := (ldQ_det hl h5 hJ hJw e h1 d).1
    omega
  · subst q; exact (ldQ_det hl h5 hJ hJw e h1 h2).2
  · obtain ⟨a, b, c, d, f⟩ := ldQ_pre hl h5 h1 i2 q
    have := (ldQ_det hl h5 hJ hJw e d h2).1
    omega
theorem ld_stop {fw mid lw len : Nat} {sg : Nat → Nat} {u0 v : SS} {i p k : Nat} (hl : len ≤ 120) (h5 : 5 ≤ len) (h : ldQ fw mid lw len sg u0 i p v k) (hn : PE fw mid lw len sg 120 5 = none) (hs : i = 120 ∨ ∃ e, PC fw mid lw len sg p = (false, e, 0, 0, 0)) : len ≤ p := by
  have hp := ld_pos hl h5 h
  rcases Nat.lt_or_ge p len with q | q
  · rcases hs with hs | ⟨e, hs⟩
    · omega
    · rw [ld_bad hl h5 h q hs] at hn; cases hn
  · exact q
