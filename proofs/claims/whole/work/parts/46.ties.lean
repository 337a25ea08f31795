/-! both sides of the law, what ties them: the parts of the law's invariant -/
def AGR (k : Int32) (mref : Nat) (og : Nat → Int64) (b : Int32) : Prop := k = nI mref ∧ (k = nI 0 → og 0 = b.toInt64)
def LU (u : SS) (f : Nat → Int32) : Prop := JQ u ∧ RowQ f u
def PR (a : Nat → Nat) (b : Nat → Nat → Nat) : SS := (a, b)
def RNG (fd : Nat → Int32) (k : Nat) (v : SS) : Prop := JQ v ∧ RowQ (fun i => fd (104 * k + i)) v
def FRq (pfr pto : Nat → Nat) : Prop := ∀ c, c < 16 → pfr c < 65536 ∧ pto c < 65536
def LT (rl : Nat) (sg : Nat → Nat) (msz : Nat) (sgm : Nat → Nat) : Prop := rl ≤ 120 ∧ (∀ k, k < 120 → sg k < 256) ∧ msz = rl ∧ sgm = sg
def LH (ho hs : Nat) (hS : Nat → Nat → Nat) (hT : Nat → Nat → Nat → Nat) (fd : Nat → Int32) (macts : Nat) : Prop := ho < 15 ∧ hs ≤ 14 ∧ macts = hs ∧ ∀ k, k < hs → RNG fd k (PR (hS ((ho + k) % 15)) (hT ((ho + k) % 15)))
def LKp (sh : Nat → Nat) (zS : Nat → Nat → Nat) (zT : Nat → Nat → Nat → Nat) (fk : Nat → Int32) (sk : Nat → Nat) : Prop := ∀ k, k < 2 → sh k < 2 ∧ sk k = sh k ∧ (¬ sh k = 0 → RNG fk k (PR (zS k) (zT k)))
theorem xIO_IS : xIO ≠ xIS := by decide
theorem xIA_IS : xIA ≠ xIS := by decide
theorem xIO_IA : xIO ≠ xIA := by decide
theorem hup_s {α : Type} {S : Nat → α} {j : Nat} {v : α} : hup S j v j = v := if_pos rfl
theorem hup_n {α : Type} {S : Nat → α} {j k : Nat} {v : α} (h : k ≠ j) : hup S j v k = S k := if_neg h
theorem rng_of {fd fd' : Nat → Int32} {k k' : Nat} {v : SS} (h : RNG fd k v) (e : ∀ i, i < 104 → fd' (104 * k' + i) = fd (104 * k + i)) : RNG fd' k' v := ⟨h.1, rq_of (bd_of h.1).2.2.2.2.2.2.1 h.2 e⟩
theorem rng_new {f fd : Nat → Int32} {k : Nat} {u : SS} (hU : LU u f) (e : ∀ i, i < 104 → fd (104 * k + i) = f i) : RNG fd k u := ⟨hU.1, rq_of (bd_of hU.1).2.2.2.2.2.2.1 hU.2 e⟩
theorem cpa {f g : Nat → Int32} {m i t : Nat} (h : i < m) : cpF f g 0 t m (t + i) = f i := by
  rw [cp_in h, Nat.zero_add]
theorem cpa0 {f g : Nat → Int32} {m i t : Nat} (h : i < m) : cpF f g t 0 m i = f (t + i) := by
  have := cp_in (f := f) (g := g) (fi := t) (ti := 0) h
  rw [Nat.zero_add] at this
  exact this
theorem lh_note {ho hs ho' hs' macts macts' : Nat} {hS : Nat → Nat → Nat} {hT : Nat → Nat → Nat → Nat} {f fd fd' : Nat → Int32} {a : Nat → Nat} {b : Nat → Nat → Nat} (hU : LU (PR a b) f) (h : LH ho hs hS hT fd macts) (hk : KN ho hs ho' hs') (hr : RMq macts f fd macts' fd') : LH ho' hs' (hup hS ((ho + hs) % 15) a) (hup hT ((ho + hs) % 15) b) fd' macts' := by
  obtain ⟨h1, h2, rfl, h3⟩ := h
  rcases hk with ⟨g1, rfl, rfl⟩ | ⟨g1, rfl, rfl⟩
  · rcases hr with ⟨-, rfl, rfl⟩ | ⟨e, -, -⟩
    · refine ⟨h1, by omega, rfl, fun k hk => ?_⟩
      by_cases e : k = macts
      · subst e
        rw [hup_s, hup_s]
        exact rng_new hU (fun i hi => cpa hi)
      · rw [hup_n (by omega), hup_n (by omega)]
        exact rng_of (h3 k (by omega)) (fun i hi => cp_out (Or.inl (by omega)))
    · omega
  · rcases hr with ⟨e, -, -⟩ | ⟨e, rfl, rfl⟩
    · omega
    · refine ⟨Nat.mod_lt _ (by decide), h2, e.symm, fun k hk => ?_⟩
      by_cases e9 : k = 13
      · subst e9
        rw [show ((ho + 1) % 15 + 13) % 15 = (ho + hs') % 15 by omega, hup_s, hup_s]
        exact rng_new hU (fun i hi => cpa hi)
      · rw [hup_n (by omega), hup_n (by omega), show ((ho + 1) % 15 + k) % 15 = (ho + (k + 1)) % 15 by omega]
        refine rng_of (h3 (k + 1) (by omega)) (fun i hi => ?_)
        rw [cp_out (Or.inl (by omega))]
        have := cp_in (f := fd) (g := fd) (fi := 104) (ti := 0) (m := 1352) (k := 104 * k + i) (by omega)
        rw [Nat.zero_add] at this
        rw [this, show 104 + (104 * k + i) = 104 * (k + 1) + i by omega]
theorem lh_same {ho hs macts : Nat} {hS : Nat → Nat → Nat} {hT : Nat → Nat → Nat → Nat} {fd : Nat → Int32} {a : Nat → Nat} {b : Nat → Nat → Nat} (h : LH ho hs hS hT fd macts) : LH ho hs (hup hS ((ho + hs) % 15) a) (hup hT ((ho + hs) % 15) b) fd macts := by
  obtain ⟨h1, h2, h3, h4⟩ := h
  refine ⟨h1, h2, h3, fun k hk => ?_⟩
  rw [hup_n (by omega), hup_n (by omega)]
  exact h4 k hk
theorem lh_none {ho hs macts : Nat} {hS : Nat → Nat → Nat} {hT : Nat → Nat → Nat → Nat} {fd : Nat → Int32} (h1 : ho < 15) (h2 : hs = 0) (h3 : macts = 0) : LH ho hs hS hT fd macts := ⟨h1, by omega, by omega, fun k hk => by omega⟩
theorem lu_eqv {u v : SS} {f : Nat → Int32} (hJ : JQ v) (h : LU u f) (e : Eqv u v) : LU v f := ⟨hJ, rowq_eqv h.2 e⟩
/-! an action of each side -/
theorem eqv_same {u v : SS} (h : v.fst = u.fst ∧ v.wid = u.wid ∧ v.mid = u.mid ∧ v.las = u.las ∧ v.pat = u.pat ∧ v.bro = u.bro) (s : SAMEq u.mov u.cnt u.inp u.outs u.brd u.mvd u.got u.owe v.mov v.cnt v.inp v.outs v.brd v.mvd v.got v.owe) : Eqv u v := by
  obtain ⟨a0, a1, a2, a3, a4, a5⟩ := h
  obtain ⟨b0, b1, b2, b3, b4, b5, b6, b7⟩ := s
  exact ⟨⟨a0.symm, a1.symm, a2.symm, a3.symm, b1.symm, a4.symm, b0.symm, a5.symm⟩, fun c _ => ⟨by rw [b2], by rw [b3], by rw [b4], by rw [b5]⟩, fun x _ => ⟨by rw [b7], by rw [b6]⟩⟩
theorem acs_same {u v : SS} {x y r : Int32} (hp : u.pat ≤ 3) (h : ACs u x y r v) (hr : r = -2 ∨ r = -3) : Eqv u v := by
  obtain ⟨h, g⟩ := h
  rcases h with ⟨-, -, s⟩ | ⟨-, -, s⟩ | ⟨jx, jy, k, π, brd1, mvd1, -, -, -, -, -, -, -, e, hk, -⟩
  · exact eqv_same g s
  · exact eqv_same g s
  · rcases hr with e1 | e1
    · exact absurd (e.symm.trans e1) (nI_m2 (by omega))
    · exact absurd (e.symm.trans e1) (nI_m3 (by omega))
theorem aos_same {u v : SS} {x y r : Int32} (hp : u.pat ≤ 3) (h : AOs u x y r v) (hr : r = -2 ∨ r = -3) : Eqv u v := by
  obtain ⟨h, g⟩ := h
  rcases h with ⟨-, -, s⟩ | ⟨-, -, s⟩ | ⟨jx, jy, k, π, -, -, -, -, -, -, e, hk, -⟩
  · exact eqv_same g s
  · exact eqv_same g s
  · rcases hr with e1 | e1
    · exact absurd (e.symm.trans e1) (nI_m2 (by omega))
    · exact absurd (e.symm.trans e1) (nI_m3 (by omega))
theorem hgs_same {u v : SS} {x r : Int32} (hc : u.cnt ≤ 16) (h : HGs u x r v) (hr : r = -2 ∨ r = -3) : Eqv u v := by
  obtain ⟨h, g1, g2, g3, g4⟩ := h
  rcases h with ⟨-, -, b1, b2, b3, b4, b5⟩ | ⟨ca, -, -, e, -⟩
  · exact eqv_same g4 ⟨g1, b1, b2, b3, b4, b5, g2, g3⟩
  · rcases hr with e1 | e1
    · exact absurd (e.symm.trans e1) (nI_m2 (by omega))
    · exact absurd (e.symm.trans e1) (nI_m3 (by omega))
theorem pcn_b (n : Nat) : pcn n < 2147483648 := Nat.lt_of_le_of_lt (pcTo_le _ 16) (by decide)
theorem drs_same {u v : SS} {y r : Int32} (h : DRs u y r v) (hr : r = -2 ∨ r = -3) : Eqv u v := by
  obtain ⟨h, ⟨c0, c1, c2, c3, c4, c5, c6⟩, g4⟩ := h
  rcases h with ⟨-, -, b⟩ | ⟨-, -, b⟩ | ⟨jy, ca, -, -, -, -, -, e, -⟩
  · exact eqv_same g4 ⟨c0, c1, c2, b, c3, c4, c5, c6⟩
  · exact eqv_same g4 ⟨c0, c1, c2, b, c3, c4, c5, c6⟩
  · rcases hr with e1 | e1
    · exact absurd (e.symm.trans e1) (nI_m2 (pcn_b _))
    · exact absurd (e.symm.trans e1) (nI_m3 (pcn_b _))
theorem bks_same {u v : SS} {x r : Int32} {is : Nat} (h : BKs u x is r v) (hr : r = -2 ∨ r = -3) : Eqv u v := by
  obtain ⟨h, s, g0, g1, g2, g3, g4⟩ := h
  rcases h with ⟨-, -, b⟩ | ⟨-, -, b⟩ | ⟨mb, -, -, -, -, e⟩
  · exact eqv_same ⟨g0, g1, g2, g3, g4, b⟩ s
  · exact eqv_same ⟨g0, g1, g2, g3, g4, b⟩ s
  · rcases hr with e1 | e1
    · exact absurd (e.symm.trans e1) (nI_m2 (pcn_b _))
    · exact absurd (e.symm.trans e1) (nI_m3 (pcn_b _))
theorem tie_act {a : Nat → Nat} {b : Nat → Nat → Nat} {v1 : SS} {f fd f' fd' : Nat → Int32} {ho hs ho' hs' macts macts' mref' : Nat} {hS : Nat → Nat → Nat} {hT : Nat → Nat → Nat → Nat} {k rb : Int32} {og' : Nat → Int64} {REL : Int32 → SS → Prop} (hU : LU (PR a b) f) (hH : LH ho hs hS hT fd macts)
    (hdet : ∀ r1 r2 v w, REL r1 v → REL r2 w → r1 = r2 ∧ Eqv v w) (hjq : ∀ r v, REL r v → JQ v) (hsame : ∀ r v, REL r v → r = -2 ∨ r = -3 → Eqv (PR a b) v)
    (h1 : (∃ r0, REL r0 v1 ∧ ¬ r0 = -2 ∧ ¬ r0 = -3 ∧ KN ho hs ho' hs' ∧ k = nI 0 ∧ og' 0 = r0.toInt64) ∨ ∃ E r0, REL r0 v1 ∧ (ho' = ho ∧ hs' = hs) ∧ XE E r0 ∧ ((E = xIO ∧ k = nI 1) ∨ (E = xIS ∧ k = nI 2)))
    (h2 : ∃ r1 v, REL r1 v ∧ MA mref' rb r1 v f fd macts f' fd' macts') : AGR k mref' og' rb ∧ LU v1 f' ∧ LH ho' hs' (hup hS ((ho + hs) % 15) a) (hup hT ((ho + hs) % 15) b) fd' macts' := by
  obtain ⟨r1, v, hv, hm⟩ := h2
  rcases h1 with ⟨r0, h3, n2, n3, hk, e1, e2⟩ | ⟨E, r0, h3, ⟨rfl, rfl⟩, hx, hE⟩
  · obtain ⟨rfl, eq⟩ := hdet _ _ _ _ h3 hv
    rcases hm with ⟨-, g, -⟩ | ⟨-, g, -⟩ | ⟨rfl, rfl, -, -, g1, g2⟩
    · exact absurd g n2
    · exact absurd g n3
    · exact ⟨⟨e1, fun _ => e2⟩, ⟨hjq _ _ h3, rowq_eqv g1 (eqv_symm eq)⟩, lh_note hU hH hk g2⟩
  · obtain ⟨rfl, eq⟩ := hdet _ _ _ _ h3 hv
    have key : (r0 = -2 ∧ k = nI 1) ∨ (r0 = -3 ∧ k = nI 2) := by
      rcases hx with ⟨q1, rfl⟩ | ⟨q1, rfl⟩
      · rcases hE with ⟨-, q⟩ | ⟨q, -⟩
        · exact Or.inl ⟨q1, q⟩
        · exact absurd q xIO_IS
      · rcases hE with ⟨q, -⟩ | ⟨-, q⟩
        · exact absurd q.symm xIO_IS
        · exact Or.inr ⟨q1, q⟩
    have hs9 : Eqv (PR a b) v1 := hsame _ _ h3 (key.elim (fun q => Or.inl q.1) (fun q => Or.inr q.1))
    rcases hm with ⟨rfl, g, rfl, rfl, rfl⟩ | ⟨rfl, g, rfl, rfl, rfl⟩ | ⟨-, -, n2, n3, -, -⟩
    · rcases key with ⟨-, q⟩ | ⟨q, -⟩
      · exact ⟨⟨q, fun q2 => absurd (q.symm.trans q2) (by decide)⟩, lu_eqv (hjq _ _ h3) hU hs9, lh_same hH⟩
      · exact absurd (g.symm.trans q) (by decide)
    · rcases key with ⟨q, -⟩ | ⟨-, q⟩
      · exact absurd (g.symm.trans q) (by decide)
      · exact ⟨⟨q, fun q2 => absurd (q.symm.trans q2) (by decide)⟩, lu_eqv (hjq _ _ h3) hU hs9, lh_same hH⟩
    · rcases key with ⟨q, -⟩ | ⟨q, -⟩
      · exact absurd q n2
      · exact absurd q n3
