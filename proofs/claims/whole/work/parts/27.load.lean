/-! a text that is loaded -/
theorem pb4_f {len e a b c d : Nat} {sg : Nat → Nat} (h : PB4 len sg = (false, e, a, b, c, d)) : e ≤ 4 := by
  unfold PB4 at h
  repeat' (split at h)
  all_goals first | (cases h; omega) | cases h
theorem pn_e {len p hi e v : Nat} {ok : Bool} {sg : Nat → Nat} (h : PN len sg p hi = (ok, v, e)) : e ≤ p + 2 := by
  unfold PN at h
  repeat' (split at h)
  all_goals (cases h; omega)
theorem pc_f {fw mid lw len p e lt a b : Nat} {ok : Bool} {sg : Nat → Nat} (h : PC fw mid lw len sg p = (ok, e, lt, a, b)) : e ≤ p + 5 := by
  unfold PC at h
  repeat' (split at h)
  all_goals cases h
  all_goals first | omega | (have h1 := pn_e ‹PN len sg (p + 1) _ = _›; omega) | (have h1 := pn_e ‹PN len sg (p + 1) _ = _›; have h2 := pn_e ‹PN len sg _ (lw - 1) = _›; omega)
theorem pe_f {fw mid lw len : Nat} {sg : Nat → Nat} (hl : len ≤ 120) : ∀ {k p e : Nat}, PE fw mid lw len sg k p = some e → e ≤ 125
  | 0, _, _, h => by cases h
  | k + 1, p, e, h => by
    unfold PE at h
    split at h
    · cases q : PC fw mid lw len sg p with
      | mk ok q1 =>
        obtain ⟨e1, lt, a, b⟩ := q1
        rw [q] at h
        cases ok
        · cases h
          have := pc_f q
          omega
        · exact pe_f hl h
    · cases h
def FEq (rl : Nat) (sg : Nat → Nat) (r : Int32) : Prop := (∃ e, PB4 rl sg = (false, e, 0, 0, 0, 0) ∧ r = nI e) ∨ ∃ a b c d, PB4 rl sg = (true, 5, a, b, c, d) ∧ ((∃ e, PE (a * b) c (d * b) rl sg 120 5 = some e ∧ r = nI e) ∨ (PE (a * b) c (d * b) rl sg 120 5 = none ∧ r = -1))
theorem fe_ok {rl : Nat} {sg : Nat → Nat} {r : Int32} (hl : rl ≤ 120) (h : FEq rl sg r) (hr : r = -1) : ∃ a b c d, PB4 rl sg = (true, 5, a, b, c, d) ∧ PE (a * b) c (d * b) rl sg 120 5 = none := by
  rcases h with ⟨e, h, e1⟩ | ⟨a, b, c, d, h, ⟨e, g, e1⟩ | ⟨g, -⟩⟩
  · have := pb4_f h
    exact absurd (e1.symm.trans hr) (nI_m1 (by omega))
  · have := pe_f hl g
    exact absurd (e1.symm.trans hr) (nI_m1 (by omega))
  · exact ⟨a, b, c, d, h, g⟩
theorem fe_no {rl : Nat} {sg : Nat → Nat} {r : Int32} (h : FEq rl sg r) (hr : ¬ r = -1) : ¬ ∃ a b c d, PB4 rl sg = (true, 5, a, b, c, d) ∧ PE (a * b) c (d * b) rl sg 120 5 = none := by
  rintro ⟨a, b, c, d, h1, h2⟩
  rcases h with ⟨e, h, e1⟩ | ⟨a', b', c', d', h, ⟨e, g, e1⟩ | ⟨g, e1⟩⟩
  · rw [h1] at h; cases h
  · rw [h1] at h; cases h; rw [h2] at g; cases g
  · exact hr e1
theorem pb4_inj {rl : Nat} {sg : Nat → Nat} {a b c d a' b' c' d' : Nat} (h : PB4 rl sg = (true, 5, a, b, c, d)) (g : PB4 rl sg = (true, 5, a', b', c', d')) : a = a' ∧ b = b' ∧ c = c' ∧ d = d' := by
  rw [h] at g
  cases g
  exact ⟨rfl, rfl, rfl, rfl⟩
def CMs (u : SS) (lt na : Nat) (ro r : Int32) (v : SS) : Prop := CMq u.fst u.wid u.mid u.las u.pat u.bro u.mov u.cnt u.inp u.outs u.brd u.mvd u.got u.owe lt na ro r v.pat v.bro v.mov v.cnt v.inp v.outs v.brd v.mvd v.got v.owe ∧ v.fst = u.fst ∧ v.wid = u.wid ∧ v.mid = u.mid ∧ v.las = u.las
/-- the commands done so far: where the text goes on, the state, how many were left out -/
def ldQ (fw mid lw rl : Nat) (sg : Nat → Nat) (u0 : SS) : Nat → Nat → SS → Nat → Prop
  | 0, p, u, k => p = 5 ∧ u = u0 ∧ k = 0
  | i + 1, p, u, k => ∃ p0 w k0 lt a b ro r, ldQ fw mid lw rl sg u0 i p0 w k0 ∧ PC fw mid lw rl sg p0 = (true, p, lt, a, b) ∧ (lt = 99 ∨ lt = 106 → ro = nI b) ∧ CMs w lt a ro r u ∧ k = k0 + (if r < 0 then 1 else 0)
theorem inv_new {fst wid mid las : Nat} {inp outs brd : Nat → Nat} (h1 : 1 ≤ fst ∧ fst ≤ 4) (h2 : 1 ≤ wid ∧ wid ≤ 4) (h3 : 1 ≤ mid ∧ mid ≤ 4) (h4 : 1 ≤ las ∧ las ≤ 4) (h16 : ∀ c, c < 16 → inp c < 16 ∧ outs c < 65536 ∧ brd c < 4) : INVq fst wid mid las 2 0 0 inp outs brd :=
  ⟨h1, h2, h3, h4, by decide, Nat.two_pow_pos _, by decide, h16, fun c hc => absurd hc (Nat.not_lt_zero _), fun c d hc => absurd hc (Nat.not_lt_zero _), fun c d hc => absurd hc (Nat.not_lt_zero _)⟩

