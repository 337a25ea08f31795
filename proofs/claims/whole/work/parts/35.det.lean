/-! what an action does is one thing -/
def INc (u : SS) (x y : Int32) : Prop := CIn (u.fst * u.wid) x ∧ CIn (u.las * u.wid) y
def OKc (u : SS) (jx jy k : Nat) (π : Nat → Nat) : Prop := jx < u.fst * u.wid ∧ jy < u.las * u.wid ∧ freeIn u.cnt u.inp jx ∧ freeOut u.cnt u.outs jy ∧ k ≤ u.pat ∧ OPN u.wid u.mid u.bro u.cnt u.inp u.outs u.brd (jx / u.wid) (jy / u.wid) π k
def ACf (u : SS) (x y r : Int32) (v : SS) : Prop :=
  (r = -2 ∧ ¬ INc u x y ∧ Eqv v u) ∨ (r = -3 ∧ (∃ jx jy, x = nI jx ∧ jx < u.fst * u.wid ∧ y = nI jy ∧ jy < u.las * u.wid ∧ ∀ k π, ¬ OKc u jx jy k π) ∧ Eqv v u) ∨
  ∃ jx jy k π, x = nI jx ∧ y = nI jy ∧ r = nI k ∧ OKc u jx jy k π ∧ Eqv v (conU u jx jy π)
theorem same_eqv {u v : SS} (h : SAMEq u.mov u.cnt u.inp u.outs u.brd u.mvd u.got u.owe v.mov v.cnt v.inp v.outs v.brd v.mvd v.got v.owe) (g : v.fst = u.fst ∧ v.wid = u.wid ∧ v.mid = u.mid ∧ v.las = u.las ∧ v.pat = u.pat ∧ v.bro = u.bro) : Eqv v u := by
  obtain ⟨a1, a2, a3, a4, a5, a6, a7, a8⟩ := h
  obtain ⟨b1, b2, b3, b4, b5, b6⟩ := g
  exact ⟨⟨b1, b2, b3, b4, a2, b5, a1, b6⟩, fun c _ => ⟨by rw [a3], by rw [a4], by rw [a5], by rw [a6]⟩, fun x _ => ⟨by rw [a8], by rw [a7]⟩⟩
theorem acf_of {u v : SS} {x y r : Int32} (hJ : JQ u) (h : ACs u x y r v) : ACf u x y r v := by
  have h16 := (bd_of hJ).2.2.2.2.2.2.1
  obtain ⟨h, g⟩ := h
  rcases h with ⟨e, h1, h2⟩ | ⟨e, ⟨jx, jy, e1, h1, e2, h2, h3⟩, h4⟩ | ⟨jx, jy, k, π, b1, m1, e1, h1, e2, h2, h3, h4, h5, e3, h6, h7, h8, a1, a2, a3, a4, a5⟩
  · exact Or.inl ⟨e, h1, same_eqv h2 g⟩
  · refine Or.inr (Or.inl ⟨e, ⟨jx, jy, e1, h1, e2, h2, fun k π hO => ?_⟩, same_eqv h4 g⟩)
    obtain ⟨-, -, o1, o2, o3, o4⟩ := hO
    have := h3 o1 o2 (free16 hJ o1 h1) π o4.1
    have := o4.2.1
    omega
  · refine Or.inr (Or.inr ⟨jx, jy, k, π, e1, e2, e3, ⟨h1, h2, h3, h4, h6, h7⟩, ?_⟩)
    obtain ⟨g1, g2, g3, g4, g5, g6⟩ := g
    obtain ⟨o1, o2, o3, o4, o5⟩ := h8
    refine ⟨⟨g1, g2, g3, g4, a1, g5, o3, g6⟩, fun c hc => ?_, fun z hz => ⟨o5 z hz, o4 z hz⟩⟩
    rw [a1] at hc
    refine ⟨by rw [a2]; rfl, by rw [a3]; rfl, ?_, ?_⟩
    · rw [a4]
      show va_up b1 u.cnt (π u.cnt) c = va_up (fun c => if c < u.cnt then π c else u.brd c) u.cnt (π u.cnt) c
      by_cases e : c = u.cnt
      · rw [e, va_up_self, va_up_self]
      · rw [va_up_ne _ _ e, va_up_ne _ _ e]; exact o1 c (by omega)
    · rw [a5]
      show va_up m1 u.cnt 0 c = va_up (fun c => u.mvd c + (if c < u.cnt then mvn (u.brd c) (π c) else 0)) u.cnt 0 c
      by_cases e : c = u.cnt
      · rw [e, va_up_self, va_up_self]
      · rw [va_up_ne _ _ e, va_up_ne _ _ e]; exact o2 c (by omega)
theorem frN_eqv {u w : SS} (e : Eqv u w) (fb c : Nat) : frN w.cnt w.wid w.inp fb c = frN u.cnt u.wid u.inp fb c := by
  obtain ⟨⟨e0, e1, e2, e3, e4, e5, e6, e7⟩, h, -⟩ := e
  unfold frN
  rw [← e4, ← e1]
  by_cases g : c < u.cnt
  · rw [if_pos g, if_pos g, (h c g).1]
  · rw [if_neg g, if_neg g]
theorem toN_eqv {u w : SS} (e : Eqv u w) (fb c : Nat) : toN w.cnt w.wid w.outs fb c = toN u.cnt u.wid u.outs fb c := by
  obtain ⟨⟨e0, e1, e2, e3, e4, e5, e6, e7⟩, h, -⟩ := e
  unfold toN
  rw [← e4, ← e1]
  by_cases g : c < u.cnt
  · rw [if_pos g, if_pos g, (h c g).2.1]
  · rw [if_neg g, if_neg g]
theorem bfN_eqv {u w : SS} (e : Eqv u w) (c : Nat) : bfN w.cnt w.brd c = bfN u.cnt u.brd c := by
  obtain ⟨⟨e0, e1, e2, e3, e4, e5, e6, e7⟩, h, -⟩ := e
  unfold bfN
  rw [← e4]
  by_cases g : c < u.cnt
  · rw [if_pos g, if_pos g, (h c g).2.2.1]
  · rw [if_neg g, if_neg g]
theorem free_in_eqv {u w : SS} (e : Eqv u w) {j : Nat} (h : freeIn w.cnt w.inp j) : freeIn u.cnt u.inp j := fun k hk => by
  rw [(e.2.1 k hk).1]; exact h k (by rw [← e.1.2.2.2.2.1]; exact hk)
theorem free_out_eqv {u w : SS} (e : Eqv u w) {j : Nat} (h : freeOut w.cnt w.outs j) : freeOut u.cnt u.outs j := fun k hk => by
  rw [(e.2.1 k hk).2.1]; exact h k (by rw [← e.1.2.2.2.2.1]; exact hk)
theorem okc_eqv {u w : SS} (e : Eqv u w) {jx jy k : Nat} {π : Nat → Nat} (h : OKc w jx jy k π) : OKc u jx jy k π := by
  obtain ⟨h1, h2, h3, h4, h5, h6⟩ := h
  have q1 := free_in_eqv e h3
  have q2 := free_out_eqv e h4
  have q3 : OPN u.wid u.mid u.bro u.cnt u.inp u.outs u.brd (jx / u.wid) (jy / u.wid) π k := by
    have h6 := opt_congr (fun c _ => frN_eqv e _ c) (fun c _ => toN_eqv e _ c) (fun c _ => bfN_eqv e c) h6
    rw [← e.1.2.1, ← e.1.2.2.1, ← e.1.2.2.2.2.1, ← e.1.2.2.2.2.2.2.2] at h6
    exact h6
  refine ⟨?_, ?_, q1, q2, ?_, q3⟩
  · rw [e.1.1, e.1.2.1]; exact h1
  · rw [e.1.2.2.2.1, e.1.2.1]; exact h2
  · rw [e.1.2.2.2.2.2.1]; exact h5
theorem inc_eqv {u w : SS} (e : Eqv u w) {x y : Int32} (h : INc w x y) : INc u x y := by
  unfold INc at *
  rw [e.1.1, e.1.2.1, e.1.2.2.2.1]; exact h
theorem conU_eqv {u w : SS} (e : Eqv u w) {jx jy : Nat} {π ρ : Nat → Nat} (hp : ∀ c, c < u.cnt + 1 → π c = ρ c) : Eqv (conU u jx jy π) (conU w jx jy ρ) := by
  obtain ⟨⟨e0, e1, e2, e3, e4, e5, e6, e7⟩, h, h3⟩ := e
  have hm : ∀ c, c < u.cnt → mvn (u.brd c) (π c) = mvn (w.brd c) (ρ c) := fun c hc => by rw [(h c hc).2.2.1, hp c (by omega)]
  refine ⟨⟨e0, e1, e2, e3, congrArg (· + 1) e4, e5, ?_, e7⟩, fun c hc => ⟨?_, ?_, ?_, ?_⟩, fun z hz => ⟨?_, ?_⟩⟩
  · show u.mov + sumTo _ u.cnt = w.mov + sumTo _ w.cnt
    rw [e6, ← e4, sumTo_congr hm]
  · have hc : c < u.cnt + 1 := hc
    show va_up u.inp u.cnt jx c = va_up w.inp w.cnt jx c
    rw [← e4]
    by_cases g : c = u.cnt
    · rw [g, va_up_self, va_up_self]
    · rw [va_up_ne _ _ g, va_up_ne _ _ g]; exact (h c (by omega)).1
  · have hc : c < u.cnt + 1 := hc
    show va_up u.outs u.cnt (2 ^ jy) c = va_up w.outs w.cnt (2 ^ jy) c
    rw [← e4]
    by_cases g : c = u.cnt
    · rw [g, va_up_self, va_up_self]
    · rw [va_up_ne _ _ g, va_up_ne _ _ g]; exact (h c (by omega)).2.1
  · have hc : c < u.cnt + 1 := hc
    show va_up (fun c => if c < u.cnt then π c else u.brd c) u.cnt (π u.cnt) c = va_up (fun c => if c < w.cnt then ρ c else w.brd c) w.cnt (ρ w.cnt) c
    rw [← e4]
    by_cases g : c = u.cnt
    · rw [g, va_up_self, va_up_self]; exact hp _ (by omega)
    · rw [va_up_ne _ _ g, va_up_ne _ _ g]
      show (if c < u.cnt then π c else u.brd c) = if c < u.cnt then ρ c else w.brd c
      rw [if_pos (by omega), if_pos (by omega)]; exact hp _ (by omega)
  · have hc : c < u.cnt + 1 := hc
    show va_up (fun c => u.mvd c + (if c < u.cnt then mvn (u.brd c) (π c) else 0)) u.cnt 0 c = va_up (fun c => w.mvd c + (if c < w.cnt then mvn (w.brd c) (ρ c) else 0)) w.cnt 0 c
    rw [← e4]
    by_cases g : c = u.cnt
    · rw [g, va_up_self, va_up_self]
    · rw [va_up_ne _ _ g, va_up_ne _ _ g]
      show u.mvd c + (if c < u.cnt then mvn (u.brd c) (π c) else 0) = w.mvd c + if c < u.cnt then mvn (w.brd c) (ρ c) else 0
      rw [if_pos (by omega), if_pos (by omega), hm c (by omega), (h c (by omega)).2.2.2]
  · show u.owe z + (if z = jx then sumTo (owF u.brd π u.cnt) u.cnt else 0) = w.owe z + (if z = jx then sumTo (owF w.brd ρ w.cnt) w.cnt else 0)
    rw [(h3 z hz).1, ← e4, sumTo_congr (f := owF u.brd π u.cnt) (g := owF w.brd ρ u.cnt) (fun c hc => by
      show (if c = u.cnt then 0 else mvn (u.brd c) (π c)) = if c = u.cnt then 0 else mvn (w.brd c) (ρ c)
      rw [hm c hc])]
  · show u.got z + sumTo (gtF u.inp u.brd π u.cnt z) u.cnt = w.got z + sumTo (gtF w.inp w.brd ρ w.cnt z) w.cnt
    rw [(h3 z hz).2, ← e4, sumTo_congr (f := gtF u.inp u.brd π u.cnt z) (g := gtF w.inp w.brd ρ u.cnt z) (fun c hc => by
      show (if c = u.cnt then 0 else if u.inp c = z then mvn (u.brd c) (π c) else 0) = if c = u.cnt then 0 else if w.inp c = z then mvn (w.brd c) (ρ c) else 0
      rw [hm c hc, (h c hc).1])]
theorem inc_of {u : SS} {jx jy : Nat} (h1 : jx < u.fst * u.wid) (h2 : jy < u.las * u.wid) : INc u (nI jx) (nI jy) := ⟨⟨jx, rfl, h1⟩, jy, rfl, h2⟩
theorem okc_inj {u : SS} {a b c d : Nat} (hJ : JQ u) (ha : a < u.fst * u.wid) (hb : b < u.las * u.wid) (hc : c < u.fst * u.wid) (hd : d < u.las * u.wid) (e1 : nI a = nI c) (e2 : nI b = nI d) : a = c ∧ b = d := by
  have h := (bd_of hJ).2.2.2.2.2.2.2.1
  exact ⟨nI_inj4 (by omega) (by omega) e1, nI_inj4 (by omega) (by omega) e2⟩
theorem acf_det {u w v1 v2 : SS} {x y r1 r2 : Int32} (hJ : JQ u) (e : Eqv u w) (h1 : ACf u x y r1 v1) (h2 : ACf w x y r2 v2) : r1 = r2 ∧ Eqv v1 v2 := by
  have h2' : ACf u x y r2 v2 ∨ ∃ jx jy k π, x = nI jx ∧ y = nI jy ∧ r2 = nI k ∧ OKc u jx jy k π ∧ Eqv v2 (conU w jx jy π) := by
    rcases h2 with ⟨a, b, c⟩ | ⟨a, ⟨jx, jy, b1, b2, b3, b4, b5⟩, c⟩ | ⟨jx, jy, k, π, a1, a2, a3, a4, a5⟩
    · exact Or.inl (Or.inl ⟨a, fun g => b (inc_eqv (eqv_symm e) g), eqv_trans c (eqv_symm e)⟩)
    · refine Or.inl (Or.inr (Or.inl ⟨a, ⟨jx, jy, b1, ?_, b3, ?_, fun k π hO => b5 k π (okc_eqv (eqv_symm e) hO)⟩, eqv_trans c (eqv_symm e)⟩))
      · rw [e.1.1, e.1.2.1]; exact b2
      · rw [e.1.2.2.2.1, e.1.2.1]; exact b4
    · exact Or.inr ⟨jx, jy, k, π, a1, a2, a3, okc_eqv e a4, a5⟩
  clear h2
  have key : ∀ {r v}, ACf u x y r v → ∀ jx jy k π, x = nI jx → y = nI jy → OKc u jx jy k π → r = nI k ∧ ∃ ρ, (∀ c, c < u.cnt + 1 → ρ c = π c) ∧ Eqv v (conU u jx jy ρ) := by
    intro r v h jx jy k π ex ey hO
    rcases h with ⟨-, b, -⟩ | ⟨-, ⟨jx', jy', b1, b2, b3, b4, b5⟩, -⟩ | ⟨jx', jy', k', π', a1, a2, a3, a4, a5⟩
    · rw [ex, ey] at b; exact absurd (inc_of hO.1 hO.2.1) b
    · obtain ⟨q1, q2⟩ := okc_inj hJ b2 b4 hO.1 hO.2.1 (b1.symm.trans ex) (b3.symm.trans ey)
      subst q1; subst q2
      exact absurd hO (b5 k π)
    · obtain ⟨q1, q2⟩ := okc_inj hJ a4.1 a4.2.1 hO.1 hO.2.1 (a1.symm.trans ex) (a2.symm.trans ey)
      subst q1; subst q2
      obtain ⟨q3, q4⟩ := opt_unique a4.2.2.2.2.2 hO.2.2.2.2.2
      exact ⟨by rw [a3, q3], π', q4, a5⟩
  rcases h2' with h2 | ⟨jx, jy, k, π, a1, a2, a3, a4, a5⟩
  · rcases h1 with ⟨a, b, c⟩ | ⟨a, ⟨jx, jy, b1, b2, b3, b4, b5⟩, c⟩ | ⟨jx, jy, k, π, a1, a2, a3, a4, a5⟩
    · rcases h2 with ⟨a', b', c'⟩ | ⟨a', ⟨jx', jy', b1', b2', b3', b4', b5'⟩, c'⟩ | ⟨jx', jy', k', π', a1', a2', a3', a4', a5'⟩
      · exact ⟨a.trans a'.symm, eqv_trans c (eqv_symm c')⟩
      · rw [b1', b3'] at b; exact absurd (inc_of b2' b4') b
      · rw [a1', a2'] at b; exact absurd (inc_of a4'.1 a4'.2.1) b
    · rcases h2 with ⟨a', b', c'⟩ | ⟨a', ⟨jx', jy', b1', b2', b3', b4', b5'⟩, c'⟩ | ⟨jx', jy', k', π', a1', a2', a3', a4', a5'⟩
      · rw [b1, b3] at b'; exact absurd (inc_of b2 b4) b'
      · exact ⟨a.trans a'.symm, eqv_trans c (eqv_symm c')⟩
      · obtain ⟨q1, q2⟩ := okc_inj hJ b2 b4 a4'.1 a4'.2.1 (b1.symm.trans a1') (b3.symm.trans a2')
        subst q1; subst q2
        exact absurd a4' (b5 k' π')
    · obtain ⟨q1, ρ, q2, q3⟩ := key h2 jx jy k π a1 a2 a4
      exact ⟨a3.trans q1.symm, eqv_trans a5 (eqv_trans (conU_eqv (eqv_refl u) (fun c hc => (q2 c hc).symm)) (eqv_symm q3))⟩
  · obtain ⟨q1, ρ, q2, q3⟩ := key h1 jx jy k π a1 a2 a4
    exact ⟨q1.trans a3.symm, eqv_trans q3 (eqv_trans (conU_eqv e q2) (eqv_symm a5))⟩
theorem acs_det {u w v1 v2 : SS} {x y r1 r2 : Int32} (hJ : JQ u) (hJw : JQ w) (e : Eqv u w) (h1 : ACs u x y r1 v1) (h2 : ACs w x y r2 v2) : r1 = r2 ∧ Eqv v1 v2 := acf_det hJ e (acf_of hJ h1) (acf_of hJw h2)
/-- another output -/
def OKj (u : SS) (ca jy k : Nat) (π : Nat → Nat) : Prop := ca < u.cnt ∧ jy < u.las * u.wid ∧ freeOut u.cnt u.outs jy ∧ pcn (u.outs ca) < 4 ∧ k ≤ u.pat ∧ Opt u.cnt (alM u.mid u.bro) (fun c => 2 ^ (u.inp c / u.wid)) (toM u.wid u.outs ca (jy / u.wid)) (fun c => nI (u.brd c)) π k
def joiU (u : SS) (ca y : Nat) (π : Nat → Nat) : SS := SS.mk u.fst u.wid u.mid u.las u.pat u.bro (u.mov + sumTo (fun c => mvn (u.brd c) (π c)) u.cnt) u.cnt u.inp (va_up u.outs ca (u.outs ca ||| 2 ^ y)) (fun c => if c < u.cnt then π c else u.brd c) (fun c => u.mvd c + (if c < u.cnt then mvn (u.brd c) (π c) else 0)) (fun z => u.got z + sumTo (gtF u.inp u.brd π ca z) u.cnt) (fun z => u.owe z + (if z = u.inp ca then sumTo (owF u.brd π ca) u.cnt else 0))
def AOf (u : SS) (x y r : Int32) (v : SS) : Prop :=
  (r = -2 ∧ ¬ (CIn u.cnt x ∧ CIn (u.las * u.wid) y) ∧ Eqv v u) ∨ (r = -3 ∧ (∃ ca jy, x = nI ca ∧ ca < u.cnt ∧ y = nI jy ∧ jy < u.las * u.wid ∧ ∀ k π, ¬ OKj u ca jy k π) ∧ Eqv v u) ∨
  ∃ ca jy k π, x = nI ca ∧ y = nI jy ∧ r = nI k ∧ OKj u ca jy k π ∧ Eqv v (joiU u ca jy π)
theorem aof_of {u v : SS} {x y r : Int32} (hJ : JQ u) (h : AOs u x y r v) : AOf u x y r v := by
  have h16 := (bd_of hJ).2.2.2.2.2.2.1
  obtain ⟨h, g⟩ := h
  rcases h with ⟨e, h1, h2⟩ | ⟨e, ⟨ca, jy, e1, h1, e2, h2, h3⟩, h4⟩ | ⟨ca, jy, k, π, e1, h1, e2, h2, h3, h4, e3, h6, h7, h8, a1, a2, a3⟩
  · exact Or.inl ⟨e, h1, same_eqv h2 g⟩
  · refine Or.inr (Or.inl ⟨e, ⟨ca, jy, e1, h1, e2, h2, fun k π hO => ?_⟩, same_eqv h4 g⟩)
    obtain ⟨-, -, o1, o2, o3, o4⟩ := hO
    have := h3 o1 o2 π o4.1
    have := o4.2.1
    omega
  · refine Or.inr (Or.inr ⟨ca, jy, k, π, e1, e2, e3, ⟨h1, h2, h3, h4, h6, h7⟩, ?_⟩)
    obtain ⟨g1, g2, g3, g4, g5, g6⟩ := g
    obtain ⟨o1, o2, o3, o4, o5⟩ := h8
    refine ⟨⟨g1, g2, g3, g4, a1, g5, o3, g6⟩, fun c hc => ?_, fun z hz => ⟨o5 z hz, o4 z hz⟩⟩
    rw [a1] at hc
    exact ⟨by rw [a2]; rfl, by rw [a3]; rfl, o1 c (by omega), o2 c (by omega)⟩
theorem okj_eqv {u w : SS} (e : Eqv u w) {ca jy k : Nat} {π : Nat → Nat} (h : OKj w ca jy k π) : OKj u ca jy k π := by
  obtain ⟨h1, h2, h3, h4, h5, h6⟩ := h
  have q1 : ca < u.cnt := by rw [e.1.2.2.2.2.1]; exact h1
  have q2 := free_out_eqv e h3
  have h6 := opt_congr (fr' := fun c => 2 ^ (u.inp c / u.wid)) (to' := toM u.wid u.outs ca (jy / u.wid)) (bf' := fun c => nI (u.brd c)) (fun c hc => by
    show 2 ^ (w.inp c / w.wid) = 2 ^ (u.inp c / u.wid)
    rw [(e.2.1 c (by rw [e.1.2.2.2.2.1]; exact hc)).1, e.1.2.1]) (fun c hc => by
    unfold toM
    rw [(e.2.1 c (by rw [e.1.2.2.2.2.1]; exact hc)).2.1, e.1.2.1]) (fun c hc => by
    show nI (w.brd c) = nI (u.brd c)
    rw [(e.2.1 c (by rw [e.1.2.2.2.2.1]; exact hc)).2.2.1]) h6
  rw [← e.1.2.2.1, ← e.1.2.2.2.2.1, ← e.1.2.2.2.2.2.2.2] at h6
  refine ⟨q1, ?_, q2, ?_, ?_, h6⟩
  · rw [e.1.2.2.2.1, e.1.2.1]; exact h2
  · rw [(e.2.1 ca q1).2.1]; exact h4
  · rw [e.1.2.2.2.2.2.1]; exact h5
theorem joiU_eqv {u w : SS} (e : Eqv u w) {ca jy : Nat} {π ρ : Nat → Nat} (hca : ca < u.cnt) (hp : ∀ c, c < u.cnt → π c = ρ c) : Eqv (joiU u ca jy π) (joiU w ca jy ρ) := by
  obtain ⟨⟨e0, e1, e2, e3, e4, e5, e6, e7⟩, h, h3⟩ := e
  have hm : ∀ c, c < u.cnt → mvn (u.brd c) (π c) = mvn (w.brd c) (ρ c) := fun c hc => by rw [(h c hc).2.2.1, hp c (by omega)]
  refine ⟨⟨e0, e1, e2, e3, e4, e5, ?_, e7⟩, fun c hc => ⟨?_, ?_, ?_, ?_⟩, fun z hz => ⟨?_, ?_⟩⟩
  · show u.mov + sumTo _ u.cnt = w.mov + sumTo _ w.cnt
    rw [e6, ← e4, sumTo_congr hm]
  · exact (h c hc).1
  · show va_up u.outs ca (u.outs ca ||| 2 ^ jy) c = va_up w.outs ca (w.outs ca ||| 2 ^ jy) c
    rw [(h ca hca).2.1]
    by_cases g : c = ca
    · rw [g, va_up_self, va_up_self]
    · rw [va_up_ne _ _ g, va_up_ne _ _ g]; exact (h c hc).2.1
  · have hc : c < u.cnt := hc
    show (if c < u.cnt then π c else u.brd c) = if c < w.cnt then ρ c else w.brd c
    rw [← e4, if_pos hc, if_pos hc]; exact hp _ hc
  · have hc : c < u.cnt := hc
    show u.mvd c + (if c < u.cnt then mvn (u.brd c) (π c) else 0) = w.mvd c + if c < w.cnt then mvn (w.brd c) (ρ c) else 0
    rw [← e4, if_pos hc, if_pos hc, hm c hc, (h c hc).2.2.2]
  · show u.owe z + (if z = u.inp ca then sumTo (owF u.brd π ca) u.cnt else 0) = w.owe z + (if z = w.inp ca then sumTo (owF w.brd ρ ca) w.cnt else 0)
    rw [(h3 z hz).1, ← e4, (h ca hca).1, sumTo_congr (f := owF u.brd π ca) (g := owF w.brd ρ ca) (fun c hc => by
      show (if c = ca then 0 else mvn (u.brd c) (π c)) = if c = ca then 0 else mvn (w.brd c) (ρ c)
      rw [hm c hc])]
  · show u.got z + sumTo (gtF u.inp u.brd π ca z) u.cnt = w.got z + sumTo (gtF w.inp w.brd ρ ca z) w.cnt
    rw [(h3 z hz).2, ← e4, sumTo_congr (f := gtF u.inp u.brd π ca z) (g := gtF w.inp w.brd ρ ca z) (fun c hc => by
      show (if c = ca then 0 else if u.inp c = z then mvn (u.brd c) (π c) else 0) = if c = ca then 0 else if w.inp c = z then mvn (w.brd c) (ρ c) else 0
      rw [hm c hc, (h c hc).1])]
theorem cin_eqv {a b : Nat} (e : a = b) {x : Int32} (h : CIn b x) : CIn a x := by rw [e]; exact h
theorem aof_det {u w v1 v2 : SS} {x y r1 r2 : Int32} (hJ : JQ u) (e : Eqv u w) (h1 : AOf u x y r1 v1) (h2 : AOf w x y r2 v2) : r1 = r2 ∧ Eqv v1 v2 := by
  have hL : u.las * u.wid = w.las * w.wid := by rw [e.1.2.2.2.1, e.1.2.1]
  have h16 := (bd_of hJ).2.2.2.2.2.2.1
  have hL16 := (bd_of hJ).2.2.2.2.2.2.2.1.2
  have inj : ∀ {a b c d : Nat}, a < u.cnt → b < u.las * u.wid → c < u.cnt → d < u.las * u.wid → nI a = nI c → nI b = nI d → a = c ∧ b = d := fun ha hb hc hd e1 e2 => ⟨nI_inj4 (by omega) (by omega) e1, nI_inj4 (by omega) (by omega) e2⟩
  have h2' : AOf u x y r2 v2 ∨ ∃ jx jy k π, x = nI jx ∧ y = nI jy ∧ r2 = nI k ∧ OKj u jx jy k π ∧ Eqv v2 (joiU w jx jy π) := by
    rcases h2 with ⟨a, b, c⟩ | ⟨a, ⟨jx, jy, b1, b2, b3, b4, b5⟩, c⟩ | ⟨jx, jy, k, π, a1, a2, a3, a4, a5⟩
    · exact Or.inl (Or.inl ⟨a, fun g => b ⟨cin_eqv e.1.2.2.2.2.1.symm g.1, cin_eqv hL.symm g.2⟩, eqv_trans c (eqv_symm e)⟩)
    · refine Or.inl (Or.inr (Or.inl ⟨a, ⟨jx, jy, b1, ?_, b3, ?_, fun k π hO => b5 k π (okj_eqv (eqv_symm e) hO)⟩, eqv_trans c (eqv_symm e)⟩))
      · rw [e.1.2.2.2.2.1]; exact b2
      · rw [hL]; exact b4
    · exact Or.inr ⟨jx, jy, k, π, a1, a2, a3, okj_eqv e a4, a5⟩
  clear h2
  have key : ∀ {r v}, AOf u x y r v → ∀ jx jy k π, x = nI jx → y = nI jy → OKj u jx jy k π → r = nI k ∧ ∃ ρ, (∀ c, c < u.cnt → ρ c = π c) ∧ Eqv v (joiU u jx jy ρ) := by
    intro r v h jx jy k π ex ey hO
    rcases h with ⟨-, b, -⟩ | ⟨-, ⟨jx', jy', b1, b2, b3, b4, b5⟩, -⟩ | ⟨jx', jy', k', π', a1, a2, a3, a4, a5⟩
    · exact absurd ⟨⟨jx, ex, hO.1⟩, jy, ey, hO.2.1⟩ b
    · obtain ⟨q1, q2⟩ := inj b2 b4 hO.1 hO.2.1 (b1.symm.trans ex) (b3.symm.trans ey)
      subst q1; subst q2
      exact absurd hO (b5 k π)
    · obtain ⟨q1, q2⟩ := inj a4.1 a4.2.1 hO.1 hO.2.1 (a1.symm.trans ex) (a2.symm.trans ey)
      subst q1; subst q2
      obtain ⟨q3, q4⟩ := opt_unique a4.2.2.2.2.2 hO.2.2.2.2.2
      exact ⟨by rw [a3, q3], π', q4, a5⟩
  rcases h2' with h2 | ⟨jx, jy, k, π, a1, a2, a3, a4, a5⟩
  · rcases h1 with ⟨a, b, c⟩ | ⟨a, ⟨jx, jy, b1, b2, b3, b4, b5⟩, c⟩ | ⟨jx, jy, k, π, a1, a2, a3, a4, a5⟩
    · rcases h2 with ⟨a', b', c'⟩ | ⟨a', ⟨jx', jy', b1', b2', b3', b4', b5'⟩, c'⟩ | ⟨jx', jy', k', π', a1', a2', a3', a4', a5'⟩
      · exact ⟨a.trans a'.symm, eqv_trans c (eqv_symm c')⟩
      · exact absurd ⟨⟨jx', b1', b2'⟩, jy', b3', b4'⟩ b
      · exact absurd ⟨⟨jx', a1', a4'.1⟩, jy', a2', a4'.2.1⟩ b
    · rcases h2 with ⟨a', b', c'⟩ | ⟨a', ⟨jx', jy', b1', b2', b3', b4', b5'⟩, c'⟩ | ⟨jx', jy', k', π', a1', a2', a3', a4', a5'⟩
      · exact absurd ⟨⟨jx, b1, b2⟩, jy, b3, b4⟩ b'
      · exact ⟨a.trans a'.symm, eqv_trans c (eqv_symm c')⟩
      · obtain ⟨q1, q2⟩ := inj b2 b4 a4'.1 a4'.2.1 (b1.symm.trans a1') (b3.symm.trans a2')
        subst q1; subst q2
        exact absurd a4' (b5 k' π')
    · obtain ⟨q1, ρ, q2, q3⟩ := key h2 jx jy k π a1 a2 a4
      exact ⟨a3.trans q1.symm, eqv_trans a5 (eqv_trans (joiU_eqv (eqv_refl u) a4.1 (fun c hc => (q2 c hc).symm)) (eqv_symm q3))⟩
  · obtain ⟨q1, ρ, q2, q3⟩ := key h1 jx jy k π a1 a2 a4
    exact ⟨q1.trans a3.symm, eqv_trans q3 (eqv_trans (joiU_eqv e a4.1 q2) (eqv_symm a5))⟩
theorem aos_det {u w v1 v2 : SS} {x y r1 r2 : Int32} (hJ : JQ u) (hJw : JQ w) (e : Eqv u w) (h1 : AOs u x y r1 v1) (h2 : AOs w x y r2 v2) : r1 = r2 ∧ Eqv v1 v2 := aof_det hJ e (aof_of hJ h1) (aof_of hJw h2)
