/-! the law's cases: what each side answered, and what holds after -/
theorem thr2 {E X Y : String} {k : Int32} (hXY : X ≠ Y) (h : (E = X ∧ k = nI 1) ∨ (E = Y ∧ k = nI 2)) : (E = X → k = nI 1) ∧ (E = Y → k = nI 2) := by
  rcases h with ⟨rfl, h⟩ | ⟨rfl, h⟩
  · exact ⟨fun _ => h, fun e => absurd e hXY⟩
  · exact ⟨fun e => absurd e.symm hXY, fun _ => h⟩
theorem agr1 {k b : Int32} {m : Nat} {og : Nat → Int64} (h : k = nI 1) (g : m = 1) : AGR k m og b := ⟨by rw [h, g], fun q => absurd (h.symm.trans q) (by decide)⟩
theorem agr2 {k b : Int32} {m : Nat} {og : Nat → Int64} (h : k = nI 2) (g : m = 2) : AGR k m og b := ⟨by rw [h, g], fun q => absurd (h.symm.trans q) (by decide)⟩
theorem tie_1 {P Q : Int32 → Prop} {C : Prop} {k b : Int32} {m : Nat} {og : Nat → Int64} {X : String} (hP : ∀ v, P v → C) (hQ : Q b → C) (hPQ : ∀ v, P v → Q b → v = b) (h1 : (∃ v9, P v9 ∧ k = nI 0 ∧ og 0 = v9.toInt64) ∨ ∃ E, (E = X ∧ ¬ C) ∧ (E = X ∧ k = nI 1)) (h2 : (m = 1 ∧ ¬ C) ∨ (m = 0 ∧ Q b)) : AGR k m og b := by
  rcases h1 with ⟨v, h, e1, e2⟩ | ⟨E, ⟨-, n⟩, -, e1⟩
  · rcases h2 with ⟨-, n⟩ | ⟨q0, q⟩
    · exact absurd (hP v h) n
    · exact ⟨by rw [e1, q0], fun _ => by rw [e2, hPQ v h q]⟩
  · rcases h2 with ⟨q0, -⟩ | ⟨-, q⟩
    · exact agr1 e1 q0
    · exact absurd (hQ q) n
theorem tie_1F {P Q : Int32 → Prop} {C F : Prop} {k b : Int32} {m : Nat} {og : Nat → Int64} {X : String} (hP : ∀ v, P v → C) (hQ : Q b → C) (hPQ : ∀ v, P v → Q b → v = b) (h1 : (∃ v9, (P v9 ∧ F) ∧ k = nI 0 ∧ og 0 = v9.toInt64) ∨ ∃ E, ((E = X ∧ ¬ C) ∧ F) ∧ (E = X ∧ k = nI 1)) (h2 : (m = 1 ∧ ¬ C) ∨ (m = 0 ∧ Q b)) : AGR k m og b ∧ F := by
  have hF : F := by
    rcases h1 with ⟨v, h, -⟩ | ⟨E, h, -⟩
    · exact h.2
    · exact h.2
  refine ⟨tie_1 hP hQ hPQ (X := X) ?_ h2, hF⟩
  rcases h1 with ⟨v, h, e⟩ | ⟨E, h, e⟩
  · exact Or.inl ⟨v, h.1, e⟩
  · exact Or.inr ⟨E, h.1, e⟩
theorem ix_lx {n : Nat} {P : Nat → Prop} {a b : Int32} (hu : ∀ i j, i < n → j < n → P i → P j → i = j) (h1 : ixQ n P a) (h2 : lxQ n P b) : a = b := by
  rcases h1 with ⟨e, h⟩ | ⟨k, e, hk, hp, -⟩
  · rcases h2 with ⟨e2, -⟩ | ⟨k, -, hk, hp, -⟩
    · rw [e, e2]
    · exact absurd hp (h k hk)
  · rcases h2 with ⟨-, h⟩ | ⟨k', e2, hk', hp', -⟩
    · exact absurd hp (h k hk)
    · rw [e, e2, hu k k' hk hk' hp hp']
theorem fe_det {rl : Nat} {sg : Nat → Nat} {r1 r2 : Int32} (h1 : FEq rl sg r1) (h2 : FEq rl sg r2) : r1 = r2 := by
  rcases h1 with ⟨e, h, q⟩ | ⟨a, b, c, d, h, g⟩
  · rcases h2 with ⟨e', h', q'⟩ | ⟨a', b', c', d', h', -⟩
    · rw [h] at h'; cases h'; rw [q, q']
    · rw [h] at h'; cases h'
  · rcases h2 with ⟨e', h', -⟩ | ⟨a', b', c', d', h', g'⟩
    · rw [h] at h'; cases h'
    · rw [h] at h'; cases h'
      rcases g with ⟨e, g, q⟩ | ⟨g, q⟩
      · rcases g' with ⟨e', g', q'⟩ | ⟨g', -⟩
        · rw [g] at g'; cases g'; rw [q, q']
        · rw [g] at g'; cases g'
      · rcases g' with ⟨e', g', -⟩ | ⟨g', q'⟩
        · rw [g] at g'; cases g'
        · rw [q, q']
theorem tie_append {rl : Nat} {sg : Nat → Nat} {msz : Nat} {sgm : Nat → Nat} {x : Int32} {rl' : Nat} {sg' : Nat → Nat} {kk9 : Int32} {og' : Nat → Int64} {mref' : Nat} {msz' : Nat} {sgm' : Nat → Nat} {bb9 : Int32} (eT : LT rl sg msz sgm)
    (h1 : (∃ v9, (∃ j, x = nI j ∧ j < 256 ∧ rl < 120 ∧ v9 = nI (rl + 1) ∧ rl' = rl + 1 ∧ sg' = va_up sg rl j) ∧ kk9 = nI 0 ∧ og' 0 = v9.toInt64) ∨ ∃ E, ((rl' = rl ∧ sg' = sg) ∧ ((E = xIA ∧ ¬ CIn 256 x) ∨ (E = xIS ∧ CIn 256 x ∧ 120 ≤ rl))) ∧ ((E = xIA ∧ kk9 = nI 1) ∨ (E = xIS ∧ kk9 = nI 2)))
    (h2 : (mref' = 1 ∧ ¬ CIn 256 x ∧ msz' = msz ∧ sgm' = sgm) ∨ (mref' = 2 ∧ CIn 256 x ∧ 120 ≤ msz ∧ msz' = msz ∧ sgm' = sgm) ∨ (mref' = 0 ∧ ∃ j, x = nI j ∧ j < 256 ∧ msz < 120 ∧ bb9 = nI (msz + 1) ∧ msz' = msz + 1 ∧ sgm' = va_up sgm msz j)) :
    AGR kk9 mref' og' bb9 ∧ LT rl' sg' msz' sgm' := by
  obtain ⟨t1, t2, t3, t4⟩ := eT
  rcases h1 with ⟨v9, ⟨j, a1, a2, a3, a4, a5, a6⟩, e1, e2⟩ | ⟨E, ⟨⟨a1, a2⟩, a3⟩, a4⟩
  · rcases h2 with ⟨-, n, -⟩ | ⟨-, -, n, -⟩ | ⟨q0, j', b1, b2, b3, b4, b5, b6⟩
    · exact absurd ⟨j, a1, a2⟩ n
    · omega
    · obtain rfl := nI_inj4 (by omega) (by omega) (a1.symm.trans b1)
      refine ⟨⟨by rw [e1, q0], fun _ => by rw [e2, a4, b4, t3]⟩, by omega, ?_, by omega, by rw [a6, b6, t3, t4]⟩
      rw [a6]
      intro k hk
      unfold va_up
      split
      · exact a2
      · exact t2 k hk
  · have c := thr2 xIA_IS a4
    have hT9 : msz' = msz ∧ sgm' = sgm → LT rl' sg' msz' sgm' := fun q => ⟨by omega, by rw [a2]; exact t2, by omega, by rw [q.2, a2, t4]⟩
    rcases a3 with ⟨e, n⟩ | ⟨e, y, n⟩
    · rcases h2 with ⟨q0, -, q1⟩ | ⟨-, q, -⟩ | ⟨-, j', b1, b2, -⟩
      · exact ⟨agr1 (c.1 e) q0, hT9 q1⟩
      · exact absurd q n
      · exact absurd ⟨j', b1, b2⟩ n
    · rcases h2 with ⟨-, q, -⟩ | ⟨q0, -, -, q1⟩ | ⟨-, j', b1, b2, b3, -⟩
      · exact absurd y q
      · exact ⟨agr2 (c.2 e) q0, hT9 q1⟩
      · omega

theorem tie_clearText {rl : Nat} {sg : Nat → Nat} {msz : Nat} {sgm : Nat → Nat} {kk9 : Int32} {rl' : Nat} {bb9 : Int32} {mref' : Nat} {msz' : Nat} (eT : LT rl sg msz sgm)
    (h1 : kk9 = nI rl ∧ rl' = 0)
    (h2 : bb9 = nI msz ∧ mref' = 0 ∧ msz' = 0) :
    kk9 = bb9 ∧ LT rl' sg msz' sgm := by
  obtain ⟨t1, t2, t3, t4⟩ := eT
  obtain ⟨a1, a2⟩ := h1
  obtain ⟨b1, b2, b3⟩ := h2
  exact ⟨by rw [a1, b1, t3], by omega, t2, by omega, t4⟩

theorem tie_errorPosition {rl : Nat} {sg : Nat → Nat} {msz : Nat} {sgm : Nat → Nat} {kk9 : Int32} {mref' : Nat} {bb9 : Int32} {mleft' : Nat} {fr' : Nat → Int32} (eT : LT rl sg msz sgm)
    (h1 : (∃ e, PB4 rl sg = (false, e, 0, 0, 0, 0) ∧ kk9 = nI e) ∨ ∃ a b c d, PB4 rl sg = (true, 5, a, b, c, d) ∧ ((∃ e, PE (a * b) c (d * b) rl sg 120 5 = some e ∧ kk9 = nI e) ∨ (PE (a * b) c (d * b) rl sg 120 5 = none ∧ kk9 = -1)))
    (h2 : mref' = 0 ∧ RTq msz sgm bb9 mleft' fr') :
    kk9 = bb9 := by
  obtain ⟨t1, t2, t3, t4⟩ := eT
  obtain ⟨-, h2, -⟩ := h2
  rw [t3, t4] at h2
  exact fe_det h1 h2

theorem tie_load {fst : Nat} {wid : Nat} {mid : Nat} {las : Nat} {pat : Nat} {bro : Nat} {mov : Nat} {cnt : Nat} {inp : Nat → Nat} {outs : Nat → Nat} {brd : Nat → Nat} {mvd : Nat → Nat} {got : Nat → Nat} {owe : Nat → Nat} {f : Nat → Int32} {rl : Nat} {sg : Nat → Nat} {msz : Nat} {sgm : Nat → Nat} {ho : Nat} {hs : Nat} {hS : Nat → Nat → Nat} {hT : Nat → Nat → Nat → Nat} {fd : Nat → Int32} {macts : Nat} {sh : Nat → Nat} {zS : Nat → Nat → Nat} {zT : Nat → Nat → Nat → Nat} {fk : Nat → Int32} {sk : Nat → Nat} {x : Int32} {fst' : Nat} {wid' : Nat} {mid' : Nat} {las' : Nat} {pat' : Nat} {bro' : Nat} {mov' : Nat} {cnt' : Nat} {inp' : Nat → Nat} {outs' : Nat → Nat} {brd' : Nat → Nat} {mvd' : Nat → Nat} {got' : Nat → Nat} {owe' : Nat → Nat} {hs' : Nat} {sh' : Nat → Nat} {pfr' : Nat → Nat} {pto' : Nat → Nat} {kk9 : Int32} {og' : Nat → Int64} {bb9 : Int32} {mref' : Nat} {mleft' : Nat} {f' : Nat → Int32} {macts' : Nat} {sk' : Nat → Nat} (eU : LU (SS.mk fst wid mid las pat bro mov cnt inp outs brd mvd got owe) f) (eT : LT rl sg msz sgm) (eH : LH ho hs hS hT fd macts) (eK : LKp sh zS zT fk sk)
    (h1 : (∃ v9, ((∃ a b c d g0 w0 p i k v, PB4 rl sg = (true, 5, a, b, c, d) ∧ PE (a * b) c (d * b) rl sg 120 5 = none ∧ (∀ x, x < 16 → g0 x = 0 ∧ w0 x = 0) ∧ ldQ (a * b) c (d * b) rl sg (SS.mk a b c d 2 0 0 0 inp outs brd mvd g0 w0) i p v k ∧ (v.fst = fst' ∧ v.wid = wid' ∧ v.mid = mid' ∧ v.las = las' ∧ v.pat = pat' ∧ v.bro = bro' ∧ v.mov = mov' ∧ v.cnt = cnt' ∧ v.inp = inp' ∧ v.outs = outs' ∧ v.brd = brd' ∧ v.mvd = mvd' ∧ v.got = got' ∧ v.owe = owe') ∧ (i = 120 ∨ ∃ e, PC (a * b) c (d * b) rl sg p = (false, e, 0, 0, 0)) ∧ i ≤ 120 ∧ v9 = nI k ∧ hs' = 0 ∧ (∀ x, x < 2 → sh' x = 0)) ∧ (∀ c, c < 16 → pfr' c < 65536 ∧ pto' c < 65536)) ∧ kk9 = nI 0 ∧ og' 0 = v9.toInt64) ∨ ∃ E, (((E = xIS ∧ ¬ ∃ a b c d, PB4 rl sg = (true, 5, a, b, c, d) ∧ PE (a * b) c (d * b) rl sg 120 5 = none) ∧ hs' = hs ∧ sh' = sh ∧ fst' = fst ∧ wid' = wid ∧ mid' = mid ∧ las' = las ∧ pat' = pat ∧ bro' = bro ∧ mov' = mov ∧ cnt' = cnt ∧ inp' = inp ∧ outs' = outs ∧ brd' = brd ∧ mvd' = mvd ∧ got' = got ∧ owe' = owe) ∧ (∀ c, c < 16 → pfr' c < 65536 ∧ pto' c < 65536)) ∧ ((E = xIS ∧ kk9 = nI 1)))
    (h2 : LDm msz sgm bb9 mref' mleft' f f' macts macts' sk sk') :
    AGR kk9 mref' og' bb9 ∧ LU (SS.mk fst' wid' mid' las' pat' bro' mov' cnt' inp' outs' brd' mvd' got' owe') f' ∧ FRq pfr' pto' ∧ LH ho hs' hS hT fd macts' ∧ LKp sh' zS zT fk sk' := by
  obtain ⟨t1, t2, t3, t4⟩ := eT
  rcases h1 with ⟨v9, ⟨⟨a, b, c, d, g0, w0, p, i, k, v, hB, hE, hz, hL, ⟨rfl, rfl, rfl, rfl, rfl, rfl, rfl, rfl, rfl, rfl, rfl, rfl, rfl, rfl⟩, hst, hi, e9, ehs, esh⟩, hF⟩, e1, e2⟩ | ⟨E, ⟨⟨⟨eE, hn⟩, rfl, rfl, rfl, rfl, rfl, rfl, rfl, rfl, rfl, rfl, rfl, rfl, rfl, rfl, rfl, rfl⟩, hF⟩, -, e1⟩
  · rcases h2 with ⟨-, ⟨r0, q1, q2⟩, -⟩ | ⟨q0, q1, -, q2, q3, a', b', c', d', i', p', v', hB', hL', hp', hR', hJ'⟩
    · rw [t3, t4] at q1
      exact absurd ⟨a, b, c, d, hB, hE⟩ (fe_no q1 q2)
    · rw [t3, t4] at hB' hL'
      rw [t3] at hp'
      obtain ⟨rfl, rfl, rfl, rfl⟩ := pb4_inj hB hB'
      obtain ⟨g1, g2, g3, g4, g5⟩ := pb4_bd hB
      have hJn := jq_new g1 g2 g3 g4
      have eqv : Eqv (SS.mk a b c d 2 0 0 0 inp outs brd mvd g0 w0) (newS a b c d) := ⟨⟨rfl, rfl, rfl, rfl, rfl, rfl, rfl, rfl⟩, fun c hc => absurd hc (Nat.not_lt_zero _), fun x hx => ⟨(hz x hx).2, (hz x hx).1⟩⟩
      have hJ0 : JQ (SS.mk a b c d 2 0 0 0 inp outs brd mvd g0 w0) := jq_eqv hJn eqv eU.1.1.2.2.2.2.2.2.2.1
      have hJv := ldQ_jq t1 g5 hJ0 hL
      obtain ⟨ev, ek⟩ := ldQ_fin t1 g5 hJ0 hJn eqv hL hL' (ld_stop t1 g5 hL hE hst) hp'
      exact ⟨⟨by rw [e1, q0], fun _ => by rw [e2, e9, q1, ek]⟩, ⟨hJv, rowq_eqv hR' (eqv_symm ev)⟩, hF, lh_none eH.1 ehs q2, fun x hx => ⟨by rw [esh x hx]; decide, by rw [esh x hx, q3 x hx], fun n => absurd (esh x hx) n⟩⟩
  · rcases h2 with ⟨q0, -, rfl, rfl, rfl⟩ | ⟨-, -, q1, -⟩
    · exact ⟨agr1 e1 q0, eU, hF, eH, eK⟩
    · rw [t3, t4] at q1
      exact absurd (fe_ok t1 q1 rfl) hn

theorem tie_about {x : Int32} {fst : Nat} {wid : Nat} {mid : Nat} {las : Nat} {pat : Nat} {bro : Nat} {mov : Nat} {cnt : Nat} {outs : Nat → Nat} {kk9 : Int32} {og' : Nat → Int64} {mref' : Nat} {bb9 : Int32} 
    (h1 : (∃ v9, (∃ k, x = nI k ∧ k < 10 ∧ v9 = nI (abV fst wid mid las pat bro mov cnt outs k)) ∧ kk9 = nI 0 ∧ og' 0 = v9.toInt64) ∨ ∃ E, (E = xIA ∧ ¬ CIn 10 x) ∧ ((E = xIA ∧ kk9 = nI 1)))
    (h2 : (mref' = 1 ∧ ¬ CIn 10 x) ∨ (mref' = 0 ∧ ∃ k, x = nI k ∧ k < 10 ∧ bb9 = nI (abV fst wid mid las pat bro mov cnt outs k))) :
    AGR kk9 mref' og' bb9 := by
  refine tie_1 (P := fun v => ∃ k, x = nI k ∧ k < 10 ∧ v = nI (abV fst wid mid las pat bro mov cnt outs k)) (Q := fun v => ∃ k, x = nI k ∧ k < 10 ∧ v = nI (abV fst wid mid las pat bro mov cnt outs k)) (C := CIn 10 x) (fun v ⟨k, q1, q2, _⟩ => ⟨k, q1, q2⟩) (fun ⟨k, q1, q2, _⟩ => ⟨k, q1, q2⟩) ?_ h1 h2
  rintro v ⟨k, q1, q2, q3⟩ ⟨k', p1, p2, p3⟩
  obtain rfl := nI_inj4 (by omega) (by omega) (q1.symm.trans p1)
  rw [q3, p3]

theorem tie_call {fst : Nat} {wid : Nat} {mid : Nat} {las : Nat} {pat : Nat} {bro : Nat} {mov : Nat} {cnt : Nat} {inp : Nat → Nat} {outs : Nat → Nat} {brd : Nat → Nat} {mvd : Nat → Nat} {got : Nat → Nat} {owe : Nat → Nat} {f : Nat → Int32} {x : Int32} {w : Int32} {kk9 : Int32} {og' : Nat → Int64} {mref' : Nat} {bb9 : Int32} (eU : LU (SS.mk fst wid mid las pat bro mov cnt inp outs brd mvd got owe) f)
    (h1 : (∃ v9, (∃ j k, x = nI j ∧ j < cnt ∧ w = nI k ∧ k < 5 ∧ v9 = nI (clV wid inp outs brd mvd j k)) ∧ kk9 = nI 0 ∧ og' 0 = v9.toInt64) ∨ ∃ E, ((E = xIO ∧ ¬ CIn cnt x) ∨ (E = xIA ∧ CIn cnt x ∧ ¬ CIn 5 w)) ∧ ((E = xIO ∧ kk9 = nI 1) ∨ (E = xIA ∧ kk9 = nI 2)))
    (h2 : (mref' = 1 ∧ ¬ CIn cnt x) ∨ (mref' = 2 ∧ CIn cnt x ∧ ¬ CIn 5 w) ∨ (mref' = 0 ∧ ∃ j k, x = nI j ∧ j < cnt ∧ w = nI k ∧ k < 5 ∧ bb9 = nI (clV wid inp outs brd mvd j k))) :
    AGR kk9 mref' og' bb9 := by
  have hc : cnt ≤ 16 := (bd_of eU.1).2.2.2.2.2.2.1
  rcases h1 with ⟨v9, ⟨j, k, a1, a2, a3, a4, a5⟩, e1, e2⟩ | ⟨E, a1, a2⟩
  · rcases h2 with ⟨-, n⟩ | ⟨-, -, n⟩ | ⟨q0, j', k', b1, b2, b3, b4, b5⟩
    · exact absurd ⟨j, a1, a2⟩ n
    · exact absurd ⟨k, a3, a4⟩ n
    · obtain rfl := nI_inj4 (by omega) (by omega) (a1.symm.trans b1)
      obtain rfl := nI_inj4 (by omega) (by omega) (a3.symm.trans b3)
      exact ⟨by rw [e1, q0], fun _ => by rw [e2, a5, b5]⟩
  · have c := thr2 xIO_IA a2
    rcases a1 with ⟨e, n⟩ | ⟨e, y, n⟩
    · rcases h2 with ⟨q0, -⟩ | ⟨-, q, -⟩ | ⟨-, j', k', b1, b2, -⟩
      · exact agr1 (c.1 e) q0
      · exact absurd q n
      · exact absurd ⟨j', b1, b2⟩ n
    · rcases h2 with ⟨-, q⟩ | ⟨q0, -⟩ | ⟨-, j', k', -, -, b3, b4, -⟩
      · exact absurd y q
      · exact agr2 (c.2 e) q0
      · exact absurd ⟨k', b3, b4⟩ n

theorem tie_link {fst : Nat} {wid : Nat} {mid : Nat} {las : Nat} {pat : Nat} {bro : Nat} {mov : Nat} {cnt : Nat} {inp : Nat → Nat} {outs : Nat → Nat} {brd : Nat → Nat} {mvd : Nat → Nat} {got : Nat → Nat} {owe : Nat → Nat} {f : Nat → Int32} {x : Int32} {w : Int32} {lb : Nat} {kk9 : Int32} {og' : Nat → Int64} {mref' : Nat} {bb9 : Int32} (eU : LU (SS.mk fst wid mid las pat bro mov cnt inp outs brd mvd got owe) f)
    (h1 : (∃ v9, (∃ mb bd, x = nI mb ∧ mb < mid ∧ w = nI bd ∧ bd < (if lb = 0 then fst else las) ∧ (lb = 0 → ixQ cnt (fun k => brd k = mb ∧ inp k / wid = bd) v9) ∧ (¬ lb = 0 → ixQ cnt (fun k => brd k = mb ∧ (lbs wid (outs k)).testBit bd = true) v9)) ∧ kk9 = nI 0 ∧ og' 0 = v9.toInt64) ∨ ∃ E, (E = xIO ∧ ¬ (CIn mid x ∧ CIn (if lb = 0 then fst else las) w)) ∧ ((E = xIO ∧ kk9 = nI 1)))
    (h2 : (mref' = 1 ∧ ¬ (CIn mid x ∧ CIn (if lb = 0 then fst else las) w)) ∨ (mref' = 0 ∧ ∃ mb bd, x = nI mb ∧ mb < mid ∧ w = nI bd ∧ bd < (if lb = 0 then fst else las) ∧ (lb = 0 → lxQ cnt (fun k => brd k = mb ∧ inp k / wid = bd) bb9) ∧ (¬ lb = 0 → lxQ cnt (fun k => brd k = mb ∧ (lbs wid (outs k)).testBit bd = true) bb9))) :
    AGR kk9 mref' og' bb9 := by
  obtain ⟨⟨g1, g2, g3, g4, g5, g6, g7, g8, g9, g10, g11⟩, -⟩ := eU.1
  have g11' : Ok1 cnt wid inp outs brd := g11
  have hm : mid ≤ 4 := g3.2
  have hf : fst ≤ 4 := g1.2
  have hl : las ≤ 4 := g4.2
  have hc : cnt ≤ 16 := g7
  refine tie_1 (P := fun v => ∃ mb bd, x = nI mb ∧ mb < mid ∧ w = nI bd ∧ bd < (if lb = 0 then fst else las) ∧ (lb = 0 → ixQ cnt (fun k => brd k = mb ∧ inp k / wid = bd) v) ∧ (¬ lb = 0 → ixQ cnt (fun k => brd k = mb ∧ (lbs wid (outs k)).testBit bd = true) v)) (Q := fun v => ∃ mb bd, x = nI mb ∧ mb < mid ∧ w = nI bd ∧ bd < (if lb = 0 then fst else las) ∧ (lb = 0 → lxQ cnt (fun k => brd k = mb ∧ inp k / wid = bd) v) ∧ (¬ lb = 0 → lxQ cnt (fun k => brd k = mb ∧ (lbs wid (outs k)).testBit bd = true) v)) (C := CIn mid x ∧ CIn (if lb = 0 then fst else las) w) (fun v ⟨mb, bd, q1, q2, q3, q4, _⟩ => ⟨⟨mb, q1, q2⟩, bd, q3, q4⟩) (fun ⟨mb, bd, q1, q2, q3, q4, _⟩ => ⟨⟨mb, q1, q2⟩, bd, q3, q4⟩) ?_ h1 h2
  rintro v ⟨mb, bd, q1, q2, q3, q4, q5, q6⟩ ⟨mb', bd', p1, p2, p3, p4, p5, p6⟩
  have hb1 : bd < 5 := by split at q4 <;> omega
  have hb2 : bd' < 5 := by split at p4 <;> omega
  obtain rfl := nI_inj4 (by omega) (by omega) (q1.symm.trans p1)
  obtain rfl := nI_inj4 (by omega) (by omega) (q3.symm.trans p3)
  by_cases h : lb = 0
  · refine ix_lx ?_ (q5 h) (p5 h)
    rintro i j hi hj ⟨c1, c2⟩ ⟨d1, d2⟩
    refine Classical.byContradiction fun ne => ?_
    have := (g11' i j hi hj ne (c1.trans d1.symm)).1
    rw [c2, d2, Nat.and_self] at this
    exact absurd this (Nat.ne_of_gt (Nat.two_pow_pos _))
  · refine ix_lx ?_ (q6 h) (p6 h)
    rintro i j hi hj ⟨c1, c2⟩ ⟨d1, d2⟩
    refine Classical.byContradiction fun ne => ?_
    have := congrArg (fun z => z.testBit bd) (g11' i j hi hj ne (c1.trans d1.symm)).2
    simp only [Nat.testBit_and, c2, d2, Nat.zero_testBit] at this
    cases this

theorem tie_at {fst : Nat} {wid : Nat} {mid : Nat} {las : Nat} {pat : Nat} {bro : Nat} {mov : Nat} {cnt : Nat} {inp : Nat → Nat} {outs : Nat → Nat} {brd : Nat → Nat} {mvd : Nat → Nat} {got : Nat → Nat} {owe : Nat → Nat} {f : Nat → Int32} {x : Int32} {lb : Nat} {kk9 : Int32} {og' : Nat → Int64} {mref' : Nat} {bb9 : Int32} (eU : LU (SS.mk fst wid mid las pat bro mov cnt inp outs brd mvd got owe) f)
    (h1 : (∃ v9, (∃ j, x = nI j ∧ j < (if lb = 0 then fst * wid else las * wid) ∧ (lb = 0 → ixQ cnt (fun k => inp k = j) v9) ∧ (¬ lb = 0 → ixQ cnt (fun k => (outs k).testBit j = true) v9)) ∧ kk9 = nI 0 ∧ og' 0 = v9.toInt64) ∨ ∃ E, (E = xIO ∧ ¬ CIn (if lb = 0 then fst * wid else las * wid) x) ∧ ((E = xIO ∧ kk9 = nI 1)))
    (h2 : (mref' = 1 ∧ ¬ CIn (if lb = 0 then fst * wid else las * wid) x) ∨ (mref' = 0 ∧ ∃ j, x = nI j ∧ j < (if lb = 0 then fst * wid else las * wid) ∧ (lb = 0 → lxQ cnt (fun k => inp k = j) bb9) ∧ (¬ lb = 0 → lxQ cnt (fun k => (outs k).testBit j = true) bb9))) :
    AGR kk9 mref' og' bb9 := by
  obtain ⟨⟨g1, g2, g3, g4, g5, g6, g7, g8, g9, g10, g11⟩, -⟩ := eU.1
  have hf : fst * wid ≤ 16 := mul16 g1.2 g2.2
  have hl : las * wid ≤ 16 := mul16 g4.2 g2.2
  refine tie_1 (P := fun v => ∃ j, x = nI j ∧ j < (if lb = 0 then fst * wid else las * wid) ∧ (lb = 0 → ixQ cnt (fun k => inp k = j) v) ∧ (¬ lb = 0 → ixQ cnt (fun k => (outs k).testBit j = true) v)) (Q := fun v => ∃ j, x = nI j ∧ j < (if lb = 0 then fst * wid else las * wid) ∧ (lb = 0 → lxQ cnt (fun k => inp k = j) v) ∧ (¬ lb = 0 → lxQ cnt (fun k => (outs k).testBit j = true) v)) (C := CIn (if lb = 0 then fst * wid else las * wid) x) (fun v ⟨j, q1, q2, _⟩ => ⟨j, q1, q2⟩) (fun ⟨j, q1, q2, _⟩ => ⟨j, q1, q2⟩) ?_ h1 h2
  rintro v ⟨j, q1, q2, q3, q4⟩ ⟨j', p1, p2, p3, p4⟩
  have hb1 : j < 17 := by split at q2 <;> omega
  have hb2 : j' < 17 := by split at p2 <;> omega
  obtain rfl := nI_inj4 (by omega) (by omega) (q1.symm.trans p1)
  by_cases h : lb = 0
  · refine ix_lx ?_ (q3 h) (p3 h)
    intro i k hi hk c1 d1
    exact Classical.byContradiction fun ne => (g10 i k hi hk ne).1 (c1.trans d1.symm)
  · refine ix_lx ?_ (q4 h) (p4 h)
    intro i k hi hk c1 d1
    refine Classical.byContradiction fun ne => ?_
    have e9 : outs i &&& outs k = 0 := (g10 i k hi hk ne).2
    have := congrArg (fun z => z.testBit j) e9
    simp only [Nat.testBit_and, c1, d1, Nat.zero_testBit] at this
    cases this

theorem tie_thanks {fst : Nat} {wid : Nat} {mid : Nat} {las : Nat} {pat : Nat} {bro : Nat} {mov : Nat} {cnt : Nat} {inp : Nat → Nat} {outs : Nat → Nat} {brd : Nat → Nat} {mvd : Nat → Nat} {got : Nat → Nat} {owe : Nat → Nat} {f : Nat → Int32} {x : Int32} {lb : Nat} {kk9 : Int32} {og' : Nat → Int64} {mref' : Nat} {bb9 : Int32} (eU : LU (SS.mk fst wid mid las pat bro mov cnt inp outs brd mvd got owe) f)
    (h1 : (∃ v9, (∃ j, x = nI j ∧ j < fst * wid ∧ v9 = nI (if lb = 0 then got j else owe j)) ∧ kk9 = nI 0 ∧ og' 0 = v9.toInt64) ∨ ∃ E, (E = xIO ∧ ¬ CIn (fst * wid) x) ∧ ((E = xIO ∧ kk9 = nI 1)))
    (h2 : (mref' = 1 ∧ ¬ CIn (fst * wid) x) ∨ (mref' = 0 ∧ ∃ j, x = nI j ∧ j < fst * wid ∧ bb9 = nI (if lb = 0 then got j else owe j))) :
    AGR kk9 mref' og' bb9 := by
  obtain ⟨⟨g1, g2, g3, g4, g5, g6, g7, g8, g9, g10, g11⟩, -⟩ := eU.1
  have hf : fst * wid ≤ 16 := mul16 g1.2 g2.2
  refine tie_1 (P := fun v => ∃ j, x = nI j ∧ j < fst * wid ∧ v = nI (if lb = 0 then got j else owe j)) (Q := fun v => ∃ j, x = nI j ∧ j < fst * wid ∧ v = nI (if lb = 0 then got j else owe j)) (C := CIn (fst * wid) x) (fun v ⟨j, q1, q2, _⟩ => ⟨j, q1, q2⟩) (fun ⟨j, q1, q2, _⟩ => ⟨j, q1, q2⟩) ?_ h1 h2
  rintro v ⟨j, q1, q2, q3⟩ ⟨j', p1, p2, p3⟩
  obtain rfl := nI_inj4 (by omega) (by omega) (q1.symm.trans p1)
  rw [q3, p3]

theorem tie_connect {fst : Nat} {wid : Nat} {mid : Nat} {las : Nat} {pat : Nat} {bro : Nat} {mov : Nat} {cnt : Nat} {inp : Nat → Nat} {outs : Nat → Nat} {brd : Nat → Nat} {mvd : Nat → Nat} {got : Nat → Nat} {owe : Nat → Nat} {f : Nat → Int32} {ho : Nat} {hs : Nat} {hS : Nat → Nat → Nat} {hT : Nat → Nat → Nat → Nat} {fd : Nat → Int32} {macts : Nat} {x : Int32} {y : Int32} {mov' : Nat} {cnt' : Nat} {inp' : Nat → Nat} {outs' : Nat → Nat} {brd' : Nat → Nat} {mvd' : Nat → Nat} {got' : Nat → Nat} {owe' : Nat → Nat} {pfr' : Nat → Nat} {pto' : Nat → Nat} {ho' : Nat} {hs' : Nat} {kk9 : Int32} {og' : Nat → Int64} {mref' : Nat} {bb9 : Int32} {f' : Nat → Int32} {fd' : Nat → Int32} {macts' : Nat} (eU : LU (SS.mk fst wid mid las pat bro mov cnt inp outs brd mvd got owe) f) (eH : LH ho hs hS hT fd macts)
    (h1 : (∃ v9, (∃ r0, v9 = r0 ∧ ACq fst wid mid las pat bro mov cnt inp outs brd mvd got owe x y r0 mov' cnt' inp' outs' brd' mvd' got' owe' ∧ (∀ c, c < 16 → pfr' c < 65536 ∧ pto' c < 65536) ∧ ¬ r0 = -2 ∧ ¬ r0 = -3 ∧ KN ho hs ho' hs') ∧ kk9 = nI 0 ∧ og' 0 = v9.toInt64) ∨ ∃ E, (∃ r0, ACq fst wid mid las pat bro mov cnt inp outs brd mvd got owe x y r0 mov' cnt' inp' outs' brd' mvd' got' owe' ∧ (∀ c, c < 16 → pfr' c < 65536 ∧ pto' c < 65536) ∧ (ho' = ho ∧ hs' = hs) ∧ XE E r0) ∧ ((E = xIO ∧ kk9 = nI 1) ∨ (E = xIS ∧ kk9 = nI 2)))
    (h2 : ∃ r0 v, ACs (SS.mk fst wid mid las pat bro mov cnt inp outs brd mvd got owe) x y r0 v ∧ MA mref' bb9 r0 v f fd macts f' fd' macts') :
    AGR kk9 mref' og' bb9 ∧ LU (SS.mk fst wid mid las pat bro mov' cnt' inp' outs' brd' mvd' got' owe') f' ∧ FRq pfr' pto' ∧ LH ho' hs' (hup hS ((ho + hs) % 15) (mkI fst wid mid las pat bro mov cnt)) (hup hT ((ho + hs) % 15) (mkT inp outs brd mvd got owe)) fd' macts' := by
  have key := tie_act (a := mkI fst wid mid las pat bro mov cnt) (b := mkT inp outs brd mvd got owe) (v1 := (SS.mk fst wid mid las pat bro mov' cnt' inp' outs' brd' mvd' got' owe')) (k := kk9) (og' := og') (ho' := ho') (hs' := hs') (f' := f') (fd' := fd') (mref' := mref') (macts' := macts') (rb := bb9) (REL := fun r v => ACs (SS.mk fst wid mid las pat bro mov cnt inp outs brd mvd got owe) x y r v) eU eH (fun r1 r2 v w p q => acs_det eU.1 eU.1 (eqv_refl _) p q) (fun r v q => jq_ac eU.1 q) (fun r v q => acs_same eU.1.1.2.2.2.2.1 q)
  rcases h1 with ⟨v9, ⟨r0, rfl, a1, hF, n2, n3, hk⟩, e1, e2⟩ | ⟨E, ⟨r0, a1, hF, a3, hx⟩, a5⟩
  · obtain ⟨q1, q2, q3⟩ := key (Or.inl ⟨_, ⟨a1, rfl, rfl, rfl, rfl, rfl, rfl⟩, n2, n3, hk, e1, e2⟩) h2
    exact ⟨q1, q2, hF, q3⟩
  · obtain ⟨q1, q2, q3⟩ := key (Or.inr ⟨E, r0, ⟨a1, rfl, rfl, rfl, rfl, rfl, rfl⟩, a3, hx, a5⟩) h2
    exact ⟨q1, q2, hF, q3⟩

theorem tie_join {fst : Nat} {wid : Nat} {mid : Nat} {las : Nat} {pat : Nat} {bro : Nat} {mov : Nat} {cnt : Nat} {inp : Nat → Nat} {outs : Nat → Nat} {brd : Nat → Nat} {mvd : Nat → Nat} {got : Nat → Nat} {owe : Nat → Nat} {f : Nat → Int32} {ho : Nat} {hs : Nat} {hS : Nat → Nat → Nat} {hT : Nat → Nat → Nat → Nat} {fd : Nat → Int32} {macts : Nat} {x : Int32} {y : Int32} {mov' : Nat} {cnt' : Nat} {inp' : Nat → Nat} {outs' : Nat → Nat} {brd' : Nat → Nat} {mvd' : Nat → Nat} {got' : Nat → Nat} {owe' : Nat → Nat} {pfr' : Nat → Nat} {pto' : Nat → Nat} {ho' : Nat} {hs' : Nat} {kk9 : Int32} {og' : Nat → Int64} {mref' : Nat} {bb9 : Int32} {f' : Nat → Int32} {fd' : Nat → Int32} {macts' : Nat} (eU : LU (SS.mk fst wid mid las pat bro mov cnt inp outs brd mvd got owe) f) (eH : LH ho hs hS hT fd macts)
    (h1 : (∃ v9, (∃ r0, v9 = r0 ∧ AOq wid mid las pat bro mov cnt inp outs brd mvd got owe x y r0 mov' cnt' inp' outs' brd' mvd' got' owe' ∧ (∀ c, c < 16 → pfr' c < 65536 ∧ pto' c < 65536) ∧ ¬ r0 = -2 ∧ ¬ r0 = -3 ∧ KN ho hs ho' hs') ∧ kk9 = nI 0 ∧ og' 0 = v9.toInt64) ∨ ∃ E, (∃ r0, AOq wid mid las pat bro mov cnt inp outs brd mvd got owe x y r0 mov' cnt' inp' outs' brd' mvd' got' owe' ∧ (∀ c, c < 16 → pfr' c < 65536 ∧ pto' c < 65536) ∧ (ho' = ho ∧ hs' = hs) ∧ XE E r0) ∧ ((E = xIO ∧ kk9 = nI 1) ∨ (E = xIS ∧ kk9 = nI 2)))
    (h2 : ∃ r0 v, AOs (SS.mk fst wid mid las pat bro mov cnt inp outs brd mvd got owe) x y r0 v ∧ MA mref' bb9 r0 v f fd macts f' fd' macts') :
    AGR kk9 mref' og' bb9 ∧ LU (SS.mk fst wid mid las pat bro mov' cnt' inp' outs' brd' mvd' got' owe') f' ∧ FRq pfr' pto' ∧ LH ho' hs' (hup hS ((ho + hs) % 15) (mkI fst wid mid las pat bro mov cnt)) (hup hT ((ho + hs) % 15) (mkT inp outs brd mvd got owe)) fd' macts' := by
  have key := tie_act (a := mkI fst wid mid las pat bro mov cnt) (b := mkT inp outs brd mvd got owe) (v1 := (SS.mk fst wid mid las pat bro mov' cnt' inp' outs' brd' mvd' got' owe')) (k := kk9) (og' := og') (ho' := ho') (hs' := hs') (f' := f') (fd' := fd') (mref' := mref') (macts' := macts') (rb := bb9) (REL := fun r v => AOs (SS.mk fst wid mid las pat bro mov cnt inp outs brd mvd got owe) x y r v) eU eH (fun r1 r2 v w p q => aos_det eU.1 eU.1 (eqv_refl _) p q) (fun r v q => jq_ao eU.1 q) (fun r v q => aos_same eU.1.1.2.2.2.2.1 q)
  rcases h1 with ⟨v9, ⟨r0, rfl, a1, hF, n2, n3, hk⟩, e1, e2⟩ | ⟨E, ⟨r0, a1, hF, a3, hx⟩, a5⟩
  · obtain ⟨q1, q2, q3⟩ := key (Or.inl ⟨_, ⟨a1, rfl, rfl, rfl, rfl, rfl, rfl⟩, n2, n3, hk, e1, e2⟩) h2
    exact ⟨q1, q2, hF, q3⟩
  · obtain ⟨q1, q2, q3⟩ := key (Or.inr ⟨E, r0, ⟨a1, rfl, rfl, rfl, rfl, rfl, rfl⟩, a3, hx, a5⟩) h2
    exact ⟨q1, q2, hF, q3⟩

theorem tie_hang {fst : Nat} {wid : Nat} {mid : Nat} {las : Nat} {pat : Nat} {bro : Nat} {mov : Nat} {cnt : Nat} {inp : Nat → Nat} {outs : Nat → Nat} {brd : Nat → Nat} {mvd : Nat → Nat} {got : Nat → Nat} {owe : Nat → Nat} {f : Nat → Int32} {ho : Nat} {hs : Nat} {hS : Nat → Nat → Nat} {hT : Nat → Nat → Nat → Nat} {fd : Nat → Int32} {macts : Nat} {x : Int32} {cnt' : Nat} {inp' : Nat → Nat} {outs' : Nat → Nat} {brd' : Nat → Nat} {mvd' : Nat → Nat} {ho' : Nat} {hs' : Nat} {kk9 : Int32} {og' : Nat → Int64} {mref' : Nat} {bb9 : Int32} {f' : Nat → Int32} {fd' : Nat → Int32} {macts' : Nat} (eU : LU (SS.mk fst wid mid las pat bro mov cnt inp outs brd mvd got owe) f) (eH : LH ho hs hS hT fd macts)
    (h1 : (∃ v9, (∃ r0, v9 = r0 ∧ HGq cnt inp outs brd mvd x r0 cnt' inp' outs' brd' mvd' ∧ ¬ r0 = -2 ∧ ¬ r0 = -3 ∧ KN ho hs ho' hs') ∧ kk9 = nI 0 ∧ og' 0 = v9.toInt64) ∨ ∃ E, (∃ r0, HGq cnt inp outs brd mvd x r0 cnt' inp' outs' brd' mvd' ∧ (ho' = ho ∧ hs' = hs) ∧ XE E r0) ∧ ((E = xIO ∧ kk9 = nI 1)))
    (h2 : ∃ r0 v, HGs (SS.mk fst wid mid las pat bro mov cnt inp outs brd mvd got owe) x r0 v ∧ MA mref' bb9 r0 v f fd macts f' fd' macts') :
    AGR kk9 mref' og' bb9 ∧ LU (SS.mk fst wid mid las pat bro mov cnt' inp' outs' brd' mvd' got owe) f' ∧ LH ho' hs' (hup hS ((ho + hs) % 15) (mkI fst wid mid las pat bro mov cnt)) (hup hT ((ho + hs) % 15) (mkT inp outs brd mvd got owe)) fd' macts' := by
  have key := tie_act (a := mkI fst wid mid las pat bro mov cnt) (b := mkT inp outs brd mvd got owe) (v1 := (SS.mk fst wid mid las pat bro mov cnt' inp' outs' brd' mvd' got owe)) (k := kk9) (og' := og') (ho' := ho') (hs' := hs') (f' := f') (fd' := fd') (mref' := mref') (macts' := macts') (rb := bb9) (REL := fun r v => HGs (SS.mk fst wid mid las pat bro mov cnt inp outs brd mvd got owe) x r v) eU eH (fun r1 r2 v w p q => hgs_det eU.1 eU.1 (eqv_refl _) p q) (fun r v q => jq_hg eU.1 q) (fun r v q => hgs_same (bd_of eU.1).2.2.2.2.2.2.1 q)
  rcases h1 with ⟨v9, ⟨r0, rfl, a1, n2, n3, hk⟩, e1, e2⟩ | ⟨E, ⟨r0, a1, a3, hx⟩, a5⟩
  · exact key (Or.inl ⟨_, ⟨a1, rfl, rfl, rfl, rfl, rfl, rfl, rfl, rfl, rfl⟩, n2, n3, hk, e1, e2⟩) h2
  · exact key (Or.inr ⟨E, r0, ⟨a1, rfl, rfl, rfl, rfl, rfl, rfl, rfl, rfl, rfl⟩, a3, hx, Or.inl a5⟩) h2

theorem tie_drop {fst : Nat} {wid : Nat} {mid : Nat} {las : Nat} {pat : Nat} {bro : Nat} {mov : Nat} {cnt : Nat} {inp : Nat → Nat} {outs : Nat → Nat} {brd : Nat → Nat} {mvd : Nat → Nat} {got : Nat → Nat} {owe : Nat → Nat} {f : Nat → Int32} {ho : Nat} {hs : Nat} {hS : Nat → Nat → Nat} {hT : Nat → Nat → Nat → Nat} {fd : Nat → Int32} {macts : Nat} {y : Int32} {outs' : Nat → Nat} {ho' : Nat} {hs' : Nat} {kk9 : Int32} {og' : Nat → Int64} {mref' : Nat} {bb9 : Int32} {f' : Nat → Int32} {fd' : Nat → Int32} {macts' : Nat} (eU : LU (SS.mk fst wid mid las pat bro mov cnt inp outs brd mvd got owe) f) (eH : LH ho hs hS hT fd macts)
    (h1 : (∃ v9, (∃ r0, v9 = r0 ∧ DRq las wid cnt outs y r0 outs' ∧ ¬ r0 = -2 ∧ ¬ r0 = -3 ∧ KN ho hs ho' hs') ∧ kk9 = nI 0 ∧ og' 0 = v9.toInt64) ∨ ∃ E, (∃ r0, DRq las wid cnt outs y r0 outs' ∧ (ho' = ho ∧ hs' = hs) ∧ XE E r0) ∧ ((E = xIO ∧ kk9 = nI 1) ∨ (E = xIS ∧ kk9 = nI 2)))
    (h2 : ∃ r0 v, DRs (SS.mk fst wid mid las pat bro mov cnt inp outs brd mvd got owe) y r0 v ∧ MA mref' bb9 r0 v f fd macts f' fd' macts') :
    AGR kk9 mref' og' bb9 ∧ LU (SS.mk fst wid mid las pat bro mov cnt inp outs' brd mvd got owe) f' ∧ LH ho' hs' (hup hS ((ho + hs) % 15) (mkI fst wid mid las pat bro mov cnt)) (hup hT ((ho + hs) % 15) (mkT inp outs brd mvd got owe)) fd' macts' := by
  have key := tie_act (a := mkI fst wid mid las pat bro mov cnt) (b := mkT inp outs brd mvd got owe) (v1 := (SS.mk fst wid mid las pat bro mov cnt inp outs' brd mvd got owe)) (k := kk9) (og' := og') (ho' := ho') (hs' := hs') (f' := f') (fd' := fd') (mref' := mref') (macts' := macts') (rb := bb9) (REL := fun r v => DRs (SS.mk fst wid mid las pat bro mov cnt inp outs brd mvd got owe) y r v) eU eH (fun r1 r2 v w p q => drs_det eU.1 eU.1 (eqv_refl _) p q) (fun r v q => jq_dr eU.1 q) (fun r v q => drs_same q)
  rcases h1 with ⟨v9, ⟨r0, rfl, a1, n2, n3, hk⟩, e1, e2⟩ | ⟨E, ⟨r0, a1, a3, hx⟩, a5⟩
  · exact key (Or.inl ⟨_, ⟨a1, ⟨rfl, rfl, rfl, rfl, rfl, rfl, rfl⟩, rfl, rfl, rfl, rfl, rfl, rfl⟩, n2, n3, hk, e1, e2⟩) h2
  · exact key (Or.inr ⟨E, r0, ⟨a1, ⟨rfl, rfl, rfl, rfl, rfl, rfl, rfl⟩, rfl, rfl, rfl, rfl, rfl, rfl⟩, a3, hx, a5⟩) h2

theorem tie_setBroken {fst : Nat} {wid : Nat} {mid : Nat} {las : Nat} {pat : Nat} {bro : Nat} {mov : Nat} {cnt : Nat} {inp : Nat → Nat} {outs : Nat → Nat} {brd : Nat → Nat} {mvd : Nat → Nat} {got : Nat → Nat} {owe : Nat → Nat} {f : Nat → Int32} {ho : Nat} {hs : Nat} {hS : Nat → Nat → Nat} {hT : Nat → Nat → Nat → Nat} {fd : Nat → Int32} {macts : Nat} {is : Nat} {x : Int32} {bro' : Nat} {ho' : Nat} {hs' : Nat} {kk9 : Int32} {og' : Nat → Int64} {mref' : Nat} {bb9 : Int32} {f' : Nat → Int32} {fd' : Nat → Int32} {macts' : Nat} (eU : LU (SS.mk fst wid mid las pat bro mov cnt inp outs brd mvd got owe) f) (eH : LH ho hs hS hT fd macts) (hlb : is < 2)
    (h1 : (∃ v9, (∃ r0, v9 = r0 ∧ BKq mid bro cnt brd x is r0 bro' ∧ ¬ r0 = -2 ∧ ¬ r0 = -3 ∧ KN ho hs ho' hs') ∧ kk9 = nI 0 ∧ og' 0 = v9.toInt64) ∨ ∃ E, (∃ r0, BKq mid bro cnt brd x is r0 bro' ∧ (ho' = ho ∧ hs' = hs) ∧ XE E r0) ∧ ((E = xIO ∧ kk9 = nI 1) ∨ (E = xIS ∧ kk9 = nI 2)))
    (h2 : ∃ r0 v, BKs (SS.mk fst wid mid las pat bro mov cnt inp outs brd mvd got owe) x is r0 v ∧ MA mref' bb9 r0 v f fd macts f' fd' macts') :
    AGR kk9 mref' og' bb9 ∧ LU (SS.mk fst wid mid las pat bro' mov cnt inp outs brd mvd got owe) f' ∧ LH ho' hs' (hup hS ((ho + hs) % 15) (mkI fst wid mid las pat bro mov cnt)) (hup hT ((ho + hs) % 15) (mkT inp outs brd mvd got owe)) fd' macts' := by
  have key := tie_act (a := mkI fst wid mid las pat bro mov cnt) (b := mkT inp outs brd mvd got owe) (v1 := (SS.mk fst wid mid las pat bro' mov cnt inp outs brd mvd got owe)) (k := kk9) (og' := og') (ho' := ho') (hs' := hs') (f' := f') (fd' := fd') (mref' := mref') (macts' := macts') (rb := bb9) (REL := fun r v => BKs (SS.mk fst wid mid las pat bro mov cnt inp outs brd mvd got owe) x is r v) eU eH (fun r1 r2 v w p q => bks_det eU.1 (eqv_refl _) p q) (fun r v q => jq_bk eU.1 hlb q) (fun r v q => bks_same q)
  rcases h1 with ⟨v9, ⟨r0, rfl, a1, n2, n3, hk⟩, e1, e2⟩ | ⟨E, ⟨r0, a1, a3, hx⟩, a5⟩
  · exact key (Or.inl ⟨_, ⟨a1, ⟨rfl, rfl, rfl, rfl, rfl, rfl, rfl, rfl⟩, rfl, rfl, rfl, rfl, rfl⟩, n2, n3, hk, e1, e2⟩) h2
  · exact key (Or.inr ⟨E, r0, ⟨a1, ⟨rfl, rfl, rfl, rfl, rfl, rfl, rfl, rfl⟩, rfl, rfl, rfl, rfl, rfl⟩, a3, hx, a5⟩) h2

theorem tie_setPatience {fst : Nat} {wid : Nat} {mid : Nat} {las : Nat} {pat : Nat} {bro : Nat} {mov : Nat} {cnt : Nat} {inp : Nat → Nat} {outs : Nat → Nat} {brd : Nat → Nat} {mvd : Nat → Nat} {got : Nat → Nat} {owe : Nat → Nat} {f : Nat → Int32} {ho : Nat} {hs : Nat} {hS : Nat → Nat → Nat} {hT : Nat → Nat → Nat → Nat} {fd : Nat → Int32} {macts : Nat} {x : Int32} {pat' : Nat} {ho' : Nat} {hs' : Nat} {hS' : Nat → Nat → Nat} {hT' : Nat → Nat → Nat → Nat} {kk9 : Int32} {og' : Nat → Int64} {mref' : Nat} {f' : Nat → Int32} {fd' : Nat → Int32} {macts' : Nat} {bb9 : Int32} (eU : LU (SS.mk fst wid mid las pat bro mov cnt inp outs brd mvd got owe) f) (eH : LH ho hs hS hT fd macts)
    (h1 : (∃ v9, (∃ j, x = nI j ∧ j ≤ 3 ∧ v9 = nI pat ∧ pat' = j ∧ KN ho hs ho' hs' ∧ hS' = hup hS ((ho + hs) % 15) (mkI fst wid mid las pat bro mov cnt) ∧ hT' = hup hT ((ho + hs) % 15) (mkT inp outs brd mvd got owe)) ∧ kk9 = nI 0 ∧ og' 0 = v9.toInt64) ∨ ∃ E, (E = xIA ∧ ¬ CIn 4 x ∧ ho' = ho ∧ hs' = hs ∧ pat' = pat ∧ hS' = hS ∧ hT' = hT) ∧ ((E = xIA ∧ kk9 = nI 1)))
    (h2 : (mref' = 1 ∧ ¬ CIn 4 x ∧ f' = f ∧ fd' = fd ∧ macts' = macts) ∨ (mref' = 0 ∧ ∃ j, x = nI j ∧ j ≤ 3 ∧ bb9 = nI pat ∧ RowQ f' (patU (SS.mk fst wid mid las pat bro mov cnt inp outs brd mvd got owe) j) ∧ RMq macts f fd macts' fd')) :
    AGR kk9 mref' og' bb9 ∧ LU (SS.mk fst wid mid las pat' bro mov cnt inp outs brd mvd got owe) f' ∧ LH ho' hs' hS' hT' fd' macts' := by
  rcases h1 with ⟨v9, ⟨j, a1, a2, a3, rfl, hk, rfl, rfl⟩, e1, e2⟩ | ⟨E, ⟨eE, n, rfl, rfl, rfl, rfl, rfl⟩, -, e1⟩
  · rcases h2 with ⟨-, n, -⟩ | ⟨q0, j', b1, b2, b3, b4, b5⟩
    · exact absurd ⟨_, a1, by omega⟩ n
    · obtain rfl := nI_inj4 (by omega) (by omega) (a1.symm.trans b1)
      exact ⟨⟨by rw [e1, q0], fun _ => by rw [e2, a3, b3]⟩, ⟨jq_pat eU.1 a2, b4⟩, lh_note (a := mkI fst wid mid las pat bro mov cnt) (b := mkT inp outs brd mvd got owe) eU eH hk b5⟩
  · rcases h2 with ⟨q0, -, rfl, rfl, rfl⟩ | ⟨-, j', b1, b2, -⟩
    · exact ⟨agr1 e1 q0, eU, eH⟩
    · exact absurd ⟨j', b1, by omega⟩ n

theorem tie_undo {fst : Nat} {wid : Nat} {mid : Nat} {las : Nat} {pat : Nat} {bro : Nat} {mov : Nat} {cnt : Nat} {inp : Nat → Nat} {outs : Nat → Nat} {brd : Nat → Nat} {mvd : Nat → Nat} {got : Nat → Nat} {owe : Nat → Nat} {f : Nat → Int32} {ho : Nat} {hs : Nat} {hS : Nat → Nat → Nat} {hT : Nat → Nat → Nat → Nat} {fd : Nat → Int32} {macts : Nat} {hs' : Nat} {fst' : Nat} {wid' : Nat} {mid' : Nat} {las' : Nat} {pat' : Nat} {bro' : Nat} {mov' : Nat} {cnt' : Nat} {inp' : Nat → Nat} {outs' : Nat → Nat} {brd' : Nat → Nat} {mvd' : Nat → Nat} {got' : Nat → Nat} {owe' : Nat → Nat} {kk9 : Int32} {og' : Nat → Int64} {mref' : Nat} {macts' : Nat} {bb9 : Int32} {f' : Nat → Int32} (eU : LU (SS.mk fst wid mid las pat bro mov cnt inp outs brd mvd got owe) f) (eH : LH ho hs hS hT fd macts)
    (h1 : (∃ v9, (hs ≠ 0 ∧ v9 = nI (hs - 1) ∧ hs' = hs - 1 ∧ fst' = hS ((ho + (hs - 1)) % 15) 0 ∧ wid' = hS ((ho + (hs - 1)) % 15) 1 ∧ mid' = hS ((ho + (hs - 1)) % 15) 2 ∧ las' = hS ((ho + (hs - 1)) % 15) 3 ∧ pat' = hS ((ho + (hs - 1)) % 15) 4 ∧ bro' = hS ((ho + (hs - 1)) % 15) 5 ∧ mov' = hS ((ho + (hs - 1)) % 15) 6 ∧ cnt' = hS ((ho + (hs - 1)) % 15) 7 ∧ inp' = hT ((ho + (hs - 1)) % 15) 0 ∧ outs' = hT ((ho + (hs - 1)) % 15) 1 ∧ brd' = hT ((ho + (hs - 1)) % 15) 2 ∧ mvd' = hT ((ho + (hs - 1)) % 15) 3 ∧ got' = hT ((ho + (hs - 1)) % 15) 4 ∧ owe' = hT ((ho + (hs - 1)) % 15) 5) ∧ kk9 = nI 0 ∧ og' 0 = v9.toInt64) ∨ ∃ E, (E = xIS ∧ hs = 0 ∧ hs' = hs ∧ fst' = fst ∧ wid' = wid ∧ mid' = mid ∧ las' = las ∧ pat' = pat ∧ bro' = bro ∧ mov' = mov ∧ cnt' = cnt ∧ inp' = inp ∧ outs' = outs ∧ brd' = brd ∧ mvd' = mvd ∧ got' = got ∧ owe' = owe) ∧ ((E = xIS ∧ kk9 = nI 1)))
    (h2 : UNm mref' macts macts' bb9 f fd f') :
    AGR kk9 mref' og' bb9 ∧ LU (SS.mk fst' wid' mid' las' pat' bro' mov' cnt' inp' outs' brd' mvd' got' owe') f' ∧ LH ho hs' hS hT fd macts' := by
  obtain ⟨k1, k2, k3, k4⟩ := eH
  rcases h1 with ⟨v9, ⟨n, a1, rfl, rfl, rfl, rfl, rfl, rfl, rfl, rfl, rfl, rfl, rfl, rfl, rfl, rfl, rfl⟩, e1, e2⟩ | ⟨E, ⟨eE, n, rfl, rfl, rfl, rfl, rfl, rfl, rfl, rfl, rfl, rfl, rfl, rfl, rfl, rfl, rfl⟩, -, e1⟩
  · rcases h2 with ⟨-, q, -⟩ | ⟨q0, q1, q2, q3, rfl⟩
    · omega
    · have hg := k4 (hs - 1) (by omega)
      have hR : RowQ (cpF fd f (104 * (macts - 1)) 0 104) (PR (hS ((ho + (hs - 1)) % 15)) (hT ((ho + (hs - 1)) % 15))) := rq_of (bd_of hg.1).2.2.2.2.2.2.1 hg.2 (fun i hi => by rw [cpa0 hi, k3])
      exact ⟨⟨by rw [e1, q0], fun _ => by rw [e2, a1, q3, k3]⟩, ⟨hg.1, hR⟩, k1, by omega, by omega, fun k hk => k4 k (by omega)⟩
  · rcases h2 with ⟨q0, q1, rfl, rfl⟩ | ⟨-, q1, -⟩
    · exact ⟨agr1 e1 q0, eU, k1, k2, k3, k4⟩
    · omega

theorem tie_moves {fst : Nat} {wid : Nat} {mid : Nat} {las : Nat} {pat : Nat} {bro : Nat} {mov : Nat} {cnt : Nat} {inp : Nat → Nat} {outs : Nat → Nat} {brd : Nat → Nat} {mvd : Nat → Nat} {got : Nat → Nat} {owe : Nat → Nat} {f : Nat → Int32} {x : Int32} {y : Int32} {pfr' : Nat → Nat} {pto' : Nat → Nat} {kk9 : Int32} {og' : Nat → Int64} {mref' : Nat} {bb9 : Int32} (eU : LU (SS.mk fst wid mid las pat bro mov cnt inp outs brd mvd got owe) f)
    (h1 : (∃ v9, ((∃ jx jy, x = nI jx ∧ jx < fst * wid ∧ y = nI jy ∧ jy < las * wid ∧ ((¬ (freeIn cnt inp jx ∧ freeOut cnt outs jy) ∧ v9 = -1) ∨ (freeIn cnt inp jx ∧ freeOut cnt outs jy ∧ ∃ bs, PLN wid mid pat bro cnt inp outs brd (jx / wid) (jy / wid) v9 bs))) ∧ (∀ c, c < 16 → pfr' c < 65536 ∧ pto' c < 65536)) ∧ kk9 = nI 0 ∧ og' 0 = v9.toInt64) ∨ ∃ E, ((E = xIO ∧ ¬ (CIn (fst * wid) x ∧ CIn (las * wid) y)) ∧ (∀ c, c < 16 → pfr' c < 65536 ∧ pto' c < 65536)) ∧ ((E = xIO ∧ kk9 = nI 1)))
    (h2 : (mref' = 1 ∧ ¬ (CIn (fst * wid) x ∧ CIn (las * wid) y)) ∨ (mref' = 0 ∧ ∃ jx jy r0 v, x = nI jx ∧ jx < fst * wid ∧ y = nI jy ∧ jy < las * wid ∧ ACs (SS.mk fst wid mid las pat bro mov cnt inp outs brd mvd got owe) (nI jx) (nI jy) r0 v ∧ RRq r0 bb9)) :
    AGR kk9 mref' og' bb9 ∧ FRq pfr' pto' := by
  obtain ⟨⟨g1, g2, g3, g4, g5, g6, g7, g8, g9, g10, g11⟩, -⟩ := eU.1
  have hf : fst * wid ≤ 16 := mul16 g1.2 g2.2
  have hl : las * wid ≤ 16 := mul16 g4.2 g2.2
  have g5' : pat ≤ 3 := g5
  refine tie_1F (P := fun v => ∃ jx jy, x = nI jx ∧ jx < fst * wid ∧ y = nI jy ∧ jy < las * wid ∧ ((¬ (freeIn cnt inp jx ∧ freeOut cnt outs jy) ∧ v = -1) ∨ (freeIn cnt inp jx ∧ freeOut cnt outs jy ∧ ∃ bs, PLN wid mid pat bro cnt inp outs brd (jx / wid) (jy / wid) v bs))) (Q := fun b => ∃ jx jy r0 v, x = nI jx ∧ jx < fst * wid ∧ y = nI jy ∧ jy < las * wid ∧ ACs (SS.mk fst wid mid las pat bro mov cnt inp outs brd mvd got owe) (nI jx) (nI jy) r0 v ∧ RRq r0 b) (C := CIn (fst * wid) x ∧ CIn (las * wid) y) (fun v ⟨jx, jy, q1, q2, q3, q4, _⟩ => ⟨⟨jx, q1, q2⟩, jy, q3, q4⟩) (fun ⟨jx, jy, _, _, q1, q2, q3, q4, _⟩ => ⟨⟨jx, q1, q2⟩, jy, q3, q4⟩) ?_ h1 h2
  rintro v ⟨jx, jy, q1, q2, q3, q4, q5⟩ ⟨jx', jy', r0, u', p1, p2, p3, p4, p5, p6⟩
  obtain rfl := nI_inj4 (by omega) (by omega) (q1.symm.trans p1)
  obtain rfl := nI_inj4 (by omega) (by omega) (q3.symm.trans p3)
  rcases p5.1 with ⟨s1, -⟩ | ⟨s1, ⟨ix, iy, s2, s3, s4, s5, s6⟩, -⟩ | ⟨ix, iy, k, π, brd1, mvd1, s2, s3, s4, s5, f1, f2, f3, s6, s7, s8, -⟩
  · rcases p6 with ⟨c, -⟩ | ⟨k, c, -, hk⟩
    · exact absurd (s1.symm.trans c) (by decide)
    · exact absurd (c.symm.trans s1) (nI_m2 (by omega))
  · have s3' : ix < fst * wid := s3
    have s5' : iy < las * wid := s5
    obtain rfl := nI_inj4 (by omega) (by omega) s2
    obtain rfl := nI_inj4 (by omega) (by omega) s4
    rcases p6 with ⟨-, c⟩ | ⟨k, c, -, hk⟩
    · rw [c]
      rcases q5 with ⟨-, q⟩ | ⟨f1, f2, bs, hp⟩
      · exact q
      · rcases hp with ⟨q, -⟩ | ⟨k, π, -, hk, ho, -⟩
        · exact q
        · have z1 := s6 f1 f2 (free16 eU.1 f1 q2) π ho.1
          have z2 := ho.2.1
          have z3 : pat < Mvs (cnt + 1) (bfN cnt brd) π := z1
          omega
    · exact absurd (c.symm.trans s1) (nI_m3 (by omega))
  · have s3' : ix < fst * wid := s3
    have s5' : iy < las * wid := s5
    have s7' : k ≤ pat := s7
    obtain rfl := nI_inj4 (by omega) (by omega) s2
    obtain rfl := nI_inj4 (by omega) (by omega) s4
    have hb : bb9 = nI k := by
      rcases p6 with ⟨c, -⟩ | ⟨k', c, c2, -⟩
      · exact absurd (s6.symm.trans c) (nI_m3 (by omega))
      · exact c2.trans (c.symm.trans s6)
    rcases q5 with ⟨q, -⟩ | ⟨-, -, bs, hp⟩
    · exact absurd ⟨f1, f2⟩ q
    · exact (planR_opt hp s8 s7').trans hb.symm

theorem tie_runScript {fst : Nat} {wid : Nat} {mid : Nat} {las : Nat} {pat : Nat} {bro : Nat} {mov : Nat} {cnt : Nat} {inp : Nat → Nat} {outs : Nat → Nat} {brd : Nat → Nat} {mvd : Nat → Nat} {got : Nat → Nat} {owe : Nat → Nat} {f : Nat → Int32} {x : Int32} {sx : Int64} {w : Int32} {pfr' : Nat → Nat} {pto' : Nat → Nat} {kk9 : Int32} {og' : Nat → Int64} {mref' : Nat} {bb9 : Int32} (eU : LU (SS.mk fst wid mid las pat bro mov cnt inp outs brd mvd got owe) f)
    (h1 : (∃ v9, ((∃ j s, x = nI j ∧ 1 ≤ j ∧ j ≤ 3 ∧ sx = jN s ∧ s < 2 ^ 63 ∧ s < 100000 ^ j ∧ ((∃ i v w, i < j ∧ v9 = nI i ∧ runQ (fun i => s / 100000 ^ (j - 1 - i) % 100000) i (SS.mk fst wid mid las pat bro mov cnt inp outs brd mvd got owe) v ∧ SUs v (s / 100000 ^ (j - 1 - i) % 100000) 0 w) ∨ (v9 = -1 ∧ ∃ v, runQ (fun i => s / 100000 ^ (j - 1 - i) % 100000) j (SS.mk fst wid mid las pat bro mov cnt inp outs brd mvd got owe) v))) ∧ (∀ c, c < 16 → pfr' c < 65536 ∧ pto' c < 65536)) ∧ kk9 = nI 0 ∧ og' 0 = v9.toInt64) ∨ ∃ E, ((E = xIA ∧ ¬ ∃ j, x = nI j ∧ 1 ≤ j ∧ j ≤ 3 ∧ ∃ s, s < 2 ^ 63 ∧ sx = jN s ∧ s < 100000 ^ j) ∧ (∀ c, c < 16 → pfr' c < 65536 ∧ pto' c < 65536)) ∧ ((E = xIA ∧ kk9 = nI 1)))
    (h2 : (mref' = 1 ∧ ¬ ∃ j, x = nI j ∧ 1 ≤ j ∧ j ≤ 3 ∧ ∃ s, s < 2 ^ 63 ∧ sx = jN s ∧ s < 100000 ^ j) ∨ (mref' = 0 ∧ ∃ j s, x = nI j ∧ 1 ≤ j ∧ j ≤ 3 ∧ sx = jN s ∧ s < 2 ^ 63 ∧ s < 100000 ^ j ∧ RSq (SS.mk fst wid mid las pat bro mov cnt inp outs brd mvd got owe) (fun i => s / 100000 ^ (j - 1 - i) % 100000) j bb9)) :
    AGR kk9 mref' og' bb9 ∧ FRq pfr' pto' := by
  refine tie_1F (P := fun v => ∃ j s, x = nI j ∧ 1 ≤ j ∧ j ≤ 3 ∧ sx = jN s ∧ s < 2 ^ 63 ∧ s < 100000 ^ j ∧ RSq (SS.mk fst wid mid las pat bro mov cnt inp outs brd mvd got owe) (fun i => s / 100000 ^ (j - 1 - i) % 100000) j v) (Q := fun v => ∃ j s, x = nI j ∧ 1 ≤ j ∧ j ≤ 3 ∧ sx = jN s ∧ s < 2 ^ 63 ∧ s < 100000 ^ j ∧ RSq (SS.mk fst wid mid las pat bro mov cnt inp outs brd mvd got owe) (fun i => s / 100000 ^ (j - 1 - i) % 100000) j v) (C := ∃ j, x = nI j ∧ 1 ≤ j ∧ j ≤ 3 ∧ ∃ s, s < 2 ^ 63 ∧ sx = jN s ∧ s < 100000 ^ j) (fun v ⟨j, s, q1, q2, q3, q4, q5, q6, _⟩ => ⟨j, q1, q2, q3, s, q5, q4, q6⟩) (fun ⟨j, s, q1, q2, q3, q4, q5, q6, _⟩ => ⟨j, q1, q2, q3, s, q5, q4, q6⟩) ?_ h1 h2
  rintro v ⟨j, s, q1, q2, q3, q4, q5, q6, q7⟩ ⟨j', s', p1, p2, p3, p4, p5, p6, p7⟩
  obtain rfl := nI_inj4 (by omega) (by omega) (q1.symm.trans p1)
  have e2 := ((jN_toInt q5).symm.trans (congrArg Int64.toInt (q4.symm.trans p4))).trans (jN_toInt p5)
  obtain rfl : s = s' := by omega
  exact rsq_det eU.1 eU.1 (eqv_refl _) q7 p7

theorem tie_simulate {fst : Nat} {wid : Nat} {mid : Nat} {las : Nat} {pat : Nat} {bro : Nat} {mov : Nat} {cnt : Nat} {inp : Nat → Nat} {outs : Nat → Nat} {brd : Nat → Nat} {mvd : Nat → Nat} {got : Nat → Nat} {owe : Nat → Nat} {f : Nat → Int32} {x : Int32} {sx : Int64} {pfr' : Nat → Nat} {pto' : Nat → Nat} {kk9 : Int32} {og' : Nat → Int64} {mref' : Nat} {bb9 : Int32} (eU : LU (SS.mk fst wid mid las pat bro mov cnt inp outs brd mvd got owe) f)
    (h1 : (∃ v9, ((∃ j, x = nI j ∧ 1 ≤ j ∧ j ≤ 60 ∧ ∃ v t, simQ sx j (SS.mk fst wid mid las pat bro mov cnt inp outs brd mvd got owe) v t ∧ v9 = nI 1000 * t + nI v.cnt) ∧ (∀ c, c < 16 → pfr' c < 65536 ∧ pto' c < 65536)) ∧ kk9 = nI 0 ∧ og' 0 = v9.toInt64) ∨ ∃ E, ((E = xIA ∧ ¬ ∃ j, x = nI j ∧ 1 ≤ j ∧ j ≤ 60) ∧ (∀ c, c < 16 → pfr' c < 65536 ∧ pto' c < 65536)) ∧ ((E = xIA ∧ kk9 = nI 1)))
    (h2 : (mref' = 1 ∧ ¬ ∃ j, x = nI j ∧ 1 ≤ j ∧ j ≤ 60) ∨ (mref' = 0 ∧ ∃ j, x = nI j ∧ 1 ≤ j ∧ j ≤ 60 ∧ ∃ v t, simQ sx j (SS.mk fst wid mid las pat bro mov cnt inp outs brd mvd got owe) v t ∧ bb9 = nI 1000 * t + nI v.cnt)) :
    AGR kk9 mref' og' bb9 ∧ FRq pfr' pto' := by
  refine tie_1F (P := fun r => ∃ j, x = nI j ∧ 1 ≤ j ∧ j ≤ 60 ∧ ∃ v t, simQ sx j (SS.mk fst wid mid las pat bro mov cnt inp outs brd mvd got owe) v t ∧ r = nI 1000 * t + nI v.cnt) (Q := fun r => ∃ j, x = nI j ∧ 1 ≤ j ∧ j ≤ 60 ∧ ∃ v t, simQ sx j (SS.mk fst wid mid las pat bro mov cnt inp outs brd mvd got owe) v t ∧ r = nI 1000 * t + nI v.cnt) (C := ∃ j, x = nI j ∧ 1 ≤ j ∧ j ≤ 60) (fun v ⟨j, q1, q2, q3, _⟩ => ⟨j, q1, q2, q3⟩) (fun ⟨j, q1, q2, q3, _⟩ => ⟨j, q1, q2, q3⟩) ?_ h1 h2
  rintro r ⟨j, q1, q2, q3, v, t, q4, q5⟩ ⟨j', p1, p2, p3, v', t', p4, p5⟩
  obtain rfl := nI_inj4 (by omega) (by omega) (q1.symm.trans p1)
  obtain ⟨rfl, e⟩ := simQ_det eU.1 eU.1 (eqv_refl _) q4 p4
  rw [q5, p5, e.1.2.2.2.2.1]

theorem tie_save {fst : Nat} {wid : Nat} {mid : Nat} {las : Nat} {pat : Nat} {bro : Nat} {mov : Nat} {cnt : Nat} {inp : Nat → Nat} {outs : Nat → Nat} {brd : Nat → Nat} {mvd : Nat → Nat} {got : Nat → Nat} {owe : Nat → Nat} {f : Nat → Int32} {sh : Nat → Nat} {zS : Nat → Nat → Nat} {zT : Nat → Nat → Nat → Nat} {fk : Nat → Int32} {sk : Nat → Nat} {x : Int32} {sh' : Nat → Nat} {zS' : Nat → Nat → Nat} {zT' : Nat → Nat → Nat → Nat} {kk9 : Int32} {og' : Nat → Int64} {mref' : Nat} {fk' : Nat → Int32} {sk' : Nat → Nat} {bb9 : Int32} (eU : LU (SS.mk fst wid mid las pat bro mov cnt inp outs brd mvd got owe) f) (eK : LKp sh zS zT fk sk)
    (h1 : (∃ v9, (∃ j, x = nI j ∧ j < 2 ∧ v9 = nI cnt ∧ sh' = va_up sh j 1 ∧ zS' = (if j = 0 then up0 zS (mkI fst wid mid las pat bro mov cnt) else up1 zS (mkI fst wid mid las pat bro mov cnt)) ∧ zT' = (if j = 0 then up0 zT (mkT inp outs brd mvd got owe) else up1 zT (mkT inp outs brd mvd got owe))) ∧ kk9 = nI 0 ∧ og' 0 = v9.toInt64) ∨ ∃ E, (E = xIO ∧ ¬ CIn 2 x ∧ sh' = sh ∧ zS' = zS ∧ zT' = zT) ∧ ((E = xIO ∧ kk9 = nI 1)))
    (h2 : (mref' = 1 ∧ ¬ CIn 2 x ∧ fk' = fk ∧ sk' = sk) ∨ (mref' = 0 ∧ ∃ j, x = nI j ∧ j < 2 ∧ bb9 = nI cnt ∧ fk' = cpF f fk 0 (104 * j) 104 ∧ sk' = va_up sk j 1)) :
    AGR kk9 mref' og' bb9 ∧ LKp sh' zS' zT' fk' sk' := by
  rcases h1 with ⟨v9, ⟨j, a1, a2, a3, rfl, rfl, rfl⟩, e1, e2⟩ | ⟨E, ⟨eE, n, rfl, rfl, rfl⟩, -, e1⟩
  · rcases h2 with ⟨-, n, -⟩ | ⟨q0, j', b1, b2, b3, rfl, rfl⟩
    · exact absurd ⟨j, a1, a2⟩ n
    · obtain rfl := nI_inj4 (by omega) (by omega) (a1.symm.trans b1)
      refine ⟨⟨by rw [e1, q0], fun _ => by rw [e2, a3, b3]⟩, fun k hk => ?_⟩
      obtain ⟨k1, k2, k3⟩ := eK k hk
      by_cases h : k = j
      · subst h
        refine ⟨by unfold va_up; rw [if_pos rfl]; decide, by unfold va_up; rw [if_pos rfl, if_pos rfl], fun _ => ?_⟩
        have e8 : (if k = 0 then up0 zS (mkI fst wid mid las pat bro mov cnt) else up1 zS (mkI fst wid mid las pat bro mov cnt)) k = mkI fst wid mid las pat bro mov cnt := by
          rcases (show k = 0 ∨ k = 1 by omega) with rfl | rfl <;> rfl
        have e9 : (if k = 0 then up0 zT (mkT inp outs brd mvd got owe) else up1 zT (mkT inp outs brd mvd got owe)) k = mkT inp outs brd mvd got owe := by
          rcases (show k = 0 ∨ k = 1 by omega) with rfl | rfl <;> rfl
        rw [e8, e9]
        exact rng_new (u := PR (mkI fst wid mid las pat bro mov cnt) (mkT inp outs brd mvd got owe)) eU (fun i hi => cpa hi)
      · refine ⟨by unfold va_up; rw [if_neg h]; exact k1, by unfold va_up; rw [if_neg h, if_neg h]; exact k2, fun n => ?_⟩
        have e8 : (if j = 0 then up0 zS (mkI fst wid mid las pat bro mov cnt) else up1 zS (mkI fst wid mid las pat bro mov cnt)) k = zS k := by
          rcases (show (j = 0 ∧ k = 1) ∨ (j = 1 ∧ k = 0) by omega) with ⟨rfl, rfl⟩ | ⟨rfl, rfl⟩ <;> rfl
        have e9 : (if j = 0 then up0 zT (mkT inp outs brd mvd got owe) else up1 zT (mkT inp outs brd mvd got owe)) k = zT k := by
          rcases (show (j = 0 ∧ k = 1) ∨ (j = 1 ∧ k = 0) by omega) with ⟨rfl, rfl⟩ | ⟨rfl, rfl⟩ <;> rfl
        rw [e8, e9]
        unfold va_up at n
        rw [if_neg h] at n
        exact rng_of (k3 n) (fun i hi => cp_out (by omega))
  · rcases h2 with ⟨q0, -, rfl, rfl⟩ | ⟨-, j', b1, b2, -⟩
    · exact ⟨agr1 e1 q0, eK⟩
    · exact absurd ⟨j', b1, b2⟩ n

theorem tie_restore {fst : Nat} {wid : Nat} {mid : Nat} {las : Nat} {pat : Nat} {bro : Nat} {mov : Nat} {cnt : Nat} {inp : Nat → Nat} {outs : Nat → Nat} {brd : Nat → Nat} {mvd : Nat → Nat} {got : Nat → Nat} {owe : Nat → Nat} {f : Nat → Int32} {ho : Nat} {hs : Nat} {hS : Nat → Nat → Nat} {hT : Nat → Nat → Nat → Nat} {fd : Nat → Int32} {macts : Nat} {sh : Nat → Nat} {zS : Nat → Nat → Nat} {zT : Nat → Nat → Nat → Nat} {fk : Nat → Int32} {sk : Nat → Nat} {x : Int32} {hs' : Nat} {fst' : Nat} {wid' : Nat} {mid' : Nat} {las' : Nat} {pat' : Nat} {bro' : Nat} {mov' : Nat} {cnt' : Nat} {inp' : Nat → Nat} {outs' : Nat → Nat} {brd' : Nat → Nat} {mvd' : Nat → Nat} {got' : Nat → Nat} {owe' : Nat → Nat} {kk9 : Int32} {og' : Nat → Int64} {mref' : Nat} {macts' : Nat} {f' : Nat → Int32} {bb9 : Int32} (eU : LU (SS.mk fst wid mid las pat bro mov cnt inp outs brd mvd got owe) f) (eH : LH ho hs hS hT fd macts) (eK : LKp sh zS zT fk sk)
    (h1 : (∃ v9, (∃ j, x = nI j ∧ j < 2 ∧ ¬ sh j = 0 ∧ v9 = nI (zS j 7) ∧ hs' = 0 ∧ fst' = zS j 0 ∧ wid' = zS j 1 ∧ mid' = zS j 2 ∧ las' = zS j 3 ∧ pat' = zS j 4 ∧ bro' = zS j 5 ∧ mov' = zS j 6 ∧ cnt' = zS j 7 ∧ inp' = zT j 0 ∧ outs' = zT j 1 ∧ brd' = zT j 2 ∧ mvd' = zT j 3 ∧ got' = zT j 4 ∧ owe' = zT j 5) ∧ kk9 = nI 0 ∧ og' 0 = v9.toInt64) ∨ ∃ E, (((E = xIO ∧ ¬ CIn 2 x) ∨ (E = xIS ∧ ∃ j, x = nI j ∧ j < 2 ∧ sh j = 0)) ∧ hs' = hs ∧ fst' = fst ∧ wid' = wid ∧ mid' = mid ∧ las' = las ∧ pat' = pat ∧ bro' = bro ∧ mov' = mov ∧ cnt' = cnt ∧ inp' = inp ∧ outs' = outs ∧ brd' = brd ∧ mvd' = mvd ∧ got' = got ∧ owe' = owe) ∧ ((E = xIO ∧ kk9 = nI 1) ∨ (E = xIS ∧ kk9 = nI 2)))
    (h2 : (mref' = 1 ∧ ¬ CIn 2 x ∧ macts' = macts ∧ f' = f) ∨ (mref' = 2 ∧ (∃ j, x = nI j ∧ j < 2 ∧ sk j = 0) ∧ macts' = macts ∧ f' = f) ∨ (mref' = 0 ∧ ∃ j, x = nI j ∧ j < 2 ∧ ¬ sk j = 0 ∧ macts' = 0 ∧ f' = cpF fk f (104 * j) 0 104 ∧ bb9 = f' 4)) :
    AGR kk9 mref' og' bb9 ∧ LU (SS.mk fst' wid' mid' las' pat' bro' mov' cnt' inp' outs' brd' mvd' got' owe') f' ∧ LH ho hs' hS hT fd macts' := by
  rcases h1 with ⟨v9, ⟨j, a1, a2, n, a3, ehs, rfl, rfl, rfl, rfl, rfl, rfl, rfl, rfl, rfl, rfl, rfl, rfl, rfl, rfl⟩, e1, e2⟩ | ⟨E, ⟨a1, rfl, rfl, rfl, rfl, rfl, rfl, rfl, rfl, rfl, rfl, rfl, rfl, rfl, rfl, rfl⟩, a2⟩
  · obtain ⟨k1, k2, k3⟩ := eK j a2
    have hg := k3 n
    rcases h2 with ⟨-, q, -⟩ | ⟨-, ⟨j', b1, b2, b3⟩, -⟩ | ⟨q0, j', b1, b2, b3, b4, rfl, b5⟩
    · exact absurd ⟨j, a1, a2⟩ q
    · obtain rfl := nI_inj4 (by omega) (by omega) (a1.symm.trans b1)
      omega
    · obtain rfl := nI_inj4 (by omega) (by omega) (a1.symm.trans b1)
      have hR : RowQ (cpF fk f (104 * j) 0 104) (PR (zS j) (zT j)) := rq_of (bd_of hg.1).2.2.2.2.2.2.1 hg.2 (fun i hi => cpa0 hi)
      exact ⟨⟨by rw [e1, q0], fun _ => by rw [e2, a3, b5, hR.1.2.2.2.2.1]; rfl⟩, ⟨hg.1, hR⟩, lh_none eH.1 ehs b4⟩
  · have c := thr2 xIO_IS a2
    rcases a1 with ⟨e, n⟩ | ⟨e, j, a3, a4, a5⟩
    · rcases h2 with ⟨q0, -, rfl, rfl⟩ | ⟨-, ⟨j', b1, b2, b3⟩, -⟩ | ⟨-, j', b1, b2, -⟩
      · exact ⟨agr1 (c.1 e) q0, eU, eH⟩
      · exact absurd ⟨j', b1, b2⟩ n
      · exact absurd ⟨j', b1, b2⟩ n
    · obtain ⟨k1, k2, k3⟩ := eK j a4
      rcases h2 with ⟨-, q, -⟩ | ⟨q0, -, rfl, rfl⟩ | ⟨-, j', b1, b2, b3, -⟩
      · exact absurd ⟨j, a3, a4⟩ q
      · exact ⟨agr2 (c.2 e) q0, eU, eH⟩
      · obtain rfl := nI_inj4 (by omega) (by omega) (a3.symm.trans b1)
        omega
