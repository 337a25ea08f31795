/-! calls that move over: who, how often, the thanks -/
def mvn (b p : Nat) : Nat := if b = p then 0 else 1
def gtF (inp brd π : Nat → Nat) (ak x : Nat) : Nat → Nat := fun c => if c = ak then 0 else if inp c = x then mvn (brd c) (π c) else 0
def owF (brd π : Nat → Nat) (ak : Nat) : Nat → Nat := fun c => if c = ak then 0 else mvn (brd c) (π c)
def MO (inp brd mvd got owe π : Nat → Nat) (mov ak ax i : Nat) (brd' mvd' got' owe' : Nat → Nat) (mov' : Nat) : Prop :=
  (∀ c, c < 16 → brd' c = if c < i then π c else brd c) ∧ (∀ c, c < 16 → mvd' c = mvd c + (if c < i then mvn (brd c) (π c) else 0)) ∧ mov' = mov + sumTo (fun c => mvn (brd c) (π c)) i ∧ (∀ x, x < 16 → got' x = got x + sumTo (gtF inp brd π ak x) i) ∧ ∀ x, x < 16 → owe' x = owe x + (if x = ax then sumTo (owF brd π ak) i else 0)
section Moves
variable {inp brd mvd got owe π brd' mvd' got' owe' : Nat → Nat} {mov ak ax i mov' : Nat}
theorem mo_0 : MO inp brd mvd got owe π mov ak ax 0 brd mvd got owe mov :=
  ⟨fun c _ => by simp, fun c _ => by simp, rfl, fun x _ => rfl, fun x _ => by split <;> rfl⟩
theorem mvn_0 {a b : Nat} (h : a = b) : mvn a b = 0 := if_pos h
theorem mvn_1 {a b : Nat} (h : ¬ a = b) : mvn a b = 1 := if_neg h
theorem mo_same (h : MO inp brd mvd got owe π mov ak ax i brd' mvd' got' owe' mov') (e : brd i = π i) : MO inp brd mvd got owe π mov ak ax (i + 1) brd' mvd' got' owe' mov' := by
  obtain ⟨h1, h2, h3, h4, h5⟩ := h
  have z : mvn (brd i) (π i) = 0 := mvn_0 e
  refine ⟨fun c hc => ?_, fun c hc => ?_, ?_, fun x hx => ?_, fun x hx => ?_⟩
  · rw [h1 c hc]
    by_cases q : c = i
    · subst q; rw [if_neg (Nat.lt_irrefl _), if_pos (Nat.lt_succ_self _), e]
    · by_cases g : c < i
      · rw [if_pos g, if_pos (by omega)]
      · rw [if_neg g, if_neg (by omega)]
  · rw [h2 c hc]
    by_cases q : c = i
    · subst q; rw [if_neg (Nat.lt_irrefl _), if_pos (Nat.lt_succ_self _), z]
    · by_cases g : c < i
      · rw [if_pos g, if_pos (by omega)]
      · rw [if_neg g, if_neg (by omega)]
  · rw [h3]; show _ = mov + (sumTo _ i + mvn (brd i) (π i)); rw [z]; rfl
  · rw [h4 x hx]; show _ = got x + (sumTo _ i + gtF inp brd π ak x i)
    have : gtF inp brd π ak x i = 0 := by unfold gtF; rw [z]; split; rfl; split <;> rfl
    rw [this]; rfl
  · rw [h5 x hx]; show _ = owe x + (if x = ax then sumTo _ i + owF brd π ak i else 0)
    have : owF brd π ak i = 0 := by unfold owF; rw [z]; split <;> rfl
    rw [this]; rfl
theorem mo_mv1 (h : MO inp brd mvd got owe π mov ak ax i brd' mvd' got' owe' mov') (e : ¬ brd i = π i) (hi : i < 16) : (∀ c, c < 16 → va_up brd' i (π i) c = if c < i + 1 then π c else brd c) ∧ (∀ c, c < 16 → va_up mvd' i (mvd' i + 1) c = mvd c + (if c < i + 1 then mvn (brd c) (π c) else 0)) ∧ mov' + 1 = mov + sumTo (fun c => mvn (brd c) (π c)) (i + 1) := by
  obtain ⟨h1, h2, h3, h4, h5⟩ := h
  have z : mvn (brd i) (π i) = 1 := mvn_1 e
  refine ⟨fun c hc => ?_, fun c hc => ?_, ?_⟩
  · unfold va_up
    by_cases q : c = i
    · subst q; rw [if_pos rfl, if_pos (Nat.lt_succ_self _)]
    · rw [if_neg q, h1 c hc]
      by_cases g : c < i
      · rw [if_pos g, if_pos (by omega)]
      · rw [if_neg g, if_neg (by omega)]
  · unfold va_up
    by_cases q : c = i
    · subst q; rw [if_pos rfl, if_pos (Nat.lt_succ_self _), h2 c hc, if_neg (Nat.lt_irrefl _), z]
    · rw [if_neg q, h2 c hc]
      by_cases g : c < i
      · rw [if_pos g, if_pos (by omega)]
      · rw [if_neg g, if_neg (by omega)]
  · rw [h3]; show _ = mov + (sumTo _ i + mvn (brd i) (π i)); rw [z]; rfl
theorem mo_self (h : MO inp brd mvd got owe π mov ak ax i brd' mvd' got' owe' mov') (e : ¬ brd i = π i) (hi : i < 16) (ea : i = ak) : MO inp brd mvd got owe π mov ak ax (i + 1) (va_up brd' i (π i)) (va_up mvd' i (mvd' i + 1)) got' owe' (mov' + 1) := by
  obtain ⟨g1, g2, g3⟩ := mo_mv1 h e hi
  obtain ⟨h1, h2, h3, h4, h5⟩ := h
  refine ⟨g1, g2, g3, fun x hx => ?_, fun x hx => ?_⟩
  · rw [h4 x hx]; show _ = got x + (sumTo _ i + gtF inp brd π ak x i)
    have : gtF inp brd π ak x i = 0 := if_pos ea
    rw [this]; rfl
  · rw [h5 x hx]; show _ = owe x + (if x = ax then sumTo _ i + owF brd π ak i else 0)
    have : owF brd π ak i = 0 := if_pos ea
    rw [this]; rfl
theorem mo_oth (h : MO inp brd mvd got owe π mov ak ax i brd' mvd' got' owe' mov') (e : ¬ brd i = π i) (hi : i < 16) (ea : ¬ i = ak) : MO inp brd mvd got owe π mov ak ax (i + 1) (va_up brd' i (π i)) (va_up mvd' i (mvd' i + 1)) (va_up got' (inp i) (got' (inp i) + 1)) (va_up owe' ax (owe' ax + 1)) (mov' + 1) := by
  obtain ⟨g1, g2, g3⟩ := mo_mv1 h e hi
  obtain ⟨h1, h2, h3, h4, h5⟩ := h
  have z : mvn (brd i) (π i) = 1 := mvn_1 e
  refine ⟨g1, g2, g3, fun x hx => ?_, fun x hx => ?_⟩
  · show _ = got x + (sumTo _ i + gtF inp brd π ak x i)
    have t : gtF inp brd π ak x i = if inp i = x then 1 else 0 := by unfold gtF; rw [if_neg ea, z]
    rw [t]; unfold va_up
    by_cases q : x = inp i
    · subst q; rw [if_pos rfl, if_pos rfl, h4 _ hx]; rfl
    · rw [if_neg q, if_neg (fun g => q g.symm), h4 x hx]; rfl
  · show _ = owe x + (if x = ax then sumTo _ i + owF brd π ak i else 0)
    have t : owF brd π ak i = 1 := by unfold owF; rw [if_neg ea, z]
    rw [t]; unfold va_up
    by_cases q : x = ax
    · subst q; rw [if_pos rfl, if_pos rfl, h5 _ hx, if_pos rfl]; rfl
    · rw [if_neg q, if_neg q, h5 x hx, if_neg q]
end Moves
theorem div_lt4 {x n w : Nat} (h : x < n * w) (hn : n ≤ 4) : x / w < 4 := Nat.lt_of_lt_of_le (Nat.div_lt_of_lt_mul (by rw [Nat.mul_comm]; exact h)) hn
def CIn (lim : Nat) (x : Int32) : Prop := ∃ j, x = nI j ∧ j < lim
/-- nothing of a state has changed -/
def SAMEq (mov cnt : Nat) (inp outs brd mvd got owe : Nat → Nat) (mov' cnt' : Nat) (inp' outs' brd' mvd' got' owe' : Nat → Nat) : Prop := mov' = mov ∧ cnt' = cnt ∧ inp' = inp ∧ outs' = outs ∧ brd' = brd ∧ mvd' = mvd ∧ got' = got ∧ owe' = owe
abbrev alM (mid bro : Nat) : Nat → Bool := fun j => (wo (2 ^ mid - 1) bro).testBit j
def freeIn (cnt : Nat) (inp : Nat → Nat) (x : Nat) : Prop := ∀ k, k < cnt → ¬ inp k = x
def freeOut (cnt : Nat) (outs : Nat → Nat) (y : Nat) : Prop := ∀ k, k < cnt → ¬ (outs k).testBit y = true
/-- what a new call answers and does -/
def ACq (fst wid mid las pat bro mov cnt : Nat) (inp outs brd mvd got owe : Nat → Nat) (x y : Int32) (r : Int32) (mov' cnt' : Nat) (inp' outs' brd' mvd' got' owe' : Nat → Nat) : Prop :=
  (r = -2 ∧ ¬ (CIn (fst * wid) x ∧ CIn (las * wid) y) ∧ SAMEq mov cnt inp outs brd mvd got owe mov' cnt' inp' outs' brd' mvd' got' owe') ∨
  (r = -3 ∧ (∃ jx jy, x = nI jx ∧ jx < fst * wid ∧ y = nI jy ∧ jy < las * wid ∧ (freeIn cnt inp jx → freeOut cnt outs jy → cnt < 16 → ∀ π, Val (cnt + 1) (alM mid bro) (frN cnt wid inp (jx / wid)) (toN cnt wid outs (jy / wid)) π → pat < Mvs (cnt + 1) (bfN cnt brd) π)) ∧ SAMEq mov cnt inp outs brd mvd got owe mov' cnt' inp' outs' brd' mvd' got' owe') ∨
  ∃ jx jy k π brd1 mvd1, x = nI jx ∧ jx < fst * wid ∧ y = nI jy ∧ jy < las * wid ∧ freeIn cnt inp jx ∧ freeOut cnt outs jy ∧ cnt < 16 ∧ r = nI k ∧ k ≤ pat ∧ Opt (cnt + 1) (alM mid bro) (frN cnt wid inp (jx / wid)) (toN cnt wid outs (jy / wid)) (bfN cnt brd) π k ∧
    MO inp brd mvd got owe π mov cnt jx cnt brd1 mvd1 got' owe' mov' ∧ cnt' = cnt + 1 ∧ inp' = va_up inp cnt jx ∧ outs' = va_up outs cnt (2 ^ jy) ∧ brd' = va_up brd1 cnt (π cnt) ∧ mvd' = va_up mvd1 cnt 0
/-- what another output answers and does -/
def AOq (wid mid las pat bro mov cnt : Nat) (inp outs brd mvd got owe : Nat → Nat) (x y : Int32) (r : Int32) (mov' cnt' : Nat) (inp' outs' brd' mvd' got' owe' : Nat → Nat) : Prop :=
  (r = -2 ∧ ¬ (CIn cnt x ∧ CIn (las * wid) y) ∧ SAMEq mov cnt inp outs brd mvd got owe mov' cnt' inp' outs' brd' mvd' got' owe') ∨
  (r = -3 ∧ (∃ ca jy, x = nI ca ∧ ca < cnt ∧ y = nI jy ∧ jy < las * wid ∧ (freeOut cnt outs jy → pcn (outs ca) < 4 → ∀ π, Val cnt (alM mid bro) (fun c => 2 ^ (inp c / wid)) (toM wid outs ca (jy / wid)) π → pat < Mvs cnt (fun c => nI (brd c)) π)) ∧ SAMEq mov cnt inp outs brd mvd got owe mov' cnt' inp' outs' brd' mvd' got' owe') ∨
  ∃ ca jy k π, x = nI ca ∧ ca < cnt ∧ y = nI jy ∧ jy < las * wid ∧ freeOut cnt outs jy ∧ pcn (outs ca) < 4 ∧ r = nI k ∧ k ≤ pat ∧ Opt cnt (alM mid bro) (fun c => 2 ^ (inp c / wid)) (toM wid outs ca (jy / wid)) (fun c => nI (brd c)) π k ∧
    MO inp brd mvd got owe π mov ca (inp ca) cnt brd' mvd' got' owe' mov' ∧ cnt' = cnt ∧ inp' = inp ∧ outs' = va_up outs ca (outs ca ||| 2 ^ jy)

theorem iX3_moveOver_X1 : ∀ w ∈ u_ws RX1 TX1 13, w ∈ wsX3_moveOver := by decide +kernel
theorem iX3_moveOver_X3 : ∀ w ∈ u_ws RX3 TX3 14, w ∈ wsX3_moveOver := by decide +kernel
abbrev rmX3_moveOver : Room := { frames := 0, cells := 0, slots := 0, locals := 0 }
theorem n_X3_moveOver : yX3_moveOver.cls = RX3 ∧ yX3_moveOver.cls ≠ "java/lang/invoke/MethodHandle" ∧ yX3_moveOver.cls ≠ "java/lang/invoke/VarHandle" ∧ (parseMethodDescriptor yX3_moveOver.desc).map (fun d => d.parameters.length) = some 3 := by decide +kernel
set_option maxHeartbeats 4000000 in
set_option maxRecDepth 100000 in
theorem k_X3_moveOver (l : Launch) (D : va_G) (cT : Nat → ClassId) (sA fst wid mid las pat bro mov cnt sI sO sB sM sG sW : Nat) (inp brd mvd got owe : Nat → Nat) (q pn : Nat) (pa : Int32) (qf qt qb qr ph qhf qht pl pm : Nat) (pb : Int32) (qs : Nat) (pbs : Nat → Int32) (ask : Int32) (ax : Nat) (π : Nat → Nat) (ak : Nat) (hCn : cnt ≤ 16) (hIn : ∀ c, c < 16 → inp c < 16) (hBo : ∀ c, c < 16 → brd c < 4) (hπ : ∀ c, c < cnt → pbs c = nI (π c) ∧ π c < 4) (hak : ∀ c, c < cnt → (nI c = ask ↔ c = ak)) (hax : ax < 16) : MWv (S := Nat × (Nat → Nat) × (Nat → Nat) × (Nat → Nat) × (Nat → Nat)) l D cT yX3_moveOver wsX3_moveOver rmX3_moveOver [.ref sA, .ref q, .int ask, .int (nI ax)] [(sA, cSt fst wid mid las pat bro mov cnt sI sO sB sM sG sW), (sI, aN (cT 0) 16 inp), (sB, aN (cT 0) 16 brd), (sM, aN (cT 0) 16 mvd), (sG, aN (cT 0) 16 got), (sW, aN (cT 0) 16 owe), (q, cPl pn pa qf qt qb qr ph qhf qht pl pm pb qs), (qs, aI (cT 0) 16 pbs)] (fun u => MO inp brd mvd got owe π mov ak ax cnt u.2.1 u.2.2.1 u.2.2.2.1 u.2.2.2.2 u.1) (fun u => [(sA, cSt fst wid mid las pat bro u.1 cnt sI sO sB sM sG sW), (sI, aN (cT 0) 16 inp), (sB, aN (cT 0) 16 u.2.1), (sM, aN (cT 0) 16 u.2.2.1), (sG, aN (cT 0) 16 u.2.2.2.1), (sW, aN (cT 0) 16 u.2.2.2.2), (q, cPl pn pa qf qt qb qr ph qhf qht pl pm pb qs), (qs, aI (cT 0) 16 pbs)]) 0 0 := by
  refine m_Wv [(0, .ref sA), (1, .ref q), (2, .int ask), (3, .int (nI ax))] (by decide +kernel) rfl (Nat.le_of_ble_eq_true rfl) rfl ?_
  intro p e s m args below meth c A hAe C hA hr hk hnm_
  generalize hQ : MQ below (va_Qv _ _ A) args s 0 0 A = Q
  refine r_ic (pc := 0) (v := nI 0) C rfl dX3_moveOver_0 ?_
  refine r_is (pc := 1) C [1, 2, 3, 4, 0] [(0, .ref sA), (1, .ref q), (2, .int ask), (3, .int (nI ax)), (4, .int (nI 0))] (by decide) rfl dX3_moveOver_1 ?_
  have L3 : ∀ (n3 : Nat) (i : Nat) (brd1 : Nat → Nat) (mvd1 : Nat → Nat) (got1 : Nat → Nat) (owe1 : Nat → Nat) (mov1 : Nat) (hi2 : i ≤ cnt) (hMO : MO inp brd mvd got owe π mov ak ax i brd1 mvd1 got1 owe1 mov1), cnt - i < n3 → RW p l e (headSpec wsX3_moveOver rmX3_moveOver).room s m args below meth c (IW s D A) 5 0 0 Q [(sA, cSt fst wid mid las pat bro mov1 cnt sI sO sB sM sG sW), (sI, aN (cT 0) 16 inp), (sB, aN (cT 0) 16 brd1), (sM, aN (cT 0) 16 mvd1), (sG, aN (cT 0) 16 got1), (sW, aN (cT 0) 16 owe1), (q, cPl pn pa qf qt qb qr ph qhf qht pl pm pb qs), (qs, aI (cT 0) 16 pbs)] 3 [(0, .ref sA), (1, .ref q), (2, .int ask), (3, .int (nI ax)), (4, .int (nI i))] [] := by
    intro n3
    induction n3 with
    | zero => intro i brd1 mvd1 got1 owe1 mov1 hi2 hMO hn3; exact absurd hn3 (Nat.not_lt_zero _)
    | succ n3 ih3 =>
      intro i brd1 mvd1 got1 owe1 mov1 hi2 hMO hn3
      refine r_il (pc := 3) C 4 rfl dX3_moveOver_3 ?_
      refine r_aln (pc := 5) C 0 rfl dX3_moveOver_5 ?_
      refine r_get (pc := 6) C iX3_moveOver_X3 0 rfl rfl 7 (by decide) (mw 1 rfl) rfl rfl dX3_moveOver_6 ?_
      refine r_cgeN (pc := 9) (tgt := 102) C (by first | omega | (have := hIn i (by omega); omega) | (have := hBo i (by omega); omega) | (have := hπ i (by omega); omega)) (by first | omega | (have := hIn i (by omega); omega) | (have := hBo i (by omega); omega) | (have := hπ i (by omega); omega)) dX3_moveOver_9 (by decide) (fun c9 => ?_) (fun c9 => ?_)
      · subst hQ
        exact e_vW C hr hk (Nat.le_refl _) (Nat.le_refl _) ⟨mov1, brd1, mvd1, got1, owe1⟩ rfl (by rw [show cnt = i by omega]; exact hMO) dX3_moveOver_102
      · refine r_aln (pc := 12) C 0 rfl dX3_moveOver_12 ?_
        refine r_get (pc := 13) C iX3_moveOver_X3 0 rfl rfl 10 (by decide) (mw 2 rfl) rfl rfl dX3_moveOver_13 ?_
        refine r_il (pc := 16) C 4 rfl dX3_moveOver_16 ?_
        refine r_ialN (pc := 18) C 2 rfl (by first | omega | (have := hIn i (by omega); omega) | (have := hBo i (by omega); omega) | (have := hπ i (by omega); omega)) (by decide) dX3_moveOver_18 ?_
        refine r_v (y := nI (brd i)) (congrArg nI ((hMO.1 i (by omega)).trans (if_neg (Nat.lt_irrefl i)))) ?_
        refine r_aln (pc := 19) C 1 rfl dX3_moveOver_19 ?_
        refine r_get (pc := 20) C iX3_moveOver_X1 6 rfl rfl 12 (by decide) (mw 3 rfl) rfl rfl dX3_moveOver_20 ?_
        refine r_il (pc := 23) C 4 rfl dX3_moveOver_23 ?_
        refine r_ialI (pc := 25) C 7 rfl (by first | omega | (have := hIn i (by omega); omega) | (have := hBo i (by omega); omega) | (have := hπ i (by omega); omega)) (by decide) dX3_moveOver_25 ?_
        refine r_v (y := nI (π i)) ((hπ i (by omega)).1) ?_
        refine r_ceqN (pc := 26) (tgt := 96) C (by first | omega | (have := hIn i (by omega); omega) | (have := hBo i (by omega); omega) | (have := hπ i (by omega); omega)) (by first | omega | (have := hIn i (by omega); omega) | (have := hBo i (by omega); omega) | (have := hπ i (by omega); omega)) dX3_moveOver_26 (by decide) (fun c26 => ?_) (fun c26 => ?_)
        · refine r_incN (pc := 96) C 4 [1, 2, 3, 4, 0] [(0, .ref sA), (1, .ref q), (2, .int ask), (3, .int (nI ax)), (4, .int (nI (i + 1)))] rfl (by decide) rfl dX3_moveOver_96 ?_
          refine r_goto (pc := 99) (tgt := 3) C dX3_moveOver_99 (by decide) ?_
          exact ih3 (i + 1) brd1 mvd1 got1 owe1 mov1 (by omega) (mo_same hMO c26) (by omega)
        · refine r_aln (pc := 29) C 0 rfl dX3_moveOver_29 ?_
          refine r_get (pc := 30) C iX3_moveOver_X3 0 rfl rfl 10 (by decide) (mw 2 rfl) rfl rfl dX3_moveOver_30 ?_
          refine r_il (pc := 33) C 4 rfl dX3_moveOver_33 ?_
          refine r_aln (pc := 35) C 1 rfl dX3_moveOver_35 ?_
          refine r_get (pc := 36) C iX3_moveOver_X1 6 rfl rfl 12 (by decide) (mw 3 rfl) rfl rfl dX3_moveOver_36 ?_
          refine r_il (pc := 39) C 4 rfl dX3_moveOver_39 ?_
          refine r_ialI (pc := 41) C 7 rfl (by first | omega | (have := hIn i (by omega); omega) | (have := hBo i (by omega); omega) | (have := hπ i (by omega); omega)) (by decide) dX3_moveOver_41 ?_
          refine r_v (y := nI (π i)) ((hπ i (by omega)).1) ?_
          refine r_iasN (pc := 42) (ws2 := [(sA, cSt fst wid mid las pat bro mov1 cnt sI sO sB sM sG sW), (sI, aN (cT 0) 16 inp), (sB, aN (cT 0) 16 (va_up brd1 i (π i))), (sM, aN (cT 0) 16 mvd1), (sG, aN (cT 0) 16 got1), (sW, aN (cT 0) 16 owe1), (q, cPl pn pa qf qt qb qr ph qhf qht pl pm pb qs), (qs, aI (cT 0) 16 pbs)]) C 2 rfl (by first | omega | (have := hIn i (by omega); omega) | (have := hBo i (by omega); omega) | (have := hπ i (by omega); omega)) (by decide) rfl dX3_moveOver_42 ?_
          refine r_aln (pc := 43) C 0 rfl dX3_moveOver_43 ?_
          refine r_get (pc := 44) C iX3_moveOver_X3 0 rfl rfl 11 (by decide) (mw 4 rfl) rfl rfl dX3_moveOver_44 ?_
          refine r_il (pc := 47) C 4 rfl dX3_moveOver_47 ?_
          refine r_dup2 (pc := 49) C rfl rfl dX3_moveOver_49 ?_
          refine r_ialN (pc := 50) C 3 rfl (by first | omega | (have := hIn i (by omega); omega) | (have := hBo i (by omega); omega) | (have := hπ i (by omega); omega)) (by decide) dX3_moveOver_50 ?_
          refine r_ic (pc := 51) (v := nI 1) C rfl dX3_moveOver_51 ?_
          refine r_iaddN (pc := 52) C dX3_moveOver_52 ?_
          refine r_iasN (pc := 53) (ws2 := [(sA, cSt fst wid mid las pat bro mov1 cnt sI sO sB sM sG sW), (sI, aN (cT 0) 16 inp), (sB, aN (cT 0) 16 (va_up brd1 i (π i))), (sM, aN (cT 0) 16 (va_up mvd1 i ((mvd1 i) + 1))), (sG, aN (cT 0) 16 got1), (sW, aN (cT 0) 16 owe1), (q, cPl pn pa qf qt qb qr ph qhf qht pl pm pb qs), (qs, aI (cT 0) 16 pbs)]) C 3 rfl (by first | omega | (have := hIn i (by omega); omega) | (have := hBo i (by omega); omega) | (have := hπ i (by omega); omega)) (by decide) rfl dX3_moveOver_53 ?_
          refine r_aln (pc := 54) C 0 rfl dX3_moveOver_54 ?_
          refine r_dup (pc := 55) C rfl dX3_moveOver_55 ?_
          refine r_get (pc := 56) C iX3_moveOver_X3 0 rfl rfl 6 (by decide) (mw 5 rfl) rfl rfl dX3_moveOver_56 ?_
          refine r_ic (pc := 59) (v := nI 1) C rfl dX3_moveOver_59 ?_
          refine r_iaddN (pc := 60) C dX3_moveOver_60 ?_
          refine r_put (pc := 61) (ws2 := [(sA, cSt fst wid mid las pat bro (mov1 + 1) cnt sI sO sB sM sG sW), (sI, aN (cT 0) 16 inp), (sB, aN (cT 0) 16 (va_up brd1 i (π i))), (sM, aN (cT 0) 16 (va_up mvd1 i ((mvd1 i) + 1))), (sG, aN (cT 0) 16 got1), (sW, aN (cT 0) 16 owe1), (q, cPl pn pa qf qt qb qr ph qhf qht pl pm pb qs), (qs, aI (cT 0) 16 pbs)]) C iX3_moveOver_X3 tyX3_ok nmX3 0 rfl rfl 6 (by decide) (mw 5 rfl) rfl rfl rfl rfl (Nat.le_of_ble_eq_true rfl) rfl dX3_moveOver_61 ?_
          refine r_il (pc := 64) C 4 rfl dX3_moveOver_64 ?_
          refine r_iln (pc := 66) C 2 rfl dX3_moveOver_66 ?_
          refine r_ceq (pc := 67) (tgt := 96) C dX3_moveOver_67 (by decide) (fun c67 => ?_) (fun c67 => ?_)
          · refine r_incN (pc := 96) C 4 [1, 2, 3, 4, 0] [(0, .ref sA), (1, .ref q), (2, .int ask), (3, .int (nI ax)), (4, .int (nI (i + 1)))] rfl (by decide) rfl dX3_moveOver_96 ?_
            refine r_goto (pc := 99) (tgt := 3) C dX3_moveOver_99 (by decide) ?_
            exact ih3 (i + 1) (va_up brd1 i (π i)) (va_up mvd1 i ((mvd1 i) + 1)) got1 owe1 (mov1 + 1) (by omega) (mo_self hMO c26 (by omega) ((hak i (by omega)).mp c67)) (by omega)
          · refine r_aln (pc := 70) C 0 rfl dX3_moveOver_70 ?_
            refine r_get (pc := 71) C iX3_moveOver_X3 0 rfl rfl 12 (by decide) (mw 6 rfl) rfl rfl dX3_moveOver_71 ?_
            refine r_aln (pc := 74) C 0 rfl dX3_moveOver_74 ?_
            refine r_get (pc := 75) C iX3_moveOver_X3 0 rfl rfl 8 (by decide) (mw 7 rfl) rfl rfl dX3_moveOver_75 ?_
            refine r_il (pc := 78) C 4 rfl dX3_moveOver_78 ?_
            refine r_ialN (pc := 80) C 1 rfl (by first | omega | (have := hIn i (by omega); omega) | (have := hBo i (by omega); omega) | (have := hπ i (by omega); omega)) (by decide) dX3_moveOver_80 ?_
            refine r_dup2 (pc := 81) C rfl rfl dX3_moveOver_81 ?_
            refine r_ialN (pc := 82) C 4 rfl (by first | omega | (have := hIn i (by omega); omega) | (have := hBo i (by omega); omega) | (have := hπ i (by omega); omega)) (by decide) dX3_moveOver_82 ?_
            refine r_ic (pc := 83) (v := nI 1) C rfl dX3_moveOver_83 ?_
            refine r_iaddN (pc := 84) C dX3_moveOver_84 ?_
            refine r_iasN (pc := 85) (ws2 := [(sA, cSt fst wid mid las pat bro (mov1 + 1) cnt sI sO sB sM sG sW), (sI, aN (cT 0) 16 inp), (sB, aN (cT 0) 16 (va_up brd1 i (π i))), (sM, aN (cT 0) 16 (va_up mvd1 i ((mvd1 i) + 1))), (sG, aN (cT 0) 16 (va_up got1 (inp i) ((got1 (inp i)) + 1))), (sW, aN (cT 0) 16 owe1), (q, cPl pn pa qf qt qb qr ph qhf qht pl pm pb qs), (qs, aI (cT 0) 16 pbs)]) C 4 rfl (by first | omega | (have := hIn i (by omega); omega) | (have := hBo i (by omega); omega) | (have := hπ i (by omega); omega)) (by decide) rfl dX3_moveOver_85 ?_
            refine r_aln (pc := 86) C 0 rfl dX3_moveOver_86 ?_
            refine r_get (pc := 87) C iX3_moveOver_X3 0 rfl rfl 13 (by decide) (mw 8 rfl) rfl rfl dX3_moveOver_87 ?_
            refine r_iln (pc := 90) C 3 rfl dX3_moveOver_90 ?_
            refine r_dup2 (pc := 91) C rfl rfl dX3_moveOver_91 ?_
            refine r_ialN (pc := 92) C 5 rfl (by first | omega | (have := hIn i (by omega); omega) | (have := hBo i (by omega); omega) | (have := hπ i (by omega); omega)) (by decide) dX3_moveOver_92 ?_
            refine r_ic (pc := 93) (v := nI 1) C rfl dX3_moveOver_93 ?_
            refine r_iaddN (pc := 94) C dX3_moveOver_94 ?_
            refine r_iasN (pc := 95) (ws2 := [(sA, cSt fst wid mid las pat bro (mov1 + 1) cnt sI sO sB sM sG sW), (sI, aN (cT 0) 16 inp), (sB, aN (cT 0) 16 (va_up brd1 i (π i))), (sM, aN (cT 0) 16 (va_up mvd1 i ((mvd1 i) + 1))), (sG, aN (cT 0) 16 (va_up got1 (inp i) ((got1 (inp i)) + 1))), (sW, aN (cT 0) 16 (va_up owe1 ax ((owe1 ax) + 1))), (q, cPl pn pa qf qt qb qr ph qhf qht pl pm pb qs), (qs, aI (cT 0) 16 pbs)]) C 5 rfl (by first | omega | (have := hIn i (by omega); omega) | (have := hBo i (by omega); omega) | (have := hπ i (by omega); omega)) (by decide) rfl dX3_moveOver_95 ?_
            refine r_incN (pc := 96) C 4 [1, 2, 3, 4, 0] [(0, .ref sA), (1, .ref q), (2, .int ask), (3, .int (nI ax)), (4, .int (nI (i + 1)))] rfl (by decide) rfl dX3_moveOver_96 ?_
            refine r_goto (pc := 99) (tgt := 3) C dX3_moveOver_99 (by decide) ?_
            exact ih3 (i + 1) (va_up brd1 i (π i)) (va_up mvd1 i ((mvd1 i) + 1)) (va_up got1 (inp i) ((got1 (inp i)) + 1)) (va_up owe1 ax ((owe1 ax) + 1)) (mov1 + 1) (by omega) (mo_oth hMO c26 (by omega) (fun g => c67 ((hak i (by omega)).mpr g))) (by omega)
  exact L3 _ 0 brd mvd got owe mov (Nat.zero_le _) mo_0 (Nat.lt_succ_self _)

theorem iX3_addCall_X1 : ∀ w ∈ u_ws RX1 TX1 13, w ∈ wsX3_addCall := by decide +kernel
theorem iX3_addCall_X3 : ∀ w ∈ u_ws RX3 TX3 14, w ∈ wsX3_addCall := by decide +kernel
abbrev rmX3_addCall : Room := { frames := 27, cells := 0, slots := 0, locals := 673 }
theorem n_X3_addCall : yX3_addCall.cls = RX3 ∧ yX3_addCall.cls ≠ "java/lang/invoke/MethodHandle" ∧ yX3_addCall.cls ≠ "java/lang/invoke/VarHandle" ∧ (parseMethodDescriptor yX3_addCall.desc).map (fun d => d.parameters.length) = some 3 := by decide +kernel
set_option maxHeartbeats 4000000 in
set_option maxRecDepth 100000 in
theorem k_X3_addCall (l : Launch) (D : va_G) (cT : Nat → ClassId) (sA fst wid mid las pat bro mov cnt sI sO sB sM sG sW : Nat) (inp outs brd mvd got owe : Nat → Nat) (q pn : Nat) (pa : Int32) (qf qt qb qr ph qhf qht pl pm : Nat) (pb : Int32) (qs : Nat) (pfr pto : Nat → Nat) (pbf ptr : Nat → Int32) (phf pht : Nat → Nat) (pbs : Nat → Int32) (x y : Int32) (hCn : cnt ≤ 16) (hIn : ∀ c, c < 16 → inp c < 16) (hOu : ∀ c, c < 16 → outs c < 65536) (hBo : ∀ c, c < 16 → brd c < 4) (hW1 : 1 ≤ wid) (hW2 : wid ≤ 4) (hfr : ∀ c, c < 16 → pfr c < 65536 ∧ pto c < 65536) (hok : Ok1 cnt wid inp outs brd) (hM4 : mid ≤ 4) (hPa : pat ≤ 3) (hFW : fst * wid ≤ 16) (hLW : las * wid ≤ 16) (hF4 : fst ≤ 4) (hL4 : las ≤ 4) : MWi (S := Nat × Nat × (Nat → Nat) × (Nat → Nat) × (Nat → Nat) × (Nat → Nat) × (Nat → Nat) × (Nat → Nat) × Nat × Int32 × Nat × Nat × Nat × Int32 × (Nat → Nat) × (Nat → Nat) × (Nat → Int32) × (Nat → Int32) × (Nat → Nat) × (Nat → Nat) × (Nat → Int32)) l D cT yX3_addCall wsX3_addCall rmX3_addCall [.ref sA, .ref q, .int x, .int y] [(sA, cSt fst wid mid las pat bro mov cnt sI sO sB sM sG sW), (sI, aN (cT 0) 16 inp), (sO, aN (cT 0) 16 outs), (sB, aN (cT 0) 16 brd), (sM, aN (cT 0) 16 mvd), (sG, aN (cT 0) 16 got), (sW, aN (cT 0) 16 owe), (q, cPl pn pa qf qt qb qr ph qhf qht pl pm pb qs), (qf, aN (cT 0) 16 pfr), (qt, aN (cT 0) 16 pto), (qb, aI (cT 0) 16 pbf), (qr, aI (cT 0) 16 ptr), (qhf, aN (cT 0) 4 phf), (qht, aN (cT 0) 4 pht), (qs, aI (cT 0) 16 pbs)] (fun r u => ACq fst wid mid las pat bro mov cnt inp outs brd mvd got owe x y r u.1 u.2.1 u.2.2.1 u.2.2.2.1 u.2.2.2.2.1 u.2.2.2.2.2.1 u.2.2.2.2.2.2.1 u.2.2.2.2.2.2.2.1 ∧ (∀ c, c < 16 → u.2.2.2.2.2.2.2.2.2.2.2.2.2.2.1 c < 65536 ∧ u.2.2.2.2.2.2.2.2.2.2.2.2.2.2.2.1 c < 65536)) (fun u => [(sA, cSt fst wid mid las pat bro u.1 u.2.1 sI sO sB sM sG sW), (sI, aN (cT 0) 16 u.2.2.1), (sO, aN (cT 0) 16 u.2.2.2.1), (sB, aN (cT 0) 16 u.2.2.2.2.1), (sM, aN (cT 0) 16 u.2.2.2.2.2.1), (sG, aN (cT 0) 16 u.2.2.2.2.2.2.1), (sW, aN (cT 0) 16 u.2.2.2.2.2.2.2.1), (q, cPl u.2.2.2.2.2.2.2.2.1 u.2.2.2.2.2.2.2.2.2.1 qf qt qb qr u.2.2.2.2.2.2.2.2.2.2.1 qhf qht u.2.2.2.2.2.2.2.2.2.2.2.1 u.2.2.2.2.2.2.2.2.2.2.2.2.1 u.2.2.2.2.2.2.2.2.2.2.2.2.2.1 qs), (qf, aN (cT 0) 16 u.2.2.2.2.2.2.2.2.2.2.2.2.2.2.1), (qt, aN (cT 0) 16 u.2.2.2.2.2.2.2.2.2.2.2.2.2.2.2.1), (qb, aI (cT 0) 16 u.2.2.2.2.2.2.2.2.2.2.2.2.2.2.2.2.1), (qr, aI (cT 0) 16 u.2.2.2.2.2.2.2.2.2.2.2.2.2.2.2.2.2.1), (qhf, aN (cT 0) 4 u.2.2.2.2.2.2.2.2.2.2.2.2.2.2.2.2.2.2.1), (qht, aN (cT 0) 4 u.2.2.2.2.2.2.2.2.2.2.2.2.2.2.2.2.2.2.2.1), (qs, aI (cT 0) 16 u.2.2.2.2.2.2.2.2.2.2.2.2.2.2.2.2.2.2.2.2)]) 0 0 := by
  refine m_Wi [(0, .ref sA), (1, .ref q), (2, .int x), (3, .int y)] (by decide +kernel) rfl (Nat.le_of_ble_eq_true rfl) rfl ?_
  intro p e s m args below meth c A hAe C hA hr hk hnm_
  generalize hQ : MQ below (va_Qi _ _ A) args s 0 0 A = Q
  refine r_aln (pc := 0) C 0 rfl dX3_addCall_0 ?_
  refine r_iln (pc := 1) C 2 rfl dX3_addCall_1 ?_
  refine c_RV (pc := 2) (As := [.int x]) (wc := [(sA, cSt fst wid mid las pat bro mov cnt sI sO sB sM sG sW)]) (qr := 0) C (k_X3_hasInput l D cT sA fst wid mid las pat bro mov cnt sI sO sB sM sG sW x (by first | assumption | omega)) (cwV 1 C.1.2.2.2.2 gX3_addCall_X3_hasInput rfl rfl rfl n_X3_hasInput ⟨Nat.le_of_ble_eq_true rfl, Nat.le_of_ble_eq_true rfl⟩) [0] rfl rfl rfl rfl rfl (Nat.le_of_ble_eq_true rfl) ⟨Nat.zero_le _, Nat.zero_le _⟩ dX3_addCall_2 (fun r2 h1 => ?_)
  rcases h1 with ⟨rfl, h1j, rfl, h1⟩ | ⟨rfl, h1⟩
  · refine r_zeqN (pc := 5) (tgt := 16) C (by first | omega | (have := hIn _ (by omega); omega)) dX3_addCall_5 (by decide) (fun h => absurd h (by decide)) (fun _ => ?_)
    refine r_aln (pc := 8) C 0 rfl dX3_addCall_8 ?_
    refine r_iln (pc := 9) C 3 rfl dX3_addCall_9 ?_
    refine c_RV (pc := 10) (As := [.int y]) (wc := [(sA, cSt fst wid mid las pat bro mov cnt sI sO sB sM sG sW)]) (qr := 0) C (k_X3_hasOutput l D cT sA fst wid mid las pat bro mov cnt sI sO sB sM sG sW y (by first | assumption | omega)) (cwV 1 C.1.2.2.2.2 gX3_addCall_X3_hasOutput rfl rfl rfl n_X3_hasOutput ⟨Nat.le_of_ble_eq_true rfl, Nat.le_of_ble_eq_true rfl⟩) [0] rfl rfl rfl rfl rfl (Nat.le_of_ble_eq_true rfl) ⟨Nat.zero_le _, Nat.zero_le _⟩ dX3_addCall_10 (fun r10 h2 => ?_)
    rcases h2 with ⟨rfl, h2j, rfl, h2⟩ | ⟨rfl, h2⟩
    · refine r_zneN (pc := 13) (tgt := 19) C (by first | omega | (have := hIn _ (by omega); omega)) dX3_addCall_13 (by decide) (fun _ => ?_) (fun h => absurd h (by decide))
      refine r_aln (pc := 19) C 0 rfl dX3_addCall_19 ?_
      refine r_iln (pc := 20) C 2 rfl dX3_addCall_20 ?_
      refine c_RV (pc := 21) (As := [.int (nI h1j)]) (wc := [(sA, cSt fst wid mid las pat bro mov cnt sI sO sB sM sG sW), (sI, aN (cT 0) 16 inp)]) (qr := 0) C (k_X3_callAtInput l D cT sA fst wid mid las pat bro mov cnt sI sO sB sM sG sW inp h1j (by first | assumption | omega) (by first | assumption | omega) (by first | assumption | omega)) (cwV 1 C.1.2.2.2.2 gX3_addCall_X3_callAtInput rfl rfl rfl n_X3_callAtInput ⟨Nat.le_of_ble_eq_true rfl, Nat.le_of_ble_eq_true rfl⟩) [0, 1] rfl rfl rfl rfl rfl (Nat.le_of_ble_eq_true rfl) ⟨Nat.zero_le _, Nat.zero_le _⟩ dX3_addCall_21 (fun r21 h3 => ?_)
      rcases h3 with ⟨rfl, h3⟩ | ⟨h3k, rfl, h3l, h3a, h3b⟩
      · refine r_ic (pc := 24) (v := (-1)) C rfl dX3_addCall_24 ?_
        refine r_cne (pc := 25) (tgt := 46) C dX3_addCall_25 (by decide) (fun c25 => absurd c25 (by exact fun h => h rfl)) (fun c25 => ?_)
        refine r_aln (pc := 28) C 0 rfl dX3_addCall_28 ?_
        refine r_iln (pc := 29) C 3 rfl dX3_addCall_29 ?_
        refine c_RV (pc := 30) (As := [.int (nI h2j)]) (wc := [(sA, cSt fst wid mid las pat bro mov cnt sI sO sB sM sG sW), (sO, aN (cT 0) 16 outs)]) (qr := 0) C (k_X3_callAtOutput l D cT sA fst wid mid las pat bro mov cnt sI sO sB sM sG sW outs h2j (by first | assumption | omega) (by first | assumption | omega) (by first | assumption | omega)) (cwV 1 C.1.2.2.2.2 gX3_addCall_X3_callAtOutput rfl rfl rfl n_X3_callAtOutput ⟨Nat.le_of_ble_eq_true rfl, Nat.le_of_ble_eq_true rfl⟩) [0, 2] rfl rfl rfl rfl rfl (Nat.le_of_ble_eq_true rfl) ⟨Nat.zero_le _, Nat.zero_le _⟩ dX3_addCall_30 (fun r30 h4 => ?_)
        rcases h4 with ⟨rfl, h4⟩ | ⟨h4k, rfl, h4l, h4a, h4b⟩
        · refine r_ic (pc := 33) (v := (-1)) C rfl dX3_addCall_33 ?_
          refine r_cne (pc := 34) (tgt := 46) C dX3_addCall_34 (by decide) (fun c34 => absurd c34 (by exact fun h => h rfl)) (fun c34 => ?_)
          refine r_aln (pc := 37) C 0 rfl dX3_addCall_37 ?_
          refine r_get (pc := 38) C iX3_addCall_X3 0 rfl rfl 7 (by decide) (mw 1 rfl) rfl rfl dX3_addCall_38 ?_
          refine r_bi (pc := 41) (v := nI 16) C rfl dX3_addCall_41 ?_
          refine r_cltN (pc := 43) (tgt := 49) C (by first | omega | (have := hIn _ (by omega); omega)) (by first | omega | (have := hIn _ (by omega); omega)) dX3_addCall_43 (by decide) (fun c43 => ?_) (fun c43 => ?_)
          · refine r_aln (pc := 49) C 1 rfl dX3_addCall_49 ?_
            refine r_aln (pc := 50) C 0 rfl dX3_addCall_50 ?_
            refine r_aln (pc := 51) C 0 rfl dX3_addCall_51 ?_
            refine r_iln (pc := 52) C 2 rfl dX3_addCall_52 ?_
            refine c_RV (pc := 53) (As := [.int (nI h1j)]) (wc := [(sA, cSt fst wid mid las pat bro mov cnt sI sO sB sM sG sW)]) (qr := 0) C (k_X3_boardOf l D cT sA fst wid mid las pat bro mov cnt sI sO sB sM sG sW h1j (by omega) hW2 (by omega)) (cwV 1 C.1.2.2.2.2 gX3_addCall_X3_boardOf rfl rfl rfl n_X3_boardOf ⟨Nat.le_of_ble_eq_true rfl, Nat.le_of_ble_eq_true rfl⟩) [0] rfl rfl rfl rfl rfl (Nat.le_of_ble_eq_true rfl) ⟨Nat.zero_le _, Nat.zero_le _⟩ dX3_addCall_53 (fun r53 h5 => ?_)
            subst h5
            refine r_aln (pc := 56) C 0 rfl dX3_addCall_56 ?_
            refine r_iln (pc := 57) C 3 rfl dX3_addCall_57 ?_
            refine c_RV (pc := 58) (As := [.int (nI h2j)]) (wc := [(sA, cSt fst wid mid las pat bro mov cnt sI sO sB sM sG sW)]) (qr := 0) C (k_X3_boardOf l D cT sA fst wid mid las pat bro mov cnt sI sO sB sM sG sW h2j (by omega) hW2 (by omega)) (cwV 1 C.1.2.2.2.2 gX3_addCall_X3_boardOf rfl rfl rfl n_X3_boardOf ⟨Nat.le_of_ble_eq_true rfl, Nat.le_of_ble_eq_true rfl⟩) [0] rfl rfl rfl rfl rfl (Nat.le_of_ble_eq_true rfl) ⟨Nat.zero_le _, Nat.zero_le _⟩ dX3_addCall_58 (fun r58 h6 => ?_)
            subst h6
            refine c_WVi (pc := 61) (As := [.ref sA, .int (nI (h1j / wid)), .int (nI (h2j / wid))]) (wc := [(q, cPl pn pa qf qt qb qr ph qhf qht pl pm pb qs), (qf, aN (cT 0) 16 pfr), (qt, aN (cT 0) 16 pto), (qb, aI (cT 0) 16 pbf), (qr, aI (cT 0) 16 ptr), (qhf, aN (cT 0) 4 phf), (qht, aN (cT 0) 4 pht), (qs, aI (cT 0) 16 pbs), (sA, cSt fst wid mid las pat bro mov cnt sI sO sB sM sG sW), (sI, aN (cT 0) 16 inp), (sO, aN (cT 0) 16 outs), (sB, aN (cT 0) 16 brd)]) (wr := [(sM, aN (cT 0) 16 mvd), (sG, aN (cT 0) 16 got), (sW, aN (cT 0) 16 owe)]) (qr := 7) C hA (k_X1_forNewCall l D cT q pn pa qf qt qb qr ph qhf qht pl pm pb qs pfr pto pbf ptr phf pht pbs sA fst wid mid las pat bro mov cnt sI sO sB sM sG sW inp outs brd (h1j / wid) (h2j / wid) hCn hIn hOu hBo hW1 hW2 hfr hok hM4 hPa (by omega) (div_lt4 h1 hF4) (div_lt4 h2 hL4)) (cwV 3 C.1.2.2.2.2 gX3_addCall_X1_forNewCall rfl rfl rfl n_X1_forNewCall ⟨Nat.le_of_ble_eq_true rfl, Nat.le_of_ble_eq_true rfl⟩) rfl rfl [7, 8, 9, 10, 11, 12, 13, 14, 0, 1, 2, 3] [4, 5, 6] rfl rfl ⟨by decide, by decide⟩ (by decide) [11, 12, 13, 14, 0, 1, 2, 3, 4, 5, 6, 7, 8, 9, 10] (fun u8 => [(sA, cSt fst wid mid las pat bro mov cnt sI sO sB sM sG sW), (sI, aN (cT 0) 16 inp), (sO, aN (cT 0) 16 outs), (sB, aN (cT 0) 16 brd), (sM, aN (cT 0) 16 mvd), (sG, aN (cT 0) 16 got), (sW, aN (cT 0) 16 owe), (q, cPl u8.1 u8.2.1 qf qt qb qr u8.2.2.1 qhf qht u8.2.2.2.1 u8.2.2.2.2.1 u8.2.2.2.2.2.1 qs), (qf, aN (cT 0) 16 u8.2.2.2.2.2.2.1), (qt, aN (cT 0) 16 u8.2.2.2.2.2.2.2.1), (qb, aI (cT 0) 16 u8.2.2.2.2.2.2.2.2.1), (qr, aI (cT 0) 16 u8.2.2.2.2.2.2.2.2.2.1), (qhf, aN (cT 0) 4 u8.2.2.2.2.2.2.2.2.2.2.1), (qht, aN (cT 0) 4 u8.2.2.2.2.2.2.2.2.2.2.2.1), (qs, aI (cT 0) 16 u8.2.2.2.2.2.2.2.2.2.2.2.2)]) (fun _ => rfl) (by decide) rfl rfl (Nat.le_of_ble_eq_true rfl) ⟨Nat.zero_le _, Nat.zero_le _⟩ dX3_addCall_61 (fun r61 u8 h7 => ?_)
            obtain ⟨h7, h7p⟩ := h7
            rcases h7 with ⟨rfl, h7⟩ | ⟨h7k, h7q, rfl, h7a, h7b, h7c⟩
            · refine r_is (pc := 64) C [1, 2, 3, 4, 0] [(0, .ref sA), (1, .ref q), (2, .int (nI h1j)), (3, .int (nI h2j)), (4, .int (-1))] (by decide) rfl dX3_addCall_64 ?_
              refine r_il (pc := 66) C 4 rfl dX3_addCall_66 ?_
              refine r_ic (pc := 68) (v := (-1)) C rfl dX3_addCall_68 ?_
              refine r_cne (pc := 69) (tgt := 75) C dX3_addCall_69 (by decide) (fun c69 => absurd c69 (by exact fun h => h rfl)) (fun c69 => ?_)
              refine r_bi (pc := 72) (v := (-3)) C rfl dX3_addCall_72 ?_
              subst hQ
              exact e_iW C hr hk (Nat.le_refl _) (Nat.le_refl _) ⟨mov, cnt, inp, outs, brd, mvd, got, owe, u8.1, u8.2.1, u8.2.2.1, u8.2.2.2.1, u8.2.2.2.2.1, u8.2.2.2.2.2.1, u8.2.2.2.2.2.2.1, u8.2.2.2.2.2.2.2.1, u8.2.2.2.2.2.2.2.2.1, u8.2.2.2.2.2.2.2.2.2.1, u8.2.2.2.2.2.2.2.2.2.2.1, u8.2.2.2.2.2.2.2.2.2.2.2.1, u8.2.2.2.2.2.2.2.2.2.2.2.2⟩ rfl (⟨Or.inr (Or.inl ⟨rfl, ⟨h1j, h2j, rfl, h1, rfl, h2, fun _ _ _ => h7⟩, ⟨rfl, rfl, rfl, rfl, rfl, rfl, rfl, rfl⟩⟩), h7p⟩) dX3_addCall_74
            · refine r_is (pc := 64) C [1, 2, 3, 4, 0] [(0, .ref sA), (1, .ref q), (2, .int (nI h1j)), (3, .int (nI h2j)), (4, .int (nI h7k))] (by decide) rfl dX3_addCall_64 ?_
              refine r_il (pc := 66) C 4 rfl dX3_addCall_66 ?_
              refine r_ic (pc := 68) (v := (-1)) C rfl dX3_addCall_68 ?_
              refine r_cne (pc := 69) (tgt := 75) C dX3_addCall_69 (by decide) (fun c69 => ?_) (fun c69 => absurd c69 (by exact nI_m1 (by omega)))
              refine r_aln (pc := 75) C 0 rfl dX3_addCall_75 ?_
              refine r_aln (pc := 76) C 1 rfl dX3_addCall_76 ?_
              refine r_ic (pc := 77) (v := (-1)) C rfl dX3_addCall_77 ?_
              refine r_iln (pc := 78) C 2 rfl dX3_addCall_78 ?_
              refine c_WVv (pc := 79) (As := [.ref q, .int (-1), .int (nI h1j)]) (wc := [(sA, cSt fst wid mid las pat bro mov cnt sI sO sB sM sG sW), (sI, aN (cT 0) 16 inp), (sB, aN (cT 0) 16 brd), (sM, aN (cT 0) 16 mvd), (sG, aN (cT 0) 16 got), (sW, aN (cT 0) 16 owe), (q, cPl u8.1 u8.2.1 qf qt qb qr u8.2.2.1 qhf qht u8.2.2.2.1 u8.2.2.2.2.1 u8.2.2.2.2.2.1 qs), (qs, aI (cT 0) 16 u8.2.2.2.2.2.2.2.2.2.2.2.2)]) (wr := [(sO, aN (cT 0) 16 outs), (qf, aN (cT 0) 16 u8.2.2.2.2.2.2.1), (qt, aN (cT 0) 16 u8.2.2.2.2.2.2.2.1), (qb, aI (cT 0) 16 u8.2.2.2.2.2.2.2.2.1), (qr, aI (cT 0) 16 u8.2.2.2.2.2.2.2.2.2.1), (qhf, aN (cT 0) 4 u8.2.2.2.2.2.2.2.2.2.2.1), (qht, aN (cT 0) 4 u8.2.2.2.2.2.2.2.2.2.2.2.1)]) (qr := 0) C hA (k_X3_moveOver l D cT sA fst wid mid las pat bro mov cnt sI sO sB sM sG sW inp brd mvd got owe q u8.1 u8.2.1 qf qt qb qr u8.2.2.1 qhf qht u8.2.2.2.1 u8.2.2.2.2.1 u8.2.2.2.2.2.1 qs u8.2.2.2.2.2.2.2.2.2.2.2.2 (-1) h1j h7q cnt hCn hIn hBo (fun c hc => ⟨h7c c (by omega), (h7b.1 c (by omega)).1⟩) (fun c hc => ⟨fun e => absurd e (nI_m1 (by omega)), fun e => by omega⟩) (by omega)) (cwV 3 C.1.2.2.2.2 gX3_addCall_X3_moveOver rfl rfl rfl n_X3_moveOver ⟨Nat.le_of_ble_eq_true rfl, Nat.le_of_ble_eq_true rfl⟩) rfl rfl [0, 1, 3, 4, 5, 6, 7, 14] [2, 8, 9, 10, 11, 12, 13] rfl rfl ⟨by decide, by decide⟩ (by decide) [7, 8, 0, 9, 10, 11, 12, 13, 1, 2, 3, 4, 5, 6, 14] (fun u10 => [(sA, cSt fst wid mid las pat bro u10.1 cnt sI sO sB sM sG sW), (sI, aN (cT 0) 16 inp), (sO, aN (cT 0) 16 outs), (sB, aN (cT 0) 16 u10.2.1), (sM, aN (cT 0) 16 u10.2.2.1), (sG, aN (cT 0) 16 u10.2.2.2.1), (sW, aN (cT 0) 16 u10.2.2.2.2), (q, cPl u8.1 u8.2.1 qf qt qb qr u8.2.2.1 qhf qht u8.2.2.2.1 u8.2.2.2.2.1 u8.2.2.2.2.2.1 qs), (qf, aN (cT 0) 16 u8.2.2.2.2.2.2.1), (qt, aN (cT 0) 16 u8.2.2.2.2.2.2.2.1), (qb, aI (cT 0) 16 u8.2.2.2.2.2.2.2.2.1), (qr, aI (cT 0) 16 u8.2.2.2.2.2.2.2.2.2.1), (qhf, aN (cT 0) 4 u8.2.2.2.2.2.2.2.2.2.2.1), (qht, aN (cT 0) 4 u8.2.2.2.2.2.2.2.2.2.2.2.1), (qs, aI (cT 0) 16 u8.2.2.2.2.2.2.2.2.2.2.2.2)]) (fun _ => rfl) (by decide) rfl rfl (Nat.le_of_ble_eq_true rfl) ⟨Nat.zero_le _, Nat.zero_le _⟩ dX3_addCall_79 (fun u10 h9 => ?_)
              refine r_aln (pc := 82) C 0 rfl dX3_addCall_82 ?_
              refine r_get (pc := 83) C iX3_addCall_X3 0 rfl rfl 8 (by decide) (mw 2 rfl) rfl rfl dX3_addCall_83 ?_
              refine r_aln (pc := 86) C 0 rfl dX3_addCall_86 ?_
              refine r_get (pc := 87) C iX3_addCall_X3 0 rfl rfl 7 (by decide) (mw 1 rfl) rfl rfl dX3_addCall_87 ?_
              refine r_iln (pc := 90) C 2 rfl dX3_addCall_90 ?_
              refine r_iasN (pc := 91) (ws2 := [(sA, cSt fst wid mid las pat bro u10.1 cnt sI sO sB sM sG sW), (sI, aN (cT 0) 16 (va_up inp cnt h1j)), (sO, aN (cT 0) 16 outs), (sB, aN (cT 0) 16 u10.2.1), (sM, aN (cT 0) 16 u10.2.2.1), (sG, aN (cT 0) 16 u10.2.2.2.1), (sW, aN (cT 0) 16 u10.2.2.2.2), (q, cPl u8.1 u8.2.1 qf qt qb qr u8.2.2.1 qhf qht u8.2.2.2.1 u8.2.2.2.2.1 u8.2.2.2.2.2.1 qs), (qf, aN (cT 0) 16 u8.2.2.2.2.2.2.1), (qt, aN (cT 0) 16 u8.2.2.2.2.2.2.2.1), (qb, aI (cT 0) 16 u8.2.2.2.2.2.2.2.2.1), (qr, aI (cT 0) 16 u8.2.2.2.2.2.2.2.2.2.1), (qhf, aN (cT 0) 4 u8.2.2.2.2.2.2.2.2.2.2.1), (qht, aN (cT 0) 4 u8.2.2.2.2.2.2.2.2.2.2.2.1), (qs, aI (cT 0) 16 u8.2.2.2.2.2.2.2.2.2.2.2.2)]) C 1 rfl (by first | omega | (have := hIn _ (by omega); omega)) (by decide) rfl dX3_addCall_91 ?_
              refine r_aln (pc := 92) C 0 rfl dX3_addCall_92 ?_
              refine r_get (pc := 93) C iX3_addCall_X3 0 rfl rfl 9 (by decide) (mw 3 rfl) rfl rfl dX3_addCall_93 ?_
              refine r_aln (pc := 96) C 0 rfl dX3_addCall_96 ?_
              refine r_get (pc := 97) C iX3_addCall_X3 0 rfl rfl 7 (by decide) (mw 1 rfl) rfl rfl dX3_addCall_97 ?_
              refine r_ic (pc := 100) (v := nI 1) C rfl dX3_addCall_100 ?_
              refine r_iln (pc := 101) C 3 rfl dX3_addCall_101 ?_
              refine r_ishlN (pc := 102) C (by first | omega | (have := hIn _ (by omega); omega)) (by rw [Nat.one_mul]; exact p2_lt31 (by first | omega | (have := hIn _ (by omega); omega))) dX3_addCall_102 ?_
              refine r_v (y := nI (2 ^ h2j)) (congrArg nI (Nat.one_mul _)) ?_
              refine r_iasN (pc := 103) (ws2 := [(sA, cSt fst wid mid las pat bro u10.1 cnt sI sO sB sM sG sW), (sI, aN (cT 0) 16 (va_up inp cnt h1j)), (sO, aN (cT 0) 16 (va_up outs cnt (2 ^ h2j))), (sB, aN (cT 0) 16 u10.2.1), (sM, aN (cT 0) 16 u10.2.2.1), (sG, aN (cT 0) 16 u10.2.2.2.1), (sW, aN (cT 0) 16 u10.2.2.2.2), (q, cPl u8.1 u8.2.1 qf qt qb qr u8.2.2.1 qhf qht u8.2.2.2.1 u8.2.2.2.2.1 u8.2.2.2.2.2.1 qs), (qf, aN (cT 0) 16 u8.2.2.2.2.2.2.1), (qt, aN (cT 0) 16 u8.2.2.2.2.2.2.2.1), (qb, aI (cT 0) 16 u8.2.2.2.2.2.2.2.2.1), (qr, aI (cT 0) 16 u8.2.2.2.2.2.2.2.2.2.1), (qhf, aN (cT 0) 4 u8.2.2.2.2.2.2.2.2.2.2.1), (qht, aN (cT 0) 4 u8.2.2.2.2.2.2.2.2.2.2.2.1), (qs, aI (cT 0) 16 u8.2.2.2.2.2.2.2.2.2.2.2.2)]) C 2 rfl (by first | omega | (have := hIn _ (by omega); omega)) (by decide) rfl dX3_addCall_103 ?_
              refine r_aln (pc := 104) C 0 rfl dX3_addCall_104 ?_
              refine r_get (pc := 105) C iX3_addCall_X3 0 rfl rfl 10 (by decide) (mw 4 rfl) rfl rfl dX3_addCall_105 ?_
              refine r_aln (pc := 108) C 0 rfl dX3_addCall_108 ?_
              refine r_get (pc := 109) C iX3_addCall_X3 0 rfl rfl 7 (by decide) (mw 1 rfl) rfl rfl dX3_addCall_109 ?_
              refine r_aln (pc := 112) C 1 rfl dX3_addCall_112 ?_
              refine r_get (pc := 113) C iX3_addCall_X1 7 rfl rfl 12 (by decide) (mw 5 rfl) rfl rfl dX3_addCall_113 ?_
              refine r_aln (pc := 116) C 0 rfl dX3_addCall_116 ?_
              refine r_get (pc := 117) C iX3_addCall_X3 0 rfl rfl 7 (by decide) (mw 1 rfl) rfl rfl dX3_addCall_117 ?_
              refine r_ialI (pc := 120) C 14 rfl (by first | omega | (have := hIn _ (by omega); omega)) (by decide) dX3_addCall_120 ?_
              refine r_v (y := nI (h7q cnt)) (h7c cnt (by omega)) ?_
              refine r_iasN (pc := 121) (ws2 := [(sA, cSt fst wid mid las pat bro u10.1 cnt sI sO sB sM sG sW), (sI, aN (cT 0) 16 (va_up inp cnt h1j)), (sO, aN (cT 0) 16 (va_up outs cnt (2 ^ h2j))), (sB, aN (cT 0) 16 (va_up u10.2.1 cnt (h7q cnt))), (sM, aN (cT 0) 16 u10.2.2.1), (sG, aN (cT 0) 16 u10.2.2.2.1), (sW, aN (cT 0) 16 u10.2.2.2.2), (q, cPl u8.1 u8.2.1 qf qt qb qr u8.2.2.1 qhf qht u8.2.2.2.1 u8.2.2.2.2.1 u8.2.2.2.2.2.1 qs), (qf, aN (cT 0) 16 u8.2.2.2.2.2.2.1), (qt, aN (cT 0) 16 u8.2.2.2.2.2.2.2.1), (qb, aI (cT 0) 16 u8.2.2.2.2.2.2.2.2.1), (qr, aI (cT 0) 16 u8.2.2.2.2.2.2.2.2.2.1), (qhf, aN (cT 0) 4 u8.2.2.2.2.2.2.2.2.2.2.1), (qht, aN (cT 0) 4 u8.2.2.2.2.2.2.2.2.2.2.2.1), (qs, aI (cT 0) 16 u8.2.2.2.2.2.2.2.2.2.2.2.2)]) C 3 rfl (by first | omega | (have := hIn _ (by omega); omega)) (by decide) rfl dX3_addCall_121 ?_
              refine r_aln (pc := 122) C 0 rfl dX3_addCall_122 ?_
              refine r_get (pc := 123) C iX3_addCall_X3 0 rfl rfl 11 (by decide) (mw 6 rfl) rfl rfl dX3_addCall_123 ?_
              refine r_aln (pc := 126) C 0 rfl dX3_addCall_126 ?_
              refine r_get (pc := 127) C iX3_addCall_X3 0 rfl rfl 7 (by decide) (mw 1 rfl) rfl rfl dX3_addCall_127 ?_
              refine r_ic (pc := 130) (v := nI 0) C rfl dX3_addCall_130 ?_
              refine r_iasN (pc := 131) (ws2 := [(sA, cSt fst wid mid las pat bro u10.1 cnt sI sO sB sM sG sW), (sI, aN (cT 0) 16 (va_up inp cnt h1j)), (sO, aN (cT 0) 16 (va_up outs cnt (2 ^ h2j))), (sB, aN (cT 0) 16 (va_up u10.2.1 cnt (h7q cnt))), (sM, aN (cT 0) 16 (va_up u10.2.2.1 cnt 0)), (sG, aN (cT 0) 16 u10.2.2.2.1), (sW, aN (cT 0) 16 u10.2.2.2.2), (q, cPl u8.1 u8.2.1 qf qt qb qr u8.2.2.1 qhf qht u8.2.2.2.1 u8.2.2.2.2.1 u8.2.2.2.2.2.1 qs), (qf, aN (cT 0) 16 u8.2.2.2.2.2.2.1), (qt, aN (cT 0) 16 u8.2.2.2.2.2.2.2.1), (qb, aI (cT 0) 16 u8.2.2.2.2.2.2.2.2.1), (qr, aI (cT 0) 16 u8.2.2.2.2.2.2.2.2.2.1), (qhf, aN (cT 0) 4 u8.2.2.2.2.2.2.2.2.2.2.1), (qht, aN (cT 0) 4 u8.2.2.2.2.2.2.2.2.2.2.2.1), (qs, aI (cT 0) 16 u8.2.2.2.2.2.2.2.2.2.2.2.2)]) C 4 rfl (by first | omega | (have := hIn _ (by omega); omega)) (by decide) rfl dX3_addCall_131 ?_
              refine r_aln (pc := 132) C 0 rfl dX3_addCall_132 ?_
              refine r_dup (pc := 133) C rfl dX3_addCall_133 ?_
              refine r_get (pc := 134) C iX3_addCall_X3 0 rfl rfl 7 (by decide) (mw 1 rfl) rfl rfl dX3_addCall_134 ?_
              refine r_ic (pc := 137) (v := nI 1) C rfl dX3_addCall_137 ?_
              refine r_iaddN (pc := 138) C dX3_addCall_138 ?_
              refine r_put (pc := 139) (ws2 := [(sA, cSt fst wid mid las pat bro u10.1 (cnt + 1) sI sO sB sM sG sW), (sI, aN (cT 0) 16 (va_up inp cnt h1j)), (sO, aN (cT 0) 16 (va_up outs cnt (2 ^ h2j))), (sB, aN (cT 0) 16 (va_up u10.2.1 cnt (h7q cnt))), (sM, aN (cT 0) 16 (va_up u10.2.2.1 cnt 0)), (sG, aN (cT 0) 16 u10.2.2.2.1), (sW, aN (cT 0) 16 u10.2.2.2.2), (q, cPl u8.1 u8.2.1 qf qt qb qr u8.2.2.1 qhf qht u8.2.2.2.1 u8.2.2.2.2.1 u8.2.2.2.2.2.1 qs), (qf, aN (cT 0) 16 u8.2.2.2.2.2.2.1), (qt, aN (cT 0) 16 u8.2.2.2.2.2.2.2.1), (qb, aI (cT 0) 16 u8.2.2.2.2.2.2.2.2.1), (qr, aI (cT 0) 16 u8.2.2.2.2.2.2.2.2.2.1), (qhf, aN (cT 0) 4 u8.2.2.2.2.2.2.2.2.2.2.1), (qht, aN (cT 0) 4 u8.2.2.2.2.2.2.2.2.2.2.2.1), (qs, aI (cT 0) 16 u8.2.2.2.2.2.2.2.2.2.2.2.2)]) C iX3_addCall_X3 tyX3_ok nmX3 0 rfl rfl 7 (by decide) (mw 1 rfl) rfl rfl rfl rfl (Nat.le_of_ble_eq_true rfl) rfl dX3_addCall_139 ?_
              refine r_il (pc := 142) C 4 rfl dX3_addCall_142 ?_
              subst hQ
              exact e_iW C hr hk (Nat.le_refl _) (Nat.le_refl _) ⟨u10.1, cnt + 1, va_up inp cnt h1j, va_up outs cnt (2 ^ h2j), va_up u10.2.1 cnt (h7q cnt), va_up u10.2.2.1 cnt 0, u10.2.2.2.1, u10.2.2.2.2, u8.1, u8.2.1, u8.2.2.1, u8.2.2.2.1, u8.2.2.2.2.1, u8.2.2.2.2.2.1, u8.2.2.2.2.2.2.1, u8.2.2.2.2.2.2.2.1, u8.2.2.2.2.2.2.2.2.1, u8.2.2.2.2.2.2.2.2.2.1, u8.2.2.2.2.2.2.2.2.2.2.1, u8.2.2.2.2.2.2.2.2.2.2.2.1, u8.2.2.2.2.2.2.2.2.2.2.2.2⟩ rfl (⟨Or.inr (Or.inr ⟨h1j, h2j, h7k, h7q, _, _, rfl, h1, rfl, h2, h3, h4, by omega, rfl, h7a, h7b, h9, rfl, rfl, rfl, rfl, rfl⟩), h7p⟩) dX3_addCall_144
          · refine r_bi (pc := 46) (v := (-3)) C rfl dX3_addCall_46 ?_
            subst hQ
            exact e_iW C hr hk (Nat.le_refl _) (Nat.le_refl _) ⟨mov, cnt, inp, outs, brd, mvd, got, owe, pn, pa, ph, pl, pm, pb, pfr, pto, pbf, ptr, phf, pht, pbs⟩ rfl (⟨Or.inr (Or.inl ⟨rfl, ⟨h1j, h2j, rfl, h1, rfl, h2, fun _ _ h => absurd h (by omega)⟩, ⟨rfl, rfl, rfl, rfl, rfl, rfl, rfl, rfl⟩⟩), hfr⟩) dX3_addCall_48
        · refine r_ic (pc := 33) (v := (-1)) C rfl dX3_addCall_33 ?_
          refine r_cne (pc := 34) (tgt := 46) C dX3_addCall_34 (by decide) (fun c34 => ?_) (fun c34 => absurd c34 (by exact nI_m1 (by omega)))
          refine r_bi (pc := 46) (v := (-3)) C rfl dX3_addCall_46 ?_
          subst hQ
          exact e_iW C hr hk (Nat.le_refl _) (Nat.le_refl _) ⟨mov, cnt, inp, outs, brd, mvd, got, owe, pn, pa, ph, pl, pm, pb, pfr, pto, pbf, ptr, phf, pht, pbs⟩ rfl (⟨Or.inr (Or.inl ⟨rfl, ⟨h1j, h2j, rfl, h1, rfl, h2, fun _ h _ => absurd h4a (h _ h4l)⟩, ⟨rfl, rfl, rfl, rfl, rfl, rfl, rfl, rfl⟩⟩), hfr⟩) dX3_addCall_48
      · refine r_ic (pc := 24) (v := (-1)) C rfl dX3_addCall_24 ?_
        refine r_cne (pc := 25) (tgt := 46) C dX3_addCall_25 (by decide) (fun c25 => ?_) (fun c25 => absurd c25 (by exact nI_m1 (by omega)))
        refine r_bi (pc := 46) (v := (-3)) C rfl dX3_addCall_46 ?_
        subst hQ
        exact e_iW C hr hk (Nat.le_refl _) (Nat.le_refl _) ⟨mov, cnt, inp, outs, brd, mvd, got, owe, pn, pa, ph, pl, pm, pb, pfr, pto, pbf, ptr, phf, pht, pbs⟩ rfl (⟨Or.inr (Or.inl ⟨rfl, ⟨h1j, h2j, rfl, h1, rfl, h2, fun h _ _ => absurd h3a (h _ h3l)⟩, ⟨rfl, rfl, rfl, rfl, rfl, rfl, rfl, rfl⟩⟩), hfr⟩) dX3_addCall_48
    · refine r_zneN (pc := 13) (tgt := 19) C (by first | omega | (have := hIn _ (by omega); omega)) dX3_addCall_13 (by decide) (fun h => absurd h (by decide)) (fun _ => ?_)
      refine r_bi (pc := 16) (v := (-2)) C rfl dX3_addCall_16 ?_
      subst hQ
      exact e_iW C hr hk (Nat.le_refl _) (Nat.le_refl _) ⟨mov, cnt, inp, outs, brd, mvd, got, owe, pn, pa, ph, pl, pm, pb, pfr, pto, pbf, ptr, phf, pht, pbs⟩ rfl (⟨Or.inl ⟨rfl, fun g => h2 g.2, ⟨rfl, rfl, rfl, rfl, rfl, rfl, rfl, rfl⟩⟩, hfr⟩) dX3_addCall_18
  · refine r_zeqN (pc := 5) (tgt := 16) C (by first | omega | (have := hIn _ (by omega); omega)) dX3_addCall_5 (by decide) (fun _ => ?_) (fun h => absurd h (by decide))
    refine r_bi (pc := 16) (v := (-2)) C rfl dX3_addCall_16 ?_
    subst hQ
    exact e_iW C hr hk (Nat.le_refl _) (Nat.le_refl _) ⟨mov, cnt, inp, outs, brd, mvd, got, owe, pn, pa, ph, pl, pm, pb, pfr, pto, pbf, ptr, phf, pht, pbs⟩ rfl (⟨Or.inl ⟨rfl, fun g => h1 g.1, ⟨rfl, rfl, rfl, rfl, rfl, rfl, rfl, rfl⟩⟩, hfr⟩) dX3_addCall_18

theorem iX3_addOutput_X3 : ∀ w ∈ u_ws RX3 TX3 14, w ∈ wsX3_addOutput := by decide +kernel
abbrev rmX3_addOutput : Room := { frames := 27, cells := 0, slots := 0, locals := 673 }
theorem n_X3_addOutput : yX3_addOutput.cls = RX3 ∧ yX3_addOutput.cls ≠ "java/lang/invoke/MethodHandle" ∧ yX3_addOutput.cls ≠ "java/lang/invoke/VarHandle" ∧ (parseMethodDescriptor yX3_addOutput.desc).map (fun d => d.parameters.length) = some 3 := by decide +kernel
set_option maxHeartbeats 4000000 in
set_option maxRecDepth 100000 in
theorem k_X3_addOutput (l : Launch) (D : va_G) (cT : Nat → ClassId) (sA fst wid mid las pat bro mov cnt sI sO sB sM sG sW : Nat) (inp outs brd mvd got owe : Nat → Nat) (q pn : Nat) (pa : Int32) (qf qt qb qr ph qhf qht pl pm : Nat) (pb : Int32) (qs : Nat) (pfr pto : Nat → Nat) (pbf ptr : Nat → Int32) (phf pht : Nat → Nat) (pbs : Nat → Int32) (x y : Int32) (hCn : cnt ≤ 16) (hIn : ∀ c, c < 16 → inp c < 16) (hOu : ∀ c, c < 16 → outs c < 65536) (hBo : ∀ c, c < 16 → brd c < 4) (hW1 : 1 ≤ wid) (hW2 : wid ≤ 4) (hfr : ∀ c, c < 16 → pfr c < 65536 ∧ pto c < 65536) (hok : Ok1 cnt wid inp outs brd) (hM4 : mid ≤ 4) (hPa : pat ≤ 3) (hFW : fst * wid ≤ 16) (hLW : las * wid ≤ 16) (hF4 : fst ≤ 4) (hL4 : las ≤ 4) : MWi (S := Nat × Nat × (Nat → Nat) × (Nat → Nat) × (Nat → Nat) × (Nat → Nat) × (Nat → Nat) × (Nat → Nat) × Nat × Int32 × Nat × Nat × Nat × Int32 × (Nat → Nat) × (Nat → Nat) × (Nat → Int32) × (Nat → Int32) × (Nat → Nat) × (Nat → Nat) × (Nat → Int32)) l D cT yX3_addOutput wsX3_addOutput rmX3_addOutput [.ref sA, .ref q, .int x, .int y] [(sA, cSt fst wid mid las pat bro mov cnt sI sO sB sM sG sW), (sI, aN (cT 0) 16 inp), (sO, aN (cT 0) 16 outs), (sB, aN (cT 0) 16 brd), (sM, aN (cT 0) 16 mvd), (sG, aN (cT 0) 16 got), (sW, aN (cT 0) 16 owe), (q, cPl pn pa qf qt qb qr ph qhf qht pl pm pb qs), (qf, aN (cT 0) 16 pfr), (qt, aN (cT 0) 16 pto), (qb, aI (cT 0) 16 pbf), (qr, aI (cT 0) 16 ptr), (qhf, aN (cT 0) 4 phf), (qht, aN (cT 0) 4 pht), (qs, aI (cT 0) 16 pbs)] (fun r u => AOq wid mid las pat bro mov cnt inp outs brd mvd got owe x y r u.1 u.2.1 u.2.2.1 u.2.2.2.1 u.2.2.2.2.1 u.2.2.2.2.2.1 u.2.2.2.2.2.2.1 u.2.2.2.2.2.2.2.1 ∧ (∀ c, c < 16 → u.2.2.2.2.2.2.2.2.2.2.2.2.2.2.1 c < 65536 ∧ u.2.2.2.2.2.2.2.2.2.2.2.2.2.2.2.1 c < 65536)) (fun u => [(sA, cSt fst wid mid las pat bro u.1 u.2.1 sI sO sB sM sG sW), (sI, aN (cT 0) 16 u.2.2.1), (sO, aN (cT 0) 16 u.2.2.2.1), (sB, aN (cT 0) 16 u.2.2.2.2.1), (sM, aN (cT 0) 16 u.2.2.2.2.2.1), (sG, aN (cT 0) 16 u.2.2.2.2.2.2.1), (sW, aN (cT 0) 16 u.2.2.2.2.2.2.2.1), (q, cPl u.2.2.2.2.2.2.2.2.1 u.2.2.2.2.2.2.2.2.2.1 qf qt qb qr u.2.2.2.2.2.2.2.2.2.2.1 qhf qht u.2.2.2.2.2.2.2.2.2.2.2.1 u.2.2.2.2.2.2.2.2.2.2.2.2.1 u.2.2.2.2.2.2.2.2.2.2.2.2.2.1 qs), (qf, aN (cT 0) 16 u.2.2.2.2.2.2.2.2.2.2.2.2.2.2.1), (qt, aN (cT 0) 16 u.2.2.2.2.2.2.2.2.2.2.2.2.2.2.2.1), (qb, aI (cT 0) 16 u.2.2.2.2.2.2.2.2.2.2.2.2.2.2.2.2.1), (qr, aI (cT 0) 16 u.2.2.2.2.2.2.2.2.2.2.2.2.2.2.2.2.2.1), (qhf, aN (cT 0) 4 u.2.2.2.2.2.2.2.2.2.2.2.2.2.2.2.2.2.2.1), (qht, aN (cT 0) 4 u.2.2.2.2.2.2.2.2.2.2.2.2.2.2.2.2.2.2.2.1), (qs, aI (cT 0) 16 u.2.2.2.2.2.2.2.2.2.2.2.2.2.2.2.2.2.2.2.2)]) 0 0 := by
  refine m_Wi [(0, .ref sA), (1, .ref q), (2, .int x), (3, .int y)] (by decide +kernel) rfl (Nat.le_of_ble_eq_true rfl) rfl ?_
  intro p e s m args below meth c A hAe C hA hr hk hnm_
  generalize hQ : MQ below (va_Qi _ _ A) args s 0 0 A = Q
  refine r_aln (pc := 0) C 0 rfl dX3_addOutput_0 ?_
  refine r_iln (pc := 1) C 2 rfl dX3_addOutput_1 ?_
  refine c_RV (pc := 2) (As := [.int x]) (wc := [(sA, cSt fst wid mid las pat bro mov cnt sI sO sB sM sG sW)]) (qr := 0) C (k_X3_hasCall l D cT sA fst wid mid las pat bro mov cnt sI sO sB sM sG sW x (by first | assumption | omega)) (cwV 1 C.1.2.2.2.2 gX3_addOutput_X3_hasCall rfl rfl rfl n_X3_hasCall ⟨Nat.le_of_ble_eq_true rfl, Nat.le_of_ble_eq_true rfl⟩) [0] rfl rfl rfl rfl rfl (Nat.le_of_ble_eq_true rfl) ⟨Nat.zero_le _, Nat.zero_le _⟩ dX3_addOutput_2 (fun r2 h1 => ?_)
  rcases h1 with ⟨rfl, h1j, rfl, h1⟩ | ⟨rfl, h1⟩
  · refine r_zeqN (pc := 5) (tgt := 16) C (by first | omega | exact p2_lt31 (by omega) | (have := pcTo_le (outs _) 16; omega) | (have := hIn _ (by omega); omega)) dX3_addOutput_5 (by decide) (fun h => absurd h (by decide)) (fun _ => ?_)
    refine r_aln (pc := 8) C 0 rfl dX3_addOutput_8 ?_
    refine r_iln (pc := 9) C 3 rfl dX3_addOutput_9 ?_
    refine c_RV (pc := 10) (As := [.int y]) (wc := [(sA, cSt fst wid mid las pat bro mov cnt sI sO sB sM sG sW)]) (qr := 0) C (k_X3_hasOutput l D cT sA fst wid mid las pat bro mov cnt sI sO sB sM sG sW y (by first | assumption | omega)) (cwV 1 C.1.2.2.2.2 gX3_addOutput_X3_hasOutput rfl rfl rfl n_X3_hasOutput ⟨Nat.le_of_ble_eq_true rfl, Nat.le_of_ble_eq_true rfl⟩) [0] rfl rfl rfl rfl rfl (Nat.le_of_ble_eq_true rfl) ⟨Nat.zero_le _, Nat.zero_le _⟩ dX3_addOutput_10 (fun r10 h2 => ?_)
    rcases h2 with ⟨rfl, h2j, rfl, h2⟩ | ⟨rfl, h2⟩
    · refine r_zneN (pc := 13) (tgt := 19) C (by first | omega | exact p2_lt31 (by omega) | (have := pcTo_le (outs _) 16; omega) | (have := hIn _ (by omega); omega)) dX3_addOutput_13 (by decide) (fun _ => ?_) (fun h => absurd h (by decide))
      refine r_aln (pc := 19) C 0 rfl dX3_addOutput_19 ?_
      refine r_iln (pc := 20) C 3 rfl dX3_addOutput_20 ?_
      refine c_RV (pc := 21) (As := [.int (nI h2j)]) (wc := [(sA, cSt fst wid mid las pat bro mov cnt sI sO sB sM sG sW), (sO, aN (cT 0) 16 outs)]) (qr := 0) C (k_X3_callAtOutput l D cT sA fst wid mid las pat bro mov cnt sI sO sB sM sG sW outs h2j (by first | assumption | omega) (by first | assumption | omega) (by first | assumption | omega)) (cwV 1 C.1.2.2.2.2 gX3_addOutput_X3_callAtOutput rfl rfl rfl n_X3_callAtOutput ⟨Nat.le_of_ble_eq_true rfl, Nat.le_of_ble_eq_true rfl⟩) [0, 2] rfl rfl rfl rfl rfl (Nat.le_of_ble_eq_true rfl) ⟨Nat.zero_le _, Nat.zero_le _⟩ dX3_addOutput_21 (fun r21 h3 => ?_)
      rcases h3 with ⟨rfl, h3⟩ | ⟨h3k, rfl, h3l, h3a, h3b⟩
      · refine r_ic (pc := 24) (v := (-1)) C rfl dX3_addOutput_24 ?_
        refine r_cne (pc := 25) (tgt := 41) C dX3_addOutput_25 (by decide) (fun c25 => absurd c25 (by exact fun h => h rfl)) (fun c25 => ?_)
        refine r_aln (pc := 28) C 0 rfl dX3_addOutput_28 ?_
        refine r_get (pc := 29) C iX3_addOutput_X3 0 rfl rfl 9 (by decide) (mw 1 rfl) rfl rfl dX3_addOutput_29 ?_
        refine r_iln (pc := 32) C 2 rfl dX3_addOutput_32 ?_
        refine r_ialN (pc := 33) C 2 rfl (by first | omega | exact p2_lt31 (by omega) | (have := pcTo_le (outs _) 16; omega) | (have := hIn _ (by omega); omega)) (by decide) dX3_addOutput_33 ?_
        refine c_RS (pc := 34) (As := [.int (nI (outs h1j))]) (wc := [])  C (k_J6_bitCount_0f7a4 l D cT (outs h1j) (hOu _ (by omega))) (va_cwS 1 C.1.2.2.2.2 gX3_addOutput_J6_bitCount_0f7a4 rfl rfl rfl n_J6_bitCount_0f7a4 ⟨Nat.le_of_ble_eq_true rfl, Nat.le_of_ble_eq_true rfl⟩) [] rfl rfl rfl (Nat.le_of_ble_eq_true rfl) ⟨Nat.zero_le _, Nat.zero_le _⟩ dX3_addOutput_34 (fun r34 h4 => ?_)
        subst h4
        refine r_ic (pc := 37) (v := nI 4) C rfl dX3_addOutput_37 ?_
        refine r_cltN (pc := 38) (tgt := 44) C (Nat.lt_of_le_of_lt (pcTo_le _ 16) (by decide)) (by decide) dX3_addOutput_38 (by decide) (fun c38 => ?_) (fun c38 => ?_)
        · refine r_aln (pc := 44) C 1 rfl dX3_addOutput_44 ?_
          refine r_aln (pc := 45) C 0 rfl dX3_addOutput_45 ?_
          refine r_iln (pc := 46) C 2 rfl dX3_addOutput_46 ?_
          refine r_aln (pc := 47) C 0 rfl dX3_addOutput_47 ?_
          refine r_iln (pc := 48) C 3 rfl dX3_addOutput_48 ?_
          refine c_RV (pc := 49) (As := [.int (nI h2j)]) (wc := [(sA, cSt fst wid mid las pat bro mov cnt sI sO sB sM sG sW)]) (qr := 0) C (k_X3_boardOf l D cT sA fst wid mid las pat bro mov cnt sI sO sB sM sG sW h2j (by omega) hW2 (by omega)) (cwV 1 C.1.2.2.2.2 gX3_addOutput_X3_boardOf rfl rfl rfl n_X3_boardOf ⟨Nat.le_of_ble_eq_true rfl, Nat.le_of_ble_eq_true rfl⟩) [0] rfl rfl rfl rfl rfl (Nat.le_of_ble_eq_true rfl) ⟨Nat.zero_le _, Nat.zero_le _⟩ dX3_addOutput_49 (fun r49 h5 => ?_)
          subst h5
          refine c_WVi (pc := 52) (As := [.ref sA, .int (nI h1j), .int (nI (h2j / wid))]) (wc := [(q, cPl pn pa qf qt qb qr ph qhf qht pl pm pb qs), (qf, aN (cT 0) 16 pfr), (qt, aN (cT 0) 16 pto), (qb, aI (cT 0) 16 pbf), (qr, aI (cT 0) 16 ptr), (qhf, aN (cT 0) 4 phf), (qht, aN (cT 0) 4 pht), (qs, aI (cT 0) 16 pbs), (sA, cSt fst wid mid las pat bro mov cnt sI sO sB sM sG sW), (sI, aN (cT 0) 16 inp), (sO, aN (cT 0) 16 outs), (sB, aN (cT 0) 16 brd)]) (wr := [(sM, aN (cT 0) 16 mvd), (sG, aN (cT 0) 16 got), (sW, aN (cT 0) 16 owe)]) (qr := 7) C hA (k_X1_forMoreOutputs l D cT q pn pa qf qt qb qr ph qhf qht pl pm pb qs pfr pto pbf ptr phf pht pbs sA fst wid mid las pat bro mov cnt sI sO sB sM sG sW inp outs brd h1j (h2j / wid) hCn hIn hOu hBo hW1 hW2 hfr hok hM4 hPa h1 (div_lt4 h2 hL4)) (cwV 3 C.1.2.2.2.2 gX3_addOutput_X1_forMoreOutputs rfl rfl rfl n_X1_forMoreOutputs ⟨Nat.le_of_ble_eq_true rfl, Nat.le_of_ble_eq_true rfl⟩) rfl rfl [7, 8, 9, 10, 11, 12, 13, 14, 0, 1, 2, 3] [4, 5, 6] rfl rfl ⟨by decide, by decide⟩ (by decide) [11, 12, 13, 14, 0, 1, 2, 3, 4, 5, 6, 7, 8, 9, 10] (fun u7 => [(sA, cSt fst wid mid las pat bro mov cnt sI sO sB sM sG sW), (sI, aN (cT 0) 16 inp), (sO, aN (cT 0) 16 outs), (sB, aN (cT 0) 16 brd), (sM, aN (cT 0) 16 mvd), (sG, aN (cT 0) 16 got), (sW, aN (cT 0) 16 owe), (q, cPl u7.1 u7.2.1 qf qt qb qr u7.2.2.1 qhf qht u7.2.2.2.1 u7.2.2.2.2.1 u7.2.2.2.2.2.1 qs), (qf, aN (cT 0) 16 u7.2.2.2.2.2.2.1), (qt, aN (cT 0) 16 u7.2.2.2.2.2.2.2.1), (qb, aI (cT 0) 16 u7.2.2.2.2.2.2.2.2.1), (qr, aI (cT 0) 16 u7.2.2.2.2.2.2.2.2.2.1), (qhf, aN (cT 0) 4 u7.2.2.2.2.2.2.2.2.2.2.1), (qht, aN (cT 0) 4 u7.2.2.2.2.2.2.2.2.2.2.2.1), (qs, aI (cT 0) 16 u7.2.2.2.2.2.2.2.2.2.2.2.2)]) (fun _ => rfl) (by decide) rfl rfl (Nat.le_of_ble_eq_true rfl) ⟨Nat.zero_le _, Nat.zero_le _⟩ dX3_addOutput_52 (fun r52 u7 h6 => ?_)
          obtain ⟨h6, h6p⟩ := h6
          rcases h6 with ⟨rfl, h6⟩ | ⟨h6k, h6q, rfl, h6a, h6b, h6c⟩
          · refine r_is (pc := 55) C [1, 2, 3, 4, 0] [(0, .ref sA), (1, .ref q), (2, .int (nI h1j)), (3, .int (nI h2j)), (4, .int (-1))] (by decide) rfl dX3_addOutput_55 ?_
            refine r_il (pc := 57) C 4 rfl dX3_addOutput_57 ?_
            refine r_ic (pc := 59) (v := (-1)) C rfl dX3_addOutput_59 ?_
            refine r_cne (pc := 60) (tgt := 66) C dX3_addOutput_60 (by decide) (fun c60 => absurd c60 (by exact fun h => h rfl)) (fun c60 => ?_)
            refine r_bi (pc := 63) (v := (-3)) C rfl dX3_addOutput_63 ?_
            subst hQ
            exact e_iW C hr hk (Nat.le_refl _) (Nat.le_refl _) ⟨mov, cnt, inp, outs, brd, mvd, got, owe, u7.1, u7.2.1, u7.2.2.1, u7.2.2.2.1, u7.2.2.2.2.1, u7.2.2.2.2.2.1, u7.2.2.2.2.2.2.1, u7.2.2.2.2.2.2.2.1, u7.2.2.2.2.2.2.2.2.1, u7.2.2.2.2.2.2.2.2.2.1, u7.2.2.2.2.2.2.2.2.2.2.1, u7.2.2.2.2.2.2.2.2.2.2.2.1, u7.2.2.2.2.2.2.2.2.2.2.2.2⟩ rfl (⟨Or.inr (Or.inl ⟨rfl, ⟨h1j, h2j, rfl, h1, rfl, h2, fun _ _ => h6⟩, ⟨rfl, rfl, rfl, rfl, rfl, rfl, rfl, rfl⟩⟩), h6p⟩) dX3_addOutput_65
          · refine r_is (pc := 55) C [1, 2, 3, 4, 0] [(0, .ref sA), (1, .ref q), (2, .int (nI h1j)), (3, .int (nI h2j)), (4, .int (nI h6k))] (by decide) rfl dX3_addOutput_55 ?_
            refine r_il (pc := 57) C 4 rfl dX3_addOutput_57 ?_
            refine r_ic (pc := 59) (v := (-1)) C rfl dX3_addOutput_59 ?_
            refine r_cne (pc := 60) (tgt := 66) C dX3_addOutput_60 (by decide) (fun c60 => ?_) (fun c60 => absurd c60 (by exact nI_m1 (by omega)))
            refine r_aln (pc := 66) C 0 rfl dX3_addOutput_66 ?_
            refine r_aln (pc := 67) C 1 rfl dX3_addOutput_67 ?_
            refine r_iln (pc := 68) C 2 rfl dX3_addOutput_68 ?_
            refine r_aln (pc := 69) C 0 rfl dX3_addOutput_69 ?_
            refine r_get (pc := 70) C iX3_addOutput_X3 0 rfl rfl 8 (by decide) (mw 2 rfl) rfl rfl dX3_addOutput_70 ?_
            refine r_iln (pc := 73) C 2 rfl dX3_addOutput_73 ?_
            refine r_ialN (pc := 74) C 1 rfl (by first | omega | exact p2_lt31 (by omega) | (have := pcTo_le (outs _) 16; omega) | (have := hIn _ (by omega); omega)) (by decide) dX3_addOutput_74 ?_
            refine c_WVv (pc := 75) (As := [.ref q, .int (nI h1j), .int (nI (inp h1j))]) (wc := [(sA, cSt fst wid mid las pat bro mov cnt sI sO sB sM sG sW), (sI, aN (cT 0) 16 inp), (sB, aN (cT 0) 16 brd), (sM, aN (cT 0) 16 mvd), (sG, aN (cT 0) 16 got), (sW, aN (cT 0) 16 owe), (q, cPl u7.1 u7.2.1 qf qt qb qr u7.2.2.1 qhf qht u7.2.2.2.1 u7.2.2.2.2.1 u7.2.2.2.2.2.1 qs), (qs, aI (cT 0) 16 u7.2.2.2.2.2.2.2.2.2.2.2.2)]) (wr := [(sO, aN (cT 0) 16 outs), (qf, aN (cT 0) 16 u7.2.2.2.2.2.2.1), (qt, aN (cT 0) 16 u7.2.2.2.2.2.2.2.1), (qb, aI (cT 0) 16 u7.2.2.2.2.2.2.2.2.1), (qr, aI (cT 0) 16 u7.2.2.2.2.2.2.2.2.2.1), (qhf, aN (cT 0) 4 u7.2.2.2.2.2.2.2.2.2.2.1), (qht, aN (cT 0) 4 u7.2.2.2.2.2.2.2.2.2.2.2.1)]) (qr := 0) C hA (k_X3_moveOver l D cT sA fst wid mid las pat bro mov cnt sI sO sB sM sG sW inp brd mvd got owe q u7.1 u7.2.1 qf qt qb qr u7.2.2.1 qhf qht u7.2.2.2.1 u7.2.2.2.2.1 u7.2.2.2.2.2.1 qs u7.2.2.2.2.2.2.2.2.2.2.2.2 (nI h1j) (inp h1j) h6q h1j hCn hIn hBo (fun c hc => ⟨h6c c hc, (h6b.1 c hc).1⟩) (fun c hc => ⟨fun e => nI_inj4 (by omega) (by omega) e, fun e => by rw [e]⟩) (hIn _ (by omega))) (cwV 3 C.1.2.2.2.2 gX3_addOutput_X3_moveOver rfl rfl rfl n_X3_moveOver ⟨Nat.le_of_ble_eq_true rfl, Nat.le_of_ble_eq_true rfl⟩) rfl rfl [0, 1, 3, 4, 5, 6, 7, 14] [2, 8, 9, 10, 11, 12, 13] rfl rfl ⟨by decide, by decide⟩ (by decide) [7, 8, 0, 9, 10, 11, 12, 13, 1, 2, 3, 4, 5, 6, 14] (fun u9 => [(sA, cSt fst wid mid las pat bro u9.1 cnt sI sO sB sM sG sW), (sI, aN (cT 0) 16 inp), (sO, aN (cT 0) 16 outs), (sB, aN (cT 0) 16 u9.2.1), (sM, aN (cT 0) 16 u9.2.2.1), (sG, aN (cT 0) 16 u9.2.2.2.1), (sW, aN (cT 0) 16 u9.2.2.2.2), (q, cPl u7.1 u7.2.1 qf qt qb qr u7.2.2.1 qhf qht u7.2.2.2.1 u7.2.2.2.2.1 u7.2.2.2.2.2.1 qs), (qf, aN (cT 0) 16 u7.2.2.2.2.2.2.1), (qt, aN (cT 0) 16 u7.2.2.2.2.2.2.2.1), (qb, aI (cT 0) 16 u7.2.2.2.2.2.2.2.2.1), (qr, aI (cT 0) 16 u7.2.2.2.2.2.2.2.2.2.1), (qhf, aN (cT 0) 4 u7.2.2.2.2.2.2.2.2.2.2.1), (qht, aN (cT 0) 4 u7.2.2.2.2.2.2.2.2.2.2.2.1), (qs, aI (cT 0) 16 u7.2.2.2.2.2.2.2.2.2.2.2.2)]) (fun _ => rfl) (by decide) rfl rfl (Nat.le_of_ble_eq_true rfl) ⟨Nat.zero_le _, Nat.zero_le _⟩ dX3_addOutput_75 (fun u9 h8 => ?_)
            refine r_aln (pc := 78) C 0 rfl dX3_addOutput_78 ?_
            refine r_get (pc := 79) C iX3_addOutput_X3 0 rfl rfl 9 (by decide) (mw 1 rfl) rfl rfl dX3_addOutput_79 ?_
            refine r_iln (pc := 82) C 2 rfl dX3_addOutput_82 ?_
            refine r_dup2 (pc := 83) C rfl rfl dX3_addOutput_83 ?_
            refine r_ialN (pc := 84) C 2 rfl (by first | omega | exact p2_lt31 (by omega) | (have := pcTo_le (outs _) 16; omega) | (have := hIn _ (by omega); omega)) (by decide) dX3_addOutput_84 ?_
            refine r_ic (pc := 85) (v := nI 1) C rfl dX3_addOutput_85 ?_
            refine r_iln (pc := 86) C 3 rfl dX3_addOutput_86 ?_
            refine r_ishlN (pc := 87) C (by first | omega | exact p2_lt31 (by omega) | (have := pcTo_le (outs _) 16; omega) | (have := hIn _ (by omega); omega)) (by rw [Nat.one_mul]; exact p2_lt31 (by first | omega | exact p2_lt31 (by omega) | (have := pcTo_le (outs _) 16; omega) | (have := hIn _ (by omega); omega))) dX3_addOutput_87 ?_
            refine r_v (y := nI (2 ^ h2j)) (congrArg nI (Nat.one_mul _)) ?_
            refine r_iorN (pc := 88) C dX3_addOutput_88 ?_
            refine r_iasN (pc := 89) (ws2 := [(sA, cSt fst wid mid las pat bro u9.1 cnt sI sO sB sM sG sW), (sI, aN (cT 0) 16 inp), (sO, aN (cT 0) 16 (va_up outs h1j ((outs h1j) ||| (2 ^ h2j)))), (sB, aN (cT 0) 16 u9.2.1), (sM, aN (cT 0) 16 u9.2.2.1), (sG, aN (cT 0) 16 u9.2.2.2.1), (sW, aN (cT 0) 16 u9.2.2.2.2), (q, cPl u7.1 u7.2.1 qf qt qb qr u7.2.2.1 qhf qht u7.2.2.2.1 u7.2.2.2.2.1 u7.2.2.2.2.2.1 qs), (qf, aN (cT 0) 16 u7.2.2.2.2.2.2.1), (qt, aN (cT 0) 16 u7.2.2.2.2.2.2.2.1), (qb, aI (cT 0) 16 u7.2.2.2.2.2.2.2.2.1), (qr, aI (cT 0) 16 u7.2.2.2.2.2.2.2.2.2.1), (qhf, aN (cT 0) 4 u7.2.2.2.2.2.2.2.2.2.2.1), (qht, aN (cT 0) 4 u7.2.2.2.2.2.2.2.2.2.2.2.1), (qs, aI (cT 0) 16 u7.2.2.2.2.2.2.2.2.2.2.2.2)]) C 2 rfl (by first | omega | exact p2_lt31 (by omega) | (have := pcTo_le (outs _) 16; omega) | (have := hIn _ (by omega); omega)) (by decide) rfl dX3_addOutput_89 ?_
            refine r_il (pc := 90) C 4 rfl dX3_addOutput_90 ?_
            subst hQ
            exact e_iW C hr hk (Nat.le_refl _) (Nat.le_refl _) ⟨u9.1, cnt, inp, va_up outs h1j ((outs h1j) ||| (2 ^ h2j)), u9.2.1, u9.2.2.1, u9.2.2.2.1, u9.2.2.2.2, u7.1, u7.2.1, u7.2.2.1, u7.2.2.2.1, u7.2.2.2.2.1, u7.2.2.2.2.2.1, u7.2.2.2.2.2.2.1, u7.2.2.2.2.2.2.2.1, u7.2.2.2.2.2.2.2.2.1, u7.2.2.2.2.2.2.2.2.2.1, u7.2.2.2.2.2.2.2.2.2.2.1, u7.2.2.2.2.2.2.2.2.2.2.2.1, u7.2.2.2.2.2.2.2.2.2.2.2.2⟩ rfl (⟨Or.inr (Or.inr ⟨h1j, h2j, h6k, h6q, rfl, h1, rfl, h2, h3, c38, rfl, h6a, h6b, h8, rfl, rfl, rfl⟩), h6p⟩) dX3_addOutput_92
        · refine r_bi (pc := 41) (v := (-3)) C rfl dX3_addOutput_41 ?_
          subst hQ
          exact e_iW C hr hk (Nat.le_refl _) (Nat.le_refl _) ⟨mov, cnt, inp, outs, brd, mvd, got, owe, pn, pa, ph, pl, pm, pb, pfr, pto, pbf, ptr, phf, pht, pbs⟩ rfl (⟨Or.inr (Or.inl ⟨rfl, ⟨h1j, h2j, rfl, h1, rfl, h2, fun _ h => absurd h (by omega)⟩, ⟨rfl, rfl, rfl, rfl, rfl, rfl, rfl, rfl⟩⟩), hfr⟩) dX3_addOutput_43
      · refine r_ic (pc := 24) (v := (-1)) C rfl dX3_addOutput_24 ?_
        refine r_cne (pc := 25) (tgt := 41) C dX3_addOutput_25 (by decide) (fun c25 => ?_) (fun c25 => absurd c25 (by exact nI_m1 (by omega)))
        refine r_bi (pc := 41) (v := (-3)) C rfl dX3_addOutput_41 ?_
        subst hQ
        exact e_iW C hr hk (Nat.le_refl _) (Nat.le_refl _) ⟨mov, cnt, inp, outs, brd, mvd, got, owe, pn, pa, ph, pl, pm, pb, pfr, pto, pbf, ptr, phf, pht, pbs⟩ rfl (⟨Or.inr (Or.inl ⟨rfl, ⟨h1j, h2j, rfl, h1, rfl, h2, fun h _ => absurd h3a (h _ h3l)⟩, ⟨rfl, rfl, rfl, rfl, rfl, rfl, rfl, rfl⟩⟩), hfr⟩) dX3_addOutput_43
    · refine r_zneN (pc := 13) (tgt := 19) C (by first | omega | exact p2_lt31 (by omega) | (have := pcTo_le (outs _) 16; omega) | (have := hIn _ (by omega); omega)) dX3_addOutput_13 (by decide) (fun h => absurd h (by decide)) (fun _ => ?_)
      refine r_bi (pc := 16) (v := (-2)) C rfl dX3_addOutput_16 ?_
      subst hQ
      exact e_iW C hr hk (Nat.le_refl _) (Nat.le_refl _) ⟨mov, cnt, inp, outs, brd, mvd, got, owe, pn, pa, ph, pl, pm, pb, pfr, pto, pbf, ptr, phf, pht, pbs⟩ rfl (⟨Or.inl ⟨rfl, fun g => h2 g.2, ⟨rfl, rfl, rfl, rfl, rfl, rfl, rfl, rfl⟩⟩, hfr⟩) dX3_addOutput_18
  · refine r_zeqN (pc := 5) (tgt := 16) C (by first | omega | exact p2_lt31 (by omega) | (have := pcTo_le (outs _) 16; omega) | (have := hIn _ (by omega); omega)) dX3_addOutput_5 (by decide) (fun _ => ?_) (fun h => absurd h (by decide))
    refine r_bi (pc := 16) (v := (-2)) C rfl dX3_addOutput_16 ?_
    subst hQ
    exact e_iW C hr hk (Nat.le_refl _) (Nat.le_refl _) ⟨mov, cnt, inp, outs, brd, mvd, got, owe, pn, pa, ph, pl, pm, pb, pfr, pto, pbf, ptr, phf, pht, pbs⟩ rfl (⟨Or.inl ⟨rfl, fun g => h1 g.1, ⟨rfl, rfl, rfl, rfl, rfl, rfl, rfl, rfl⟩⟩, hfr⟩) dX3_addOutput_18

