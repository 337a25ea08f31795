/-! runs of a script, runs of a simulation -/
theorem lg_lt {x y : Int64} (h : lg_cmp x y < 0) : x < y := by
  unfold lg_cmp at h
  split at h
  · exact absurd h (by decide)
  · rename_i g
    split at h
    · exact absurd h (by decide)
    · rename_i g2
      rw [Int64.lt_iff_toInt_lt] at *
      have : ¬ x.toInt = y.toInt := fun e => g2 (Int64.toInt_inj.mp e)
      have g3 : ¬ y.toInt < x.toInt := fun e => g (Int64.lt_iff_toInt_lt.mpr e)
      omega
theorem lg_nlt {x y : Int64} (h : ¬ lg_cmp x y < 0) : ¬ x < y := by
  intro g
  apply h
  unfold lg_cmp
  rw [Int64.lt_iff_toInt_lt] at g
  rw [if_neg (fun q : x > y => by have := Int64.lt_iff_toInt_lt.mp q; omega), if_neg (fun q => by rw [q] at g; omega)]
  decide
theorem lg_eq {x y : Int64} : lg_cmp x y = 0 ↔ x = y := by
  unfold lg_cmp
  constructor
  · intro h
    split at h
    · exact absurd h (by decide)
    · split at h
      · assumption
      · exact absurd h (by decide)
  · rintro rfl
    rw [if_neg (fun q : x > x => by have := Int64.lt_iff_toInt_lt.mp q; omega), if_pos rfl]
abbrev jN (n : Nat) : Int64 := Int64.ofNat n
theorem jN_toInt {n : Nat} (h : n < 2 ^ 63) : (jN n).toInt = n := Int64.toInt_ofNat_of_lt h
theorem jN_of {x : Int64} (h : ¬ x < 0) : ∃ n, n < 2 ^ 63 ∧ x = jN n := by
  rw [Int64.lt_iff_toInt_lt, Int64.toInt_zero] at h
  have h2 := Int64.toInt_lt x
  refine ⟨x.toInt.toNat, by omega, Int64.toInt_inj.mp ?_⟩
  rw [jN_toInt (by omega)]
  omega
theorem jN_div {n : Nat} (h : n < 2 ^ 63) : jN n / 100000 = jN (n / 100000) := by
  apply Int64.toInt_inj.mp
  rw [Int64.toInt_div_of_ne_right _ _ (by decide), jN_toInt h, jN_toInt (Nat.lt_of_le_of_lt (Nat.div_le_self _ _) h), show (100000 : Int64).toInt = ((100000 : Nat) : Int) by decide]
  exact (Int.ofNat_tdiv n 100000).symm
theorem agL_N {n : Nat} (h : n < 2 ^ 63) : ∀ k, agL k (jN n) = jN (n / 100000 ^ k)
  | 0 => by show jN n = _; rw [Nat.pow_zero, Nat.div_one]
  | k + 1 => by
    show agL k (jN n) / 100000 = _
    rw [agL_N h k, jN_div (Nat.lt_of_le_of_lt (Nat.div_le_self _ _) h), Nat.div_div_eq_div_mul, Nat.pow_succ]
theorem jN_rem {n : Nat} (h : n < 2 ^ 63) : jN n - jN n / 100000 * 100000 = jN (n % 100000) := by
  rw [jN_div h, show (100000 : Int64) = Int64.ofNat 100000 from rfl]
  show Int64.ofNat n - Int64.ofNat (n / 100000) * Int64.ofNat 100000 = Int64.ofNat (n % 100000)
  rw [← Int64.ofNat_mul, ← Int64.ofNat_sub _ _ (by omega)]
  congr 1
  omega
theorem lr_eq {n : Nat} (h : n < 2 ^ 63) (k : Nat) : agL k (jN n) - agL k (jN n) / 100000 * 100000 = jN (n / 100000 ^ k % 100000) := by
  rw [agL_N h k]
  exact jN_rem (Nat.lt_of_le_of_lt (Nat.div_le_self _ _) h)
theorem jN_i (m : Nat) : (jN m).toInt32 = nI m := Int64.toInt32_ofNat'
theorem jN_0 {n : Nat} (h : n < 2 ^ 63) : jN n = 0 ↔ n = 0 := by
  rw [← Int64.toInt_inj, jN_toInt h, Int64.toInt_zero]
  omega
theorem ag_0 {n j : Nat} (h : n < 2 ^ 63) : lg_cmp (agL j (jN n)) 0 = 0 ↔ n < 100000 ^ j := by
  rw [lg_eq, agL_N h, jN_0 (Nat.lt_of_le_of_lt (Nat.div_le_self _ _) h), Nat.div_eq_zero_iff]
  have := Nat.pow_pos (n := j) (show 0 < 100000 by decide)
  omega
theorem ush_i (x : Int64) : ((x.toUInt64 >>> ((nI 33).toInt64.toUInt64 &&& Int64.toUInt64 63)).toInt64).toInt32 = nI (x.toUInt64.toNat / 2 ^ 33) := by
  rw [show (nI 33).toInt64.toUInt64 &&& Int64.toUInt64 63 = 33 by decide]
  have h : (x.toUInt64 >>> 33).toNat = x.toUInt64.toNat / 2 ^ 33 := by
    rw [UInt64.toNat_shiftRight, Nat.shiftRight_eq_div_pow]; rfl
  rw [← h, show x.toUInt64 >>> 33 = UInt64.ofNat (x.toUInt64 >>> 33).toNat from (UInt64.ofNat_toNat).symm]
  show ((jN (x.toUInt64 >>> 33).toNat).toInt32 : Int32) = _
  rw [jN_i, UInt64.ofNat_toNat]
theorem ush_lt (x : Int64) : x.toUInt64.toNat / 2 ^ 33 < 2147483648 := by
  have := x.toUInt64.toNat_lt
  omega
theorem nI_rng {x : Int32} {a b : Nat} (ha : a < 2147483648) (hb : b + 1 < 2147483648) (h1 : ¬ x < nI a) (h2 : x ≤ nI b) : ∃ j, x = nI j ∧ a ≤ j ∧ j ≤ b := by
  rw [Int32.lt_iff_toInt_lt, nI_toInt ha] at h1
  rw [Int32.le_iff_toInt_le, nI_toInt (by omega)] at h2
  obtain ⟨j, e, hj⟩ := nI_lt_of_int (x := x) (n := b + 1) (by omega) (by omega) hb
  refine ⟨j, e, ?_, by omega⟩
  rw [e, nI_toInt (by omega)] at h1
  omega
theorem nI_nr1 {x : Int32} {a b : Nat} (hb : b < 2147483648) (h : x < nI a) (ha : a < 2147483648) : ¬ ∃ j, x = nI j ∧ a ≤ j ∧ j ≤ b := by
  rintro ⟨j, rfl, h1, h2⟩
  rw [Int32.lt_iff_toInt_lt, nI_toInt ha, nI_toInt (by omega)] at h
  omega
theorem nI_nr2 {x : Int32} {a b : Nat} (hb : b < 2147483648) (h : ¬ x ≤ nI b) : ¬ ∃ j, x = nI j ∧ a ≤ j ∧ j ≤ b := by
  rintro ⟨j, rfl, h1, h2⟩
  rw [Int32.le_iff_toInt_le, nI_toInt hb, nI_toInt (by omega)] at h
  omega
def SS : Type := (Nat → Nat) × (Nat → Nat → Nat)
abbrev SS.mk (fst wid mid las pat bro mov cnt : Nat) (inp outs brd mvd got owe : Nat → Nat) : SS := (mkI fst wid mid las pat bro mov cnt, mkT inp outs brd mvd got owe)
abbrev SS.fst (u : SS) : Nat := Prod.fst (α := Nat → Nat) (β := Nat → Nat → Nat) u 0
abbrev SS.wid (u : SS) : Nat := Prod.fst (α := Nat → Nat) (β := Nat → Nat → Nat) u 1
abbrev SS.mid (u : SS) : Nat := Prod.fst (α := Nat → Nat) (β := Nat → Nat → Nat) u 2
abbrev SS.las (u : SS) : Nat := Prod.fst (α := Nat → Nat) (β := Nat → Nat → Nat) u 3
abbrev SS.pat (u : SS) : Nat := Prod.fst (α := Nat → Nat) (β := Nat → Nat → Nat) u 4
abbrev SS.bro (u : SS) : Nat := Prod.fst (α := Nat → Nat) (β := Nat → Nat → Nat) u 5
abbrev SS.mov (u : SS) : Nat := Prod.fst (α := Nat → Nat) (β := Nat → Nat → Nat) u 6
abbrev SS.cnt (u : SS) : Nat := Prod.fst (α := Nat → Nat) (β := Nat → Nat → Nat) u 7
abbrev SS.inp (u : SS) : Nat → Nat := Prod.snd (α := Nat → Nat) (β := Nat → Nat → Nat) u 0
abbrev SS.outs (u : SS) : Nat → Nat := Prod.snd (α := Nat → Nat) (β := Nat → Nat → Nat) u 1
abbrev SS.brd (u : SS) : Nat → Nat := Prod.snd (α := Nat → Nat) (β := Nat → Nat → Nat) u 2
abbrev SS.mvd (u : SS) : Nat → Nat := Prod.snd (α := Nat → Nat) (β := Nat → Nat → Nat) u 3
abbrev SS.got (u : SS) : Nat → Nat := Prod.snd (α := Nat → Nat) (β := Nat → Nat → Nat) u 4
abbrev SS.owe (u : SS) : Nat → Nat := Prod.snd (α := Nat → Nat) (β := Nat → Nat → Nat) u 5
abbrev SINV (u : SS) : Prop := INVq u.fst u.wid u.mid u.las u.pat u.bro u.cnt u.inp u.outs u.brd
def SUs (u : SS) (g : Nat) (r : Int32) (v : SS) : Prop := SUq u.fst u.wid u.mid u.las u.pat u.bro u.mov u.cnt u.inp u.outs u.brd u.mvd u.got u.owe (g / 10000) (g / 100 % 100) (g % 100) r v.pat v.bro v.mov v.cnt v.inp v.outs v.brd v.mvd v.got v.owe ∧ v.fst = u.fst ∧ v.wid = u.wid ∧ v.mid = u.mid ∧ v.las = u.las
def MTs (u : SS) (g : Nat) (r : Int32) (v : SS) : Prop := MTq u.fst u.wid u.mid u.las u.pat u.bro u.mov u.cnt u.inp u.outs u.brd u.mvd u.got u.owe g r v.mov v.cnt v.inp v.outs v.brd v.mvd v.got v.owe ∧ v.fst = u.fst ∧ v.wid = u.wid ∧ v.mid = u.mid ∧ v.las = u.las ∧ v.pat = u.pat ∧ v.bro = u.bro
theorem inv_su {fst wid mid las pat bro mov cnt : Nat} {inp outs brd mvd got owe : Nat → Nat} {r : Int32} {pat' bro' mov' cnt' : Nat} {inp' outs' brd' mvd' got' owe' : Nat → Nat} {k hi lo : Nat} (hI : INVq fst wid mid las pat bro cnt inp outs brd) (h : SUq fst wid mid las pat bro mov cnt inp outs brd mvd got owe k hi lo r pat' bro' mov' cnt' inp' outs' brd' mvd' got' owe') : INVq fst wid mid las pat' bro' cnt' inp' outs' brd' := by
  rcases h with ⟨-, r0, h, rfl, rfl, -⟩ | ⟨-, r0, h, rfl, rfl, -⟩ | ⟨-, -, r0, h, -, -, -, rfl, rfl, -⟩ | ⟨-, -, r0, h, e, rfl, rfl, -⟩ | ⟨-, -, hk, r0, h, e, rfl, -⟩ | ⟨-, -, hl, rfl, rfl, e, -⟩ | ⟨⟨e, rfl, rfl⟩, -⟩ | ⟨⟨e, rfl, rfl⟩, -⟩
  · exact inv_ac hI h
  · exact inv_ao hI h
  · exact inv_hg hI h
  · obtain ⟨-, rfl, rfl, rfl, -⟩ := e
    exact inv_dr hI h
  · obtain ⟨-, rfl, rfl, rfl, rfl, -⟩ := e
    exact inv_bk hI (by omega) h
  · obtain ⟨-, rfl, rfl, rfl, rfl, -⟩ := e
    exact ⟨hI.1, hI.2.1, hI.2.2.1, hI.2.2.2.1, hl, hI.2.2.2.2.2⟩
  · obtain ⟨-, rfl, rfl, rfl, rfl, -⟩ := e
    exact hI
  · obtain ⟨-, rfl, rfl, rfl, rfl, -⟩ := e
    exact hI
theorem inv_mt {fst wid mid las pat bro mov cnt : Nat} {inp outs brd mvd got owe : Nat → Nat} {r : Int32} {mov' cnt' : Nat} {inp' outs' brd' mvd' got' owe' : Nat → Nat} {rr : Nat} (hI : INVq fst wid mid las pat bro cnt inp outs brd) (h : MTq fst wid mid las pat bro mov cnt inp outs brd mvd got owe rr r mov' cnt' inp' outs' brd' mvd' got' owe') : INVq fst wid mid las pat bro cnt' inp' outs' brd' := by
  rcases h with ⟨-, r0, h, -⟩ | ⟨-, r0, h, -⟩ | ⟨-, r0, h, e, -⟩ | ⟨-, r0, h, -⟩
  · exact inv_ao hI h
  · exact inv_hg hI h
  · obtain ⟨-, rfl, rfl, rfl, -⟩ := e
    exact inv_dr hI h
  · exact inv_ac hI h
/-- so many groups succeeded -/
def runQ (gf : Nat → Nat) : Nat → SS → SS → Prop
  | 0, u, v => v = u
  | i + 1, u, v => ∃ w r, runQ gf i u w ∧ ¬ r = 0 ∧ SUs w (gf i) r v
def lcg (x : Int64) : Int64 := x * 6364136223846793005 + 1442695040888963407
def lcgs (x : Int64) : Nat → Int64
  | 0 => x
  | i + 1 => lcg (lcgs x i)
def simQ (sd : Int64) : Nat → SS → SS → Int32 → Prop
  | 0, u, v, t => v = u ∧ t = nI 0
  | i + 1, u, v, t => ∃ w t0 r, simQ sd i u w t0 ∧ MTs w ((lcgs sd (i + 1)).toUInt64.toNat / 2 ^ 33) r v ∧ t = t0 + r
theorem sc_lt {j1 j s1 s : Nat} (e : j1 = j) (h1 : s1 < 2 ^ 63) (h4 : s < 2 ^ 63) (h5 : jN s1 = jN s) (h6 : s < 100000 ^ j) : s1 < 100000 ^ j1 := by
  have e2 := ((jN_toInt h1).symm.trans (congrArg Int64.toInt h5)).trans (jN_toInt h4)
  have e3 : s1 = s := Int.ofNat.inj e2
  rw [e, e3]
  exact h6

theorem iX4_runScript_X4 : ∀ w ∈ u_ws RX4 TX4 7, w ∈ wsX4_runScript := by decide +kernel
theorem aX4_runScript_56 : ∀ w ∈ (vx_atS RX4 56 xIA xN2).filter goodWord, w ∈ wsX4_runScript := by decide +kernel
abbrev rmX4_runScript : Room := { frames := 29, cells := 1, slots := 6, locals := 720 }
theorem n_X4_runScript : yX4_runScript.cls = RX4 ∧ yX4_runScript.cls ≠ "java/lang/invoke/MethodHandle" ∧ yX4_runScript.cls ≠ "java/lang/invoke/VarHandle" ∧ (parseMethodDescriptor yX4_runScript.desc).map (fun d => d.parameters.length) = some 2 := by decide +kernel
set_option maxHeartbeats 4000000 in
set_option maxRecDepth 100000 in
theorem k_X4_runScript (l : Launch) (D : va_G) (cT : Nat → ClassId) (sa : Nat → Nat) (hlt : l.stackTraces = false) (sw sA sC ha aS aH q ra fst wid mid las pat bro mov cnt sI sO sB sM sG sW : Nat) (inp outs brd mvd got owe : Nat → Nat) (xf xw xm xl xp xb xv xc yI yO yB yM yG yW : Nat) (xinp xouts xbrd xmvd xgot xowe : Nat → Nat) (pn : Nat) (pa : Int32) (qf qt qb qr ph qhf qht pl pm : Nat) (pb : Int32) (qs : Nat) (pfr pto : Nat → Nat) (pbf ptr : Nat → Int32) (phf pht : Nat → Nat) (pbs : Nat → Int32) (x : Int32) (sx : Int64) (hI : INVq fst wid mid las pat bro cnt inp outs brd) (hfr : ∀ c, c < 16 → pfr c < 65536 ∧ pto c < 65536) : MX (S := Nat × Nat × Nat × Nat × Nat × Nat × Nat × Nat × (Nat → Nat) × (Nat → Nat) × (Nat → Nat) × (Nat → Nat) × (Nat → Nat) × (Nat → Nat) × Nat × Int32 × Nat × Nat × Nat × Int32 × (Nat → Nat) × (Nat → Nat) × (Nat → Int32) × (Nat → Int32) × (Nat → Nat) × (Nat → Nat) × (Nat → Int32)) (SX := Nat × Nat × Nat × Nat × Nat × Nat × Nat × Nat × (Nat → Nat) × (Nat → Nat) × (Nat → Nat) × (Nat → Nat) × (Nat → Nat) × (Nat → Nat) × Nat × Int32 × Nat × Nat × Nat × Int32 × (Nat → Nat) × (Nat → Nat) × (Nat → Int32) × (Nat → Int32) × (Nat → Nat) × (Nat → Nat) × (Nat → Int32)) l D cT sa yX4_runScript wsX4_runScript rmX4_runScript [.ref sw, .int x, .long sx] [(sw, cSw sA sC ha aS aH q ra), (sA, cSt fst wid mid las pat bro mov cnt sI sO sB sM sG sW), (sI, aN (cT 0) 16 inp), (sO, aN (cT 0) 16 outs), (sB, aN (cT 0) 16 brd), (sM, aN (cT 0) 16 mvd), (sG, aN (cT 0) 16 got), (sW, aN (cT 0) 16 owe), (sC, cSt xf xw xm xl xp xb xv xc yI yO yB yM yG yW), (yI, aN (cT 0) 16 xinp), (yO, aN (cT 0) 16 xouts), (yB, aN (cT 0) 16 xbrd), (yM, aN (cT 0) 16 xmvd), (yG, aN (cT 0) 16 xgot), (yW, aN (cT 0) 16 xowe), (q, cPl pn pa qf qt qb qr ph qhf qht pl pm pb qs), (qf, aN (cT 0) 16 pfr), (qt, aN (cT 0) 16 pto), (qb, aI (cT 0) 16 pbf), (qr, aI (cT 0) 16 ptr), (qhf, aN (cT 0) 4 phf), (qht, aN (cT 0) 4 pht), (qs, aI (cT 0) 16 pbs)] (fun r u => (∃ j s, x = nI j ∧ 1 ≤ j ∧ j ≤ 3 ∧ sx = jN s ∧ s < 2 ^ 63 ∧ s < 100000 ^ j ∧ ((∃ i v w, i < j ∧ r = nI i ∧ runQ (fun i => s / 100000 ^ (j - 1 - i) % 100000) i (SS.mk fst wid mid las pat bro mov cnt inp outs brd mvd got owe) v ∧ SUs v (s / 100000 ^ (j - 1 - i) % 100000) 0 w) ∨ (r = -1 ∧ ∃ v, runQ (fun i => s / 100000 ^ (j - 1 - i) % 100000) j (SS.mk fst wid mid las pat bro mov cnt inp outs brd mvd got owe) v))) ∧ (∀ c, c < 16 → u.2.2.2.2.2.2.2.2.2.2.2.2.2.2.2.2.2.2.2.2.1 c < 65536 ∧ u.2.2.2.2.2.2.2.2.2.2.2.2.2.2.2.2.2.2.2.2.2.1 c < 65536)) (fun u => [(sw, cSw sA sC ha aS aH q ra), (sA, cSt fst wid mid las pat bro mov cnt sI sO sB sM sG sW), (sI, aN (cT 0) 16 inp), (sO, aN (cT 0) 16 outs), (sB, aN (cT 0) 16 brd), (sM, aN (cT 0) 16 mvd), (sG, aN (cT 0) 16 got), (sW, aN (cT 0) 16 owe), (sC, cSt u.1 u.2.1 u.2.2.1 u.2.2.2.1 u.2.2.2.2.1 u.2.2.2.2.2.1 u.2.2.2.2.2.2.1 u.2.2.2.2.2.2.2.1 yI yO yB yM yG yW), (yI, aN (cT 0) 16 u.2.2.2.2.2.2.2.2.1), (yO, aN (cT 0) 16 u.2.2.2.2.2.2.2.2.2.1), (yB, aN (cT 0) 16 u.2.2.2.2.2.2.2.2.2.2.1), (yM, aN (cT 0) 16 u.2.2.2.2.2.2.2.2.2.2.2.1), (yG, aN (cT 0) 16 u.2.2.2.2.2.2.2.2.2.2.2.2.1), (yW, aN (cT 0) 16 u.2.2.2.2.2.2.2.2.2.2.2.2.2.1), (q, cPl u.2.2.2.2.2.2.2.2.2.2.2.2.2.2.1 u.2.2.2.2.2.2.2.2.2.2.2.2.2.2.2.1 qf qt qb qr u.2.2.2.2.2.2.2.2.2.2.2.2.2.2.2.2.1 qhf qht u.2.2.2.2.2.2.2.2.2.2.2.2.2.2.2.2.2.1 u.2.2.2.2.2.2.2.2.2.2.2.2.2.2.2.2.2.2.1 u.2.2.2.2.2.2.2.2.2.2.2.2.2.2.2.2.2.2.2.1 qs), (qf, aN (cT 0) 16 u.2.2.2.2.2.2.2.2.2.2.2.2.2.2.2.2.2.2.2.2.1), (qt, aN (cT 0) 16 u.2.2.2.2.2.2.2.2.2.2.2.2.2.2.2.2.2.2.2.2.2.1), (qb, aI (cT 0) 16 u.2.2.2.2.2.2.2.2.2.2.2.2.2.2.2.2.2.2.2.2.2.2.1), (qr, aI (cT 0) 16 u.2.2.2.2.2.2.2.2.2.2.2.2.2.2.2.2.2.2.2.2.2.2.2.1), (qhf, aN (cT 0) 4 u.2.2.2.2.2.2.2.2.2.2.2.2.2.2.2.2.2.2.2.2.2.2.2.2.1), (qht, aN (cT 0) 4 u.2.2.2.2.2.2.2.2.2.2.2.2.2.2.2.2.2.2.2.2.2.2.2.2.2.1), (qs, aI (cT 0) 16 u.2.2.2.2.2.2.2.2.2.2.2.2.2.2.2.2.2.2.2.2.2.2.2.2.2.2)]) (fun E u => (E = xIA ∧ ¬ ∃ j, x = nI j ∧ 1 ≤ j ∧ j ≤ 3 ∧ ∃ s, s < 2 ^ 63 ∧ sx = jN s ∧ s < 100000 ^ j) ∧ (∀ c, c < 16 → u.2.2.2.2.2.2.2.2.2.2.2.2.2.2.2.2.2.2.2.2.1 c < 65536 ∧ u.2.2.2.2.2.2.2.2.2.2.2.2.2.2.2.2.2.2.2.2.2.1 c < 65536)) (fun u => [(sw, cSw sA sC ha aS aH q ra), (sA, cSt fst wid mid las pat bro mov cnt sI sO sB sM sG sW), (sI, aN (cT 0) 16 inp), (sO, aN (cT 0) 16 outs), (sB, aN (cT 0) 16 brd), (sM, aN (cT 0) 16 mvd), (sG, aN (cT 0) 16 got), (sW, aN (cT 0) 16 owe), (sC, cSt u.1 u.2.1 u.2.2.1 u.2.2.2.1 u.2.2.2.2.1 u.2.2.2.2.2.1 u.2.2.2.2.2.2.1 u.2.2.2.2.2.2.2.1 yI yO yB yM yG yW), (yI, aN (cT 0) 16 u.2.2.2.2.2.2.2.2.1), (yO, aN (cT 0) 16 u.2.2.2.2.2.2.2.2.2.1), (yB, aN (cT 0) 16 u.2.2.2.2.2.2.2.2.2.2.1), (yM, aN (cT 0) 16 u.2.2.2.2.2.2.2.2.2.2.2.1), (yG, aN (cT 0) 16 u.2.2.2.2.2.2.2.2.2.2.2.2.1), (yW, aN (cT 0) 16 u.2.2.2.2.2.2.2.2.2.2.2.2.2.1), (q, cPl u.2.2.2.2.2.2.2.2.2.2.2.2.2.2.1 u.2.2.2.2.2.2.2.2.2.2.2.2.2.2.2.1 qf qt qb qr u.2.2.2.2.2.2.2.2.2.2.2.2.2.2.2.2.1 qhf qht u.2.2.2.2.2.2.2.2.2.2.2.2.2.2.2.2.2.1 u.2.2.2.2.2.2.2.2.2.2.2.2.2.2.2.2.2.2.1 u.2.2.2.2.2.2.2.2.2.2.2.2.2.2.2.2.2.2.2.1 qs), (qf, aN (cT 0) 16 u.2.2.2.2.2.2.2.2.2.2.2.2.2.2.2.2.2.2.2.2.1), (qt, aN (cT 0) 16 u.2.2.2.2.2.2.2.2.2.2.2.2.2.2.2.2.2.2.2.2.2.1), (qb, aI (cT 0) 16 u.2.2.2.2.2.2.2.2.2.2.2.2.2.2.2.2.2.2.2.2.2.2.1), (qr, aI (cT 0) 16 u.2.2.2.2.2.2.2.2.2.2.2.2.2.2.2.2.2.2.2.2.2.2.2.1), (qhf, aN (cT 0) 4 u.2.2.2.2.2.2.2.2.2.2.2.2.2.2.2.2.2.2.2.2.2.2.2.2.1), (qht, aN (cT 0) 4 u.2.2.2.2.2.2.2.2.2.2.2.2.2.2.2.2.2.2.2.2.2.2.2.2.2.1), (qs, aI (cT 0) 16 u.2.2.2.2.2.2.2.2.2.2.2.2.2.2.2.2.2.2.2.2.2.2.2.2.2.2)]) 1 6 := by
  refine m_X [(0, .ref sw), (1, .int x), (2, .long sx)] (by decide +kernel) rfl (Nat.le_of_ble_eq_true rfl) rfl ?_
  intro p e s m args below meth c A hAe C hA hr hk htab hX
  generalize hQ : vx_MQ below (va_Qi _ _ A) (vx_X _ _ A) args s 1 6 A = Q
  refine r_iln (pc := 0) C 1 rfl dX4_runScript_0 ?_
  refine r_ic (pc := 1) (v := nI 1) C rfl dX4_runScript_1 ?_
  refine r_clt (pc := 2) (tgt := 10) C dX4_runScript_2 (by decide) (fun c2 => ?_) (fun c2 => ?_)
  · subst hQ
    exact e_throwW (is := 270) (cls := xIA) (text := "n is 1 to 3") C rfl hA hlt hX htab hk (by decide +kernel) (mw 1 rfl) (mw 2 rfl) (by decide +kernel) (by decide +kernel) aX4_runScript_56 xw_IA xg_IA (Nat.le_of_ble_eq_true rfl) (Nat.le_of_ble_eq_true rfl) (Nat.le_of_ble_eq_true rfl) (Nat.le_of_ble_eq_true rfl) (Nat.le_of_ble_eq_true rfl) (Nat.le_of_ble_eq_true rfl) ⟨xf, xw, xm, xl, xp, xb, xv, xc, xinp, xouts, xbrd, xmvd, xgot, xowe, pn, pa, ph, pl, pm, pb, pfr, pto, pbf, ptr, phf, pht, pbs⟩ rfl (⟨⟨rfl, fun ⟨j, h1, h2, h3, _⟩ => nI_nr1 (a := 1) (b := 3) (by decide) c2 (by decide) ⟨j, h1, h2, h3⟩⟩, hfr⟩) dX4_runScript_10 dX4_runScript_13 dX4_runScript_14 dX4_runScript_17 dX4_runScript_20
  · refine r_iln (pc := 5) C 1 rfl dX4_runScript_5 ?_
    refine r_ic (pc := 6) (v := nI 3) C rfl dX4_runScript_6 ?_
    refine r_cle (pc := 7) (tgt := 21) C dX4_runScript_7 (by decide) (fun c7 => ?_) (fun c7 => ?_)
    · obtain ⟨j1, rfl, hj1, hj3⟩ := nI_rng (a := 1) (b := 3) (by decide) (by decide) c2 c7
      refine r_lln (pc := 21) C 2 rfl dX4_runScript_21 ?_
      refine r_lc (pc := 22) (v := 0) C rfl dX4_runScript_22 ?_
      refine r_lcmp (pc := 23) C dX4_runScript_23 ?_
      refine r_zlt (pc := 24) (tgt := 37) C dX4_runScript_24 (by decide) (fun c24 => ?_) (fun c24 => ?_)
      · subst hQ
        exact e_throwW (is := 276) (cls := xIA) (text := "the script has 0 to 5 * n digits") C rfl hA hlt hX htab hk (by decide +kernel) (mw 1 rfl) (mw 2 rfl) (by decide +kernel) (by decide +kernel) aX4_runScript_56 xw_IA xg_IA (Nat.le_of_ble_eq_true rfl) (Nat.le_of_ble_eq_true rfl) (Nat.le_of_ble_eq_true rfl) (Nat.le_of_ble_eq_true rfl) (Nat.le_of_ble_eq_true rfl) (Nat.le_of_ble_eq_true rfl) ⟨xf, xw, xm, xl, xp, xb, xv, xc, xinp, xouts, xbrd, xmvd, xgot, xowe, pn, pa, ph, pl, pm, pb, pfr, pto, pbf, ptr, phf, pht, pbs⟩ rfl (⟨⟨rfl, fun ⟨j, h1, h2, h3, s, h4, h5, h6⟩ => absurd (lg_lt c24) (by rw [h5, Int64.lt_iff_toInt_lt, jN_toInt h4, Int64.toInt_zero]; omega)⟩, hfr⟩) dX4_runScript_37 dX4_runScript_40 dX4_runScript_41 dX4_runScript_44 dX4_runScript_47
      · obtain ⟨s1, hs1, rfl⟩ := jN_of (lg_nlt c24)
        refine r_lln (pc := 27) C 2 rfl dX4_runScript_27 ?_
        refine r_iln (pc := 28) C 1 rfl dX4_runScript_28 ?_
        refine c_RSl (pc := 29) (As := [.long (jN s1), .int (nI j1)]) (wc := [])  C (k_X4_afterGroups l D cT (jN s1) j1 (by first | assumption | omega)) (va_cwS 2 C.1.2.2.2.2 gX4_runScript_X4_afterGroups rfl rfl rfl n_X4_afterGroups ⟨Nat.le_of_ble_eq_true rfl, Nat.le_of_ble_eq_true rfl⟩) [] rfl rfl rfl (Nat.le_of_ble_eq_true rfl) ⟨Nat.zero_le _, Nat.zero_le _⟩ dX4_runScript_29 (fun r29 h1 => ?_)
        subst h1
        refine r_lc (pc := 32) (v := 0) C rfl dX4_runScript_32 ?_
        refine r_lcmp (pc := 33) C dX4_runScript_33 ?_
        refine r_zeq (pc := 34) (tgt := 48) C dX4_runScript_34 (by decide) (fun c34 => ?_) (fun c34 => ?_)
        · refine r_aln (pc := 48) C 0 rfl dX4_runScript_48 ?_
          refine r_get (pc := 49) C iX4_runScript_X4 0 rfl rfl 1 (by decide) (mw 3 rfl) rfl rfl dX4_runScript_49 ?_
          refine r_aln (pc := 52) C 0 rfl dX4_runScript_52 ?_
          refine r_get (pc := 53) C iX4_runScript_X4 0 rfl rfl 0 (by decide) (mw 4 rfl) rfl rfl dX4_runScript_53 ?_
          refine c_WVv (pc := 56) (As := [.ref sA]) (wc := [(sC, cSt xf xw xm xl xp xb xv xc yI yO yB yM yG yW), (yI, aN (cT 0) 16 xinp), (yO, aN (cT 0) 16 xouts), (yB, aN (cT 0) 16 xbrd), (yM, aN (cT 0) 16 xmvd), (yG, aN (cT 0) 16 xgot), (yW, aN (cT 0) 16 xowe), (sA, cSt fst wid mid las pat bro mov cnt sI sO sB sM sG sW), (sI, aN (cT 0) 16 inp), (sO, aN (cT 0) 16 outs), (sB, aN (cT 0) 16 brd), (sM, aN (cT 0) 16 mvd), (sG, aN (cT 0) 16 got), (sW, aN (cT 0) 16 owe)]) (wr := [(sw, cSw sA sC ha aS aH q ra), (q, cPl pn pa qf qt qb qr ph qhf qht pl pm pb qs), (qf, aN (cT 0) 16 pfr), (qt, aN (cT 0) 16 pto), (qb, aI (cT 0) 16 pbf), (qr, aI (cT 0) 16 ptr), (qhf, aN (cT 0) 4 phf), (qht, aN (cT 0) 4 pht), (qs, aI (cT 0) 16 pbs)]) (qr := 8) C hA (k_X3_become l D cT sC xf xw xm xl xp xb xv xc yI yO yB yM yG yW xinp xouts xbrd xmvd xgot xowe sA fst wid mid las pat bro mov cnt sI sO sB sM sG sW inp outs brd mvd got owe) (cwV 1 C.1.2.2.2.2 gX4_runScript_X3_become rfl rfl rfl n_X3_become ⟨Nat.le_of_ble_eq_true rfl, Nat.le_of_ble_eq_true rfl⟩) rfl rfl [8, 9, 10, 11, 12, 13, 14, 1, 2, 3, 4, 5, 6, 7] [0, 15, 16, 17, 18, 19, 20, 21, 22] rfl rfl ⟨by decide, by decide⟩ (by decide) [0, 16, 17, 18, 19, 20, 21, 22, 9, 10, 11, 12, 13, 14, 15, 1, 2, 3, 4, 5, 6, 7, 8] (fun u3 => [(sw, cSw sA sC ha aS aH q ra), (sA, cSt fst wid mid las pat bro mov cnt sI sO sB sM sG sW), (sI, aN (cT 0) 16 inp), (sO, aN (cT 0) 16 outs), (sB, aN (cT 0) 16 brd), (sM, aN (cT 0) 16 mvd), (sG, aN (cT 0) 16 got), (sW, aN (cT 0) 16 owe), (sC, cSt fst wid mid las pat bro mov cnt yI yO yB yM yG yW), (yI, aN (cT 0) 16 inp), (yO, aN (cT 0) 16 outs), (yB, aN (cT 0) 16 brd), (yM, aN (cT 0) 16 mvd), (yG, aN (cT 0) 16 got), (yW, aN (cT 0) 16 owe), (q, cPl pn pa qf qt qb qr ph qhf qht pl pm pb qs), (qf, aN (cT 0) 16 pfr), (qt, aN (cT 0) 16 pto), (qb, aI (cT 0) 16 pbf), (qr, aI (cT 0) 16 ptr), (qhf, aN (cT 0) 4 phf), (qht, aN (cT 0) 4 pht), (qs, aI (cT 0) 16 pbs)]) (fun _ => rfl) (by decide) rfl rfl (Nat.le_of_ble_eq_true rfl) ⟨Nat.zero_le _, Nat.zero_le _⟩ dX4_runScript_56 (fun u3 h2 => ?_)
          refine r_ic (pc := 59) (v := nI 0) C rfl dX4_runScript_59 ?_
          refine r_is (pc := 60) C [1, 2, 3, 0] [(0, .ref sw), (1, .int (nI j1)), (2, .long (jN s1)), (4, .int (nI 0))] (by decide) rfl dX4_runScript_60 ?_
          have L62 : ∀ (n62 : Nat) (i : Nat) (v : SS) (pn1 : Nat) (pa1 : Int32) (ph1 : Nat) (pl1 : Nat) (pm1 : Nat) (pb1 : Int32) (pfr1 : Nat → Nat) (pto1 : Nat → Nat) (pbf1 : Nat → Int32) (ptr1 : Nat → Int32) (phf1 : Nat → Nat) (pht1 : Nat → Nat) (pbs1 : Nat → Int32) (hi2 : i ≤ j1) (hfr1 : (∀ c, c < 16 → pfr1 c < 65536 ∧ pto1 c < 65536)) (hIv : SINV v) (hR : runQ (fun i => s1 / 100000 ^ (j1 - 1 - i) % 100000) i (SS.mk fst wid mid las pat bro mov cnt inp outs brd mvd got owe) v), j1 - i < n62 → RW p l e (headSpec wsX4_runScript rmX4_runScript).room s m args below meth c (IW s D A) 6 0 0 Q [(sw, cSw sA sC ha aS aH q ra), (sA, cSt fst wid mid las pat bro mov cnt sI sO sB sM sG sW), (sI, aN (cT 0) 16 inp), (sO, aN (cT 0) 16 outs), (sB, aN (cT 0) 16 brd), (sM, aN (cT 0) 16 mvd), (sG, aN (cT 0) 16 got), (sW, aN (cT 0) 16 owe), (sC, cSt v.fst v.wid v.mid v.las v.pat v.bro v.mov v.cnt yI yO yB yM yG yW), (yI, aN (cT 0) 16 v.inp), (yO, aN (cT 0) 16 v.outs), (yB, aN (cT 0) 16 v.brd), (yM, aN (cT 0) 16 v.mvd), (yG, aN (cT 0) 16 v.got), (yW, aN (cT 0) 16 v.owe), (q, cPl pn1 pa1 qf qt qb qr ph1 qhf qht pl1 pm1 pb1 qs), (qf, aN (cT 0) 16 pfr1), (qt, aN (cT 0) 16 pto1), (qb, aI (cT 0) 16 pbf1), (qr, aI (cT 0) 16 ptr1), (qhf, aN (cT 0) 4 phf1), (qht, aN (cT 0) 4 pht1), (qs, aI (cT 0) 16 pbs1)] 62 [(0, .ref sw), (1, .int (nI j1)), (2, .long (jN s1)), (4, .int (nI i))] [] := by
            intro n62
            induction n62 with
            | zero => intro i v pn1 pa1 ph1 pl1 pm1 pb1 pfr1 pto1 pbf1 ptr1 phf1 pht1 pbs1 hi2 hfr1 hIv hR hn62; exact absurd hn62 (Nat.not_lt_zero _)
            | succ n62 ih62 =>
              intro i v pn1 pa1 ph1 pl1 pm1 pb1 pfr1 pto1 pbf1 ptr1 phf1 pht1 pbs1 hi2 hfr1 hIv hR hn62
              refine r_il (pc := 62) C 3 rfl dX4_runScript_62 ?_
              refine r_iln (pc := 64) C 1 rfl dX4_runScript_64 ?_
              refine r_cgeN (pc := 65) (tgt := 103) C (by omega) (by omega) dX4_runScript_65 (by decide) (fun c65 => ?_) (fun c65 => ?_)
              · refine r_ic (pc := 103) (v := (-1)) C rfl dX4_runScript_103 ?_
                subst hQ
                exact e_iX C hr hk (by omega) (by omega) ⟨v.fst, v.wid, v.mid, v.las, v.pat, v.bro, v.mov, v.cnt, v.inp, v.outs, v.brd, v.mvd, v.got, v.owe, pn1, pa1, ph1, pl1, pm1, pb1, pfr1, pto1, pbf1, ptr1, phf1, pht1, pbs1⟩ rfl (⟨⟨j1, s1, rfl, hj1, hj3, rfl, hs1, (ag_0 hs1).mp c34, Or.inr ⟨rfl, v, (show i = j1 by omega) ▸ hR⟩⟩, hfr1⟩) dX4_runScript_104
              · refine r_lln (pc := 68) C 2 rfl dX4_runScript_68 ?_
                refine r_iln (pc := 69) C 1 rfl dX4_runScript_69 ?_
                refine r_ic (pc := 70) (v := nI 1) C rfl dX4_runScript_70 ?_
                refine r_isubN (pc := 71) C (by omega) dX4_runScript_71 ?_
                refine r_il (pc := 72) C 3 rfl dX4_runScript_72 ?_
                refine r_isubN (pc := 74) C (by omega) dX4_runScript_74 ?_
                refine c_RSl (pc := 75) (As := [.long (jN s1), .int (nI ((j1 - 1) - i))]) (wc := [])  C (k_X4_afterGroups l D cT (jN s1) ((j1 - 1) - i) (by first | assumption | omega)) (va_cwS 2 C.1.2.2.2.2 gX4_runScript_X4_afterGroups rfl rfl rfl n_X4_afterGroups ⟨Nat.le_of_ble_eq_true rfl, Nat.le_of_ble_eq_true rfl⟩) [] rfl rfl rfl (Nat.le_of_ble_eq_true rfl) ⟨Nat.zero_le _, Nat.zero_le _⟩ dX4_runScript_75 (fun r75 h4 => ?_)
                subst h4
                refine r_lc2 (pc := 78) C (mw 5 rfl) dX4_runScript_78 ?_
                refine r_lrem (pc := 81) C (by decide) rfl dX4_runScript_81 ?_
                refine r_vl (y := jN (s1 / 100000 ^ (j1 - 1 - i) % 100000)) (lr_eq hs1 _) ?_
                refine r_l2i (pc := 82) C rfl dX4_runScript_82 ?_
                refine r_v (y := nI (s1 / 100000 ^ (j1 - 1 - i) % 100000)) (jN_i _) ?_
                refine r_is (pc := 83) C [1, 2, 3, 4, 0] [(0, .ref sw), (1, .int (nI j1)), (2, .long (jN s1)), (4, .int (nI i)), (5, .int (nI (s1 / 100000 ^ (j1 - 1 - i) % 100000)))] (by decide) rfl dX4_runScript_83 ?_
                refine r_aln (pc := 85) C 0 rfl dX4_runScript_85 ?_
                refine r_il (pc := 86) C 4 rfl dX4_runScript_86 ?_
                refine c_WVi (pc := 88) (As := [.int (nI (s1 / 100000 ^ (j1 - 1 - i) % 100000))]) (wc := [(sw, cSw sA sC ha aS aH q ra), (sC, cSt v.fst v.wid v.mid v.las v.pat v.bro v.mov v.cnt yI yO yB yM yG yW), (yI, aN (cT 0) 16 v.inp), (yO, aN (cT 0) 16 v.outs), (yB, aN (cT 0) 16 v.brd), (yM, aN (cT 0) 16 v.mvd), (yG, aN (cT 0) 16 v.got), (yW, aN (cT 0) 16 v.owe), (q, cPl pn1 pa1 qf qt qb qr ph1 qhf qht pl1 pm1 pb1 qs), (qf, aN (cT 0) 16 pfr1), (qt, aN (cT 0) 16 pto1), (qb, aI (cT 0) 16 pbf1), (qr, aI (cT 0) 16 ptr1), (qhf, aN (cT 0) 4 phf1), (qht, aN (cT 0) 4 pht1), (qs, aI (cT 0) 16 pbs1)]) (wr := [(sA, cSt fst wid mid las pat bro mov cnt sI sO sB sM sG sW), (sI, aN (cT 0) 16 inp), (sO, aN (cT 0) 16 outs), (sB, aN (cT 0) 16 brd), (sM, aN (cT 0) 16 mvd), (sG, aN (cT 0) 16 got), (sW, aN (cT 0) 16 owe)]) (qr := 0) C hA (k_X4_succeeds l D cT sw sA sC ha aS aH q ra v.fst v.wid v.mid v.las v.pat v.bro v.mov v.cnt yI yO yB yM yG yW v.inp v.outs v.brd v.mvd v.got v.owe pn1 pa1 qf qt qb qr ph1 qhf qht pl1 pm1 pb1 qs pfr1 pto1 pbf1 ptr1 phf1 pht1 pbs1 (s1 / 100000 ^ (j1 - 1 - i) % 100000) hIv hfr1 (Nat.mod_lt _ (by decide))) (cwV 1 C.1.2.2.2.2 gX4_runScript_X4_succeeds rfl rfl rfl n_X4_succeeds ⟨Nat.le_of_ble_eq_true rfl, Nat.le_of_ble_eq_true rfl⟩) rfl rfl [0, 8, 9, 10, 11, 12, 13, 14, 15, 16, 17, 18, 19, 20, 21, 22] [1, 2, 3, 4, 5, 6, 7] rfl rfl ⟨by decide, by decide⟩ (by decide) [7, 0, 1, 2, 3, 4, 5, 6, 8, 9, 10, 11, 12, 13, 14, 15, 16, 17, 18, 19, 20, 21, 22] (fun u6 => [(sw, cSw sA sC ha aS aH q ra), (sA, cSt fst wid mid las pat bro mov cnt sI sO sB sM sG sW), (sI, aN (cT 0) 16 inp), (sO, aN (cT 0) 16 outs), (sB, aN (cT 0) 16 brd), (sM, aN (cT 0) 16 mvd), (sG, aN (cT 0) 16 got), (sW, aN (cT 0) 16 owe), (sC, cSt v.fst v.wid v.mid v.las u6.1 u6.2.1 u6.2.2.1 u6.2.2.2.1 yI yO yB yM yG yW), (yI, aN (cT 0) 16 u6.2.2.2.2.1), (yO, aN (cT 0) 16 u6.2.2.2.2.2.1), (yB, aN (cT 0) 16 u6.2.2.2.2.2.2.1), (yM, aN (cT 0) 16 u6.2.2.2.2.2.2.2.1), (yG, aN (cT 0) 16 u6.2.2.2.2.2.2.2.2.1), (yW, aN (cT 0) 16 u6.2.2.2.2.2.2.2.2.2.1), (q, cPl u6.2.2.2.2.2.2.2.2.2.2.1 u6.2.2.2.2.2.2.2.2.2.2.2.1 qf qt qb qr u6.2.2.2.2.2.2.2.2.2.2.2.2.1 qhf qht u6.2.2.2.2.2.2.2.2.2.2.2.2.2.1 u6.2.2.2.2.2.2.2.2.2.2.2.2.2.2.1 u6.2.2.2.2.2.2.2.2.2.2.2.2.2.2.2.1 qs), (qf, aN (cT 0) 16 u6.2.2.2.2.2.2.2.2.2.2.2.2.2.2.2.2.1), (qt, aN (cT 0) 16 u6.2.2.2.2.2.2.2.2.2.2.2.2.2.2.2.2.2.1), (qb, aI (cT 0) 16 u6.2.2.2.2.2.2.2.2.2.2.2.2.2.2.2.2.2.2.1), (qr, aI (cT 0) 16 u6.2.2.2.2.2.2.2.2.2.2.2.2.2.2.2.2.2.2.2.1), (qhf, aN (cT 0) 4 u6.2.2.2.2.2.2.2.2.2.2.2.2.2.2.2.2.2.2.2.2.1), (qht, aN (cT 0) 4 u6.2.2.2.2.2.2.2.2.2.2.2.2.2.2.2.2.2.2.2.2.2.1), (qs, aI (cT 0) 16 u6.2.2.2.2.2.2.2.2.2.2.2.2.2.2.2.2.2.2.2.2.2.2)]) (fun _ => rfl) (by decide) rfl rfl (Nat.le_of_ble_eq_true rfl) ⟨Nat.zero_le _, Nat.zero_le _⟩ dX4_runScript_88 (fun r88 u6 h5 => ?_)
                skip
                refine r_zne (pc := 91) (tgt := 97) C dX4_runScript_91 (by decide) (fun c91 => ?_) (fun c91 => ?_)
                · refine r_incN (pc := 97) C 3 [1, 2, 3, 0, 4] [(0, .ref sw), (1, .int (nI j1)), (2, .long (jN s1)), (4, .int (nI (i + 1))), (5, .int (nI (s1 / 100000 ^ (j1 - 1 - i) % 100000)))] rfl (by decide) rfl dX4_runScript_97 ?_
                  refine r_goto (pc := 100) (tgt := 62) C dX4_runScript_100 (by decide) ?_
                  refine r_lv [0, 1, 2, 3] (lv2 := [(0, .ref sw), (1, .int (nI j1)), (2, .long (jN s1)), (4, .int (nI (i + 1)))]) rfl ?_
                  exact ih62 (i + 1) (SS.mk v.fst v.wid v.mid v.las u6.1 u6.2.1 u6.2.2.1 u6.2.2.2.1 u6.2.2.2.2.1 u6.2.2.2.2.2.1 u6.2.2.2.2.2.2.1 u6.2.2.2.2.2.2.2.1 u6.2.2.2.2.2.2.2.2.1 u6.2.2.2.2.2.2.2.2.2.1) u6.2.2.2.2.2.2.2.2.2.2.1 u6.2.2.2.2.2.2.2.2.2.2.2.1 u6.2.2.2.2.2.2.2.2.2.2.2.2.1 u6.2.2.2.2.2.2.2.2.2.2.2.2.2.1 u6.2.2.2.2.2.2.2.2.2.2.2.2.2.2.1 u6.2.2.2.2.2.2.2.2.2.2.2.2.2.2.2.1 u6.2.2.2.2.2.2.2.2.2.2.2.2.2.2.2.2.1 u6.2.2.2.2.2.2.2.2.2.2.2.2.2.2.2.2.2.1 u6.2.2.2.2.2.2.2.2.2.2.2.2.2.2.2.2.2.2.1 u6.2.2.2.2.2.2.2.2.2.2.2.2.2.2.2.2.2.2.2.1 u6.2.2.2.2.2.2.2.2.2.2.2.2.2.2.2.2.2.2.2.2.1 u6.2.2.2.2.2.2.2.2.2.2.2.2.2.2.2.2.2.2.2.2.2.1 u6.2.2.2.2.2.2.2.2.2.2.2.2.2.2.2.2.2.2.2.2.2.2 (by omega) h5.2 (inv_su hIv h5.1) ⟨v, _, hR, c91, h5.1, rfl, rfl, rfl, rfl⟩ (by omega)
                · refine r_il (pc := 94) C 3 rfl dX4_runScript_94 ?_
                  subst hQ
                  exact e_iX C hr hk (by omega) (by omega) ⟨v.fst, v.wid, v.mid, v.las, u6.1, u6.2.1, u6.2.2.1, u6.2.2.2.1, u6.2.2.2.2.1, u6.2.2.2.2.2.1, u6.2.2.2.2.2.2.1, u6.2.2.2.2.2.2.2.1, u6.2.2.2.2.2.2.2.2.1, u6.2.2.2.2.2.2.2.2.2.1, u6.2.2.2.2.2.2.2.2.2.2.1, u6.2.2.2.2.2.2.2.2.2.2.2.1, u6.2.2.2.2.2.2.2.2.2.2.2.2.1, u6.2.2.2.2.2.2.2.2.2.2.2.2.2.1, u6.2.2.2.2.2.2.2.2.2.2.2.2.2.2.1, u6.2.2.2.2.2.2.2.2.2.2.2.2.2.2.2.1, u6.2.2.2.2.2.2.2.2.2.2.2.2.2.2.2.2.1, u6.2.2.2.2.2.2.2.2.2.2.2.2.2.2.2.2.2.1, u6.2.2.2.2.2.2.2.2.2.2.2.2.2.2.2.2.2.2.1, u6.2.2.2.2.2.2.2.2.2.2.2.2.2.2.2.2.2.2.2.1, u6.2.2.2.2.2.2.2.2.2.2.2.2.2.2.2.2.2.2.2.2.1, u6.2.2.2.2.2.2.2.2.2.2.2.2.2.2.2.2.2.2.2.2.2.1, u6.2.2.2.2.2.2.2.2.2.2.2.2.2.2.2.2.2.2.2.2.2.2⟩ rfl (⟨⟨j1, s1, rfl, hj1, hj3, rfl, hs1, (ag_0 hs1).mp c34, Or.inl ⟨i, v, (SS.mk v.fst v.wid v.mid v.las u6.1 u6.2.1 u6.2.2.1 u6.2.2.2.1 u6.2.2.2.2.1 u6.2.2.2.2.2.1 u6.2.2.2.2.2.2.1 u6.2.2.2.2.2.2.2.1 u6.2.2.2.2.2.2.2.2.1 u6.2.2.2.2.2.2.2.2.2.1), by omega, rfl, hR, (by have h9 := h5.1; rw [c91] at h9; exact h9), rfl, rfl, rfl, rfl⟩⟩, h5.2⟩) dX4_runScript_96
          exact L62 _ 0 (SS.mk fst wid mid las pat bro mov cnt inp outs brd mvd got owe) pn pa ph pl pm pb pfr pto pbf ptr phf pht pbs (Nat.zero_le _) hfr hI rfl (Nat.lt_succ_self _)
        · subst hQ
          exact e_throwW (is := 276) (cls := xIA) (text := "the script has 0 to 5 * n digits") C rfl hA hlt hX htab hk (by decide +kernel) (mw 1 rfl) (mw 2 rfl) (by decide +kernel) (by decide +kernel) aX4_runScript_56 xw_IA xg_IA (Nat.le_of_ble_eq_true rfl) (Nat.le_of_ble_eq_true rfl) (Nat.le_of_ble_eq_true rfl) (Nat.le_of_ble_eq_true rfl) (Nat.le_of_ble_eq_true rfl) (Nat.le_of_ble_eq_true rfl) ⟨xf, xw, xm, xl, xp, xb, xv, xc, xinp, xouts, xbrd, xmvd, xgot, xowe, pn, pa, ph, pl, pm, pb, pfr, pto, pbf, ptr, phf, pht, pbs⟩ rfl (⟨⟨rfl, fun ⟨j, h1, h2, h3, s, h4, h5, h6⟩ => c34 ((ag_0 hs1).mpr (sc_lt (nI_inj4 (by omega) (by omega) h1) hs1 h4 h5 h6))⟩, hfr⟩) dX4_runScript_37 dX4_runScript_40 dX4_runScript_41 dX4_runScript_44 dX4_runScript_47
    · subst hQ
      exact e_throwW (is := 270) (cls := xIA) (text := "n is 1 to 3") C rfl hA hlt hX htab hk (by decide +kernel) (mw 1 rfl) (mw 2 rfl) (by decide +kernel) (by decide +kernel) aX4_runScript_56 xw_IA xg_IA (Nat.le_of_ble_eq_true rfl) (Nat.le_of_ble_eq_true rfl) (Nat.le_of_ble_eq_true rfl) (Nat.le_of_ble_eq_true rfl) (Nat.le_of_ble_eq_true rfl) (Nat.le_of_ble_eq_true rfl) ⟨xf, xw, xm, xl, xp, xb, xv, xc, xinp, xouts, xbrd, xmvd, xgot, xowe, pn, pa, ph, pl, pm, pb, pfr, pto, pbf, ptr, phf, pht, pbs⟩ rfl (⟨⟨rfl, fun ⟨j, h1, h2, h3, _⟩ => nI_nr2 (a := 1) (b := 3) (by decide) c7 ⟨j, h1, h2, h3⟩⟩, hfr⟩) dX4_runScript_10 dX4_runScript_13 dX4_runScript_14 dX4_runScript_17 dX4_runScript_20

theorem iX4_simulate_X3 : ∀ w ∈ u_ws RX3 TX3 14, w ∈ wsX4_simulate := by decide +kernel
theorem iX4_simulate_X4 : ∀ w ∈ u_ws RX4 TX4 7, w ∈ wsX4_simulate := by decide +kernel
theorem aX4_simulate_56 : ∀ w ∈ (vx_atS RX4 56 xIA xN2).filter goodWord, w ∈ wsX4_simulate := by decide +kernel
abbrev rmX4_simulate : Room := { frames := 29, cells := 1, slots := 6, locals := 721 }
theorem n_X4_simulate : yX4_simulate.cls = RX4 ∧ yX4_simulate.cls ≠ "java/lang/invoke/MethodHandle" ∧ yX4_simulate.cls ≠ "java/lang/invoke/VarHandle" ∧ (parseMethodDescriptor yX4_simulate.desc).map (fun d => d.parameters.length) = some 2 := by decide +kernel
set_option maxHeartbeats 4000000 in
set_option maxRecDepth 100000 in
theorem k_X4_simulate (l : Launch) (D : va_G) (cT : Nat → ClassId) (sa : Nat → Nat) (hlt : l.stackTraces = false) (sw sA sC ha aS aH q ra fst wid mid las pat bro mov cnt sI sO sB sM sG sW : Nat) (inp outs brd mvd got owe : Nat → Nat) (xf xw xm xl xp xb xv xc yI yO yB yM yG yW : Nat) (xinp xouts xbrd xmvd xgot xowe : Nat → Nat) (pn : Nat) (pa : Int32) (qf qt qb qr ph qhf qht pl pm : Nat) (pb : Int32) (qs : Nat) (pfr pto : Nat → Nat) (pbf ptr : Nat → Int32) (phf pht : Nat → Nat) (pbs : Nat → Int32) (sx : Int64) (x : Int32) (hI : INVq fst wid mid las pat bro cnt inp outs brd) (hfr : ∀ c, c < 16 → pfr c < 65536 ∧ pto c < 65536) : MX (S := Nat × Nat × Nat × Nat × Nat × Nat × Nat × Nat × (Nat → Nat) × (Nat → Nat) × (Nat → Nat) × (Nat → Nat) × (Nat → Nat) × (Nat → Nat) × Nat × Int32 × Nat × Nat × Nat × Int32 × (Nat → Nat) × (Nat → Nat) × (Nat → Int32) × (Nat → Int32) × (Nat → Nat) × (Nat → Nat) × (Nat → Int32)) (SX := Nat × Nat × Nat × Nat × Nat × Nat × Nat × Nat × (Nat → Nat) × (Nat → Nat) × (Nat → Nat) × (Nat → Nat) × (Nat → Nat) × (Nat → Nat) × Nat × Int32 × Nat × Nat × Nat × Int32 × (Nat → Nat) × (Nat → Nat) × (Nat → Int32) × (Nat → Int32) × (Nat → Nat) × (Nat → Nat) × (Nat → Int32)) l D cT sa yX4_simulate wsX4_simulate rmX4_simulate [.ref sw, .long sx, .int x] [(sw, cSw sA sC ha aS aH q ra), (sA, cSt fst wid mid las pat bro mov cnt sI sO sB sM sG sW), (sI, aN (cT 0) 16 inp), (sO, aN (cT 0) 16 outs), (sB, aN (cT 0) 16 brd), (sM, aN (cT 0) 16 mvd), (sG, aN (cT 0) 16 got), (sW, aN (cT 0) 16 owe), (sC, cSt xf xw xm xl xp xb xv xc yI yO yB yM yG yW), (yI, aN (cT 0) 16 xinp), (yO, aN (cT 0) 16 xouts), (yB, aN (cT 0) 16 xbrd), (yM, aN (cT 0) 16 xmvd), (yG, aN (cT 0) 16 xgot), (yW, aN (cT 0) 16 xowe), (q, cPl pn pa qf qt qb qr ph qhf qht pl pm pb qs), (qf, aN (cT 0) 16 pfr), (qt, aN (cT 0) 16 pto), (qb, aI (cT 0) 16 pbf), (qr, aI (cT 0) 16 ptr), (qhf, aN (cT 0) 4 phf), (qht, aN (cT 0) 4 pht), (qs, aI (cT 0) 16 pbs)] (fun r u => (∃ j, x = nI j ∧ 1 ≤ j ∧ j ≤ 60 ∧ ∃ v t, simQ sx j (SS.mk fst wid mid las pat bro mov cnt inp outs brd mvd got owe) v t ∧ r = nI 1000 * t + nI v.cnt) ∧ (∀ c, c < 16 → u.2.2.2.2.2.2.2.2.2.2.2.2.2.2.2.2.2.2.2.2.1 c < 65536 ∧ u.2.2.2.2.2.2.2.2.2.2.2.2.2.2.2.2.2.2.2.2.2.1 c < 65536)) (fun u => [(sw, cSw sA sC ha aS aH q ra), (sA, cSt fst wid mid las pat bro mov cnt sI sO sB sM sG sW), (sI, aN (cT 0) 16 inp), (sO, aN (cT 0) 16 outs), (sB, aN (cT 0) 16 brd), (sM, aN (cT 0) 16 mvd), (sG, aN (cT 0) 16 got), (sW, aN (cT 0) 16 owe), (sC, cSt u.1 u.2.1 u.2.2.1 u.2.2.2.1 u.2.2.2.2.1 u.2.2.2.2.2.1 u.2.2.2.2.2.2.1 u.2.2.2.2.2.2.2.1 yI yO yB yM yG yW), (yI, aN (cT 0) 16 u.2.2.2.2.2.2.2.2.1), (yO, aN (cT 0) 16 u.2.2.2.2.2.2.2.2.2.1), (yB, aN (cT 0) 16 u.2.2.2.2.2.2.2.2.2.2.1), (yM, aN (cT 0) 16 u.2.2.2.2.2.2.2.2.2.2.2.1), (yG, aN (cT 0) 16 u.2.2.2.2.2.2.2.2.2.2.2.2.1), (yW, aN (cT 0) 16 u.2.2.2.2.2.2.2.2.2.2.2.2.2.1), (q, cPl u.2.2.2.2.2.2.2.2.2.2.2.2.2.2.1 u.2.2.2.2.2.2.2.2.2.2.2.2.2.2.2.1 qf qt qb qr u.2.2.2.2.2.2.2.2.2.2.2.2.2.2.2.2.1 qhf qht u.2.2.2.2.2.2.2.2.2.2.2.2.2.2.2.2.2.1 u.2.2.2.2.2.2.2.2.2.2.2.2.2.2.2.2.2.2.1 u.2.2.2.2.2.2.2.2.2.2.2.2.2.2.2.2.2.2.2.1 qs), (qf, aN (cT 0) 16 u.2.2.2.2.2.2.2.2.2.2.2.2.2.2.2.2.2.2.2.2.1), (qt, aN (cT 0) 16 u.2.2.2.2.2.2.2.2.2.2.2.2.2.2.2.2.2.2.2.2.2.1), (qb, aI (cT 0) 16 u.2.2.2.2.2.2.2.2.2.2.2.2.2.2.2.2.2.2.2.2.2.2.1), (qr, aI (cT 0) 16 u.2.2.2.2.2.2.2.2.2.2.2.2.2.2.2.2.2.2.2.2.2.2.2.1), (qhf, aN (cT 0) 4 u.2.2.2.2.2.2.2.2.2.2.2.2.2.2.2.2.2.2.2.2.2.2.2.2.1), (qht, aN (cT 0) 4 u.2.2.2.2.2.2.2.2.2.2.2.2.2.2.2.2.2.2.2.2.2.2.2.2.2.1), (qs, aI (cT 0) 16 u.2.2.2.2.2.2.2.2.2.2.2.2.2.2.2.2.2.2.2.2.2.2.2.2.2.2)]) (fun E u => (E = xIA ∧ ¬ ∃ j, x = nI j ∧ 1 ≤ j ∧ j ≤ 60) ∧ (∀ c, c < 16 → u.2.2.2.2.2.2.2.2.2.2.2.2.2.2.2.2.2.2.2.2.1 c < 65536 ∧ u.2.2.2.2.2.2.2.2.2.2.2.2.2.2.2.2.2.2.2.2.2.1 c < 65536)) (fun u => [(sw, cSw sA sC ha aS aH q ra), (sA, cSt fst wid mid las pat bro mov cnt sI sO sB sM sG sW), (sI, aN (cT 0) 16 inp), (sO, aN (cT 0) 16 outs), (sB, aN (cT 0) 16 brd), (sM, aN (cT 0) 16 mvd), (sG, aN (cT 0) 16 got), (sW, aN (cT 0) 16 owe), (sC, cSt u.1 u.2.1 u.2.2.1 u.2.2.2.1 u.2.2.2.2.1 u.2.2.2.2.2.1 u.2.2.2.2.2.2.1 u.2.2.2.2.2.2.2.1 yI yO yB yM yG yW), (yI, aN (cT 0) 16 u.2.2.2.2.2.2.2.2.1), (yO, aN (cT 0) 16 u.2.2.2.2.2.2.2.2.2.1), (yB, aN (cT 0) 16 u.2.2.2.2.2.2.2.2.2.2.1), (yM, aN (cT 0) 16 u.2.2.2.2.2.2.2.2.2.2.2.1), (yG, aN (cT 0) 16 u.2.2.2.2.2.2.2.2.2.2.2.2.1), (yW, aN (cT 0) 16 u.2.2.2.2.2.2.2.2.2.2.2.2.2.1), (q, cPl u.2.2.2.2.2.2.2.2.2.2.2.2.2.2.1 u.2.2.2.2.2.2.2.2.2.2.2.2.2.2.2.1 qf qt qb qr u.2.2.2.2.2.2.2.2.2.2.2.2.2.2.2.2.1 qhf qht u.2.2.2.2.2.2.2.2.2.2.2.2.2.2.2.2.2.1 u.2.2.2.2.2.2.2.2.2.2.2.2.2.2.2.2.2.2.1 u.2.2.2.2.2.2.2.2.2.2.2.2.2.2.2.2.2.2.2.1 qs), (qf, aN (cT 0) 16 u.2.2.2.2.2.2.2.2.2.2.2.2.2.2.2.2.2.2.2.2.1), (qt, aN (cT 0) 16 u.2.2.2.2.2.2.2.2.2.2.2.2.2.2.2.2.2.2.2.2.2.1), (qb, aI (cT 0) 16 u.2.2.2.2.2.2.2.2.2.2.2.2.2.2.2.2.2.2.2.2.2.2.1), (qr, aI (cT 0) 16 u.2.2.2.2.2.2.2.2.2.2.2.2.2.2.2.2.2.2.2.2.2.2.2.1), (qhf, aN (cT 0) 4 u.2.2.2.2.2.2.2.2.2.2.2.2.2.2.2.2.2.2.2.2.2.2.2.2.1), (qht, aN (cT 0) 4 u.2.2.2.2.2.2.2.2.2.2.2.2.2.2.2.2.2.2.2.2.2.2.2.2.2.1), (qs, aI (cT 0) 16 u.2.2.2.2.2.2.2.2.2.2.2.2.2.2.2.2.2.2.2.2.2.2.2.2.2.2)]) 1 6 := by
  refine m_X [(0, .ref sw), (1, .long sx), (3, .int x)] (by decide +kernel) rfl (Nat.le_of_ble_eq_true rfl) rfl ?_
  intro p e s m args below meth c A hAe C hA hr hk htab hX
  generalize hQ : vx_MQ below (va_Qi _ _ A) (vx_X _ _ A) args s 1 6 A = Q
  refine r_iln (pc := 0) C 2 rfl dX4_simulate_0 ?_
  refine r_ic (pc := 1) (v := nI 1) C rfl dX4_simulate_1 ?_
  refine r_clt (pc := 2) (tgt := 11) C dX4_simulate_2 (by decide) (fun c2 => ?_) (fun c2 => ?_)
  · subst hQ
    exact e_throwW (is := 286) (cls := xIA) (text := "m is 1 to 60") C rfl hA hlt hX htab hk (by decide +kernel) (mw 1 rfl) (mw 2 rfl) (by decide +kernel) (by decide +kernel) aX4_simulate_56 xw_IA xg_IA (Nat.le_of_ble_eq_true rfl) (Nat.le_of_ble_eq_true rfl) (Nat.le_of_ble_eq_true rfl) (Nat.le_of_ble_eq_true rfl) (Nat.le_of_ble_eq_true rfl) (Nat.le_of_ble_eq_true rfl) ⟨xf, xw, xm, xl, xp, xb, xv, xc, xinp, xouts, xbrd, xmvd, xgot, xowe, pn, pa, ph, pl, pm, pb, pfr, pto, pbf, ptr, phf, pht, pbs⟩ rfl (⟨⟨rfl, nI_nr1 (a := 1) (b := 60) (by decide) c2 (by decide)⟩, hfr⟩) dX4_simulate_11 dX4_simulate_14 dX4_simulate_15 dX4_simulate_18 dX4_simulate_21
  · refine r_iln (pc := 5) C 2 rfl dX4_simulate_5 ?_
    refine r_bi (pc := 6) (v := nI 60) C rfl dX4_simulate_6 ?_
    refine r_cle (pc := 8) (tgt := 22) C dX4_simulate_8 (by decide) (fun c8 => ?_) (fun c8 => ?_)
    · obtain ⟨j1, rfl, hj1, hj3⟩ := nI_rng (a := 1) (b := 60) (by decide) (by decide) c2 c8
      refine r_aln (pc := 22) C 0 rfl dX4_simulate_22 ?_
      refine r_get (pc := 23) C iX4_simulate_X4 0 rfl rfl 1 (by decide) (mw 3 rfl) rfl rfl dX4_simulate_23 ?_
      refine r_aln (pc := 26) C 0 rfl dX4_simulate_26 ?_
      refine r_get (pc := 27) C iX4_simulate_X4 0 rfl rfl 0 (by decide) (mw 4 rfl) rfl rfl dX4_simulate_27 ?_
      refine c_WVv (pc := 30) (As := [.ref sA]) (wc := [(sC, cSt xf xw xm xl xp xb xv xc yI yO yB yM yG yW), (yI, aN (cT 0) 16 xinp), (yO, aN (cT 0) 16 xouts), (yB, aN (cT 0) 16 xbrd), (yM, aN (cT 0) 16 xmvd), (yG, aN (cT 0) 16 xgot), (yW, aN (cT 0) 16 xowe), (sA, cSt fst wid mid las pat bro mov cnt sI sO sB sM sG sW), (sI, aN (cT 0) 16 inp), (sO, aN (cT 0) 16 outs), (sB, aN (cT 0) 16 brd), (sM, aN (cT 0) 16 mvd), (sG, aN (cT 0) 16 got), (sW, aN (cT 0) 16 owe)]) (wr := [(sw, cSw sA sC ha aS aH q ra), (q, cPl pn pa qf qt qb qr ph qhf qht pl pm pb qs), (qf, aN (cT 0) 16 pfr), (qt, aN (cT 0) 16 pto), (qb, aI (cT 0) 16 pbf), (qr, aI (cT 0) 16 ptr), (qhf, aN (cT 0) 4 phf), (qht, aN (cT 0) 4 pht), (qs, aI (cT 0) 16 pbs)]) (qr := 8) C hA (k_X3_become l D cT sC xf xw xm xl xp xb xv xc yI yO yB yM yG yW xinp xouts xbrd xmvd xgot xowe sA fst wid mid las pat bro mov cnt sI sO sB sM sG sW inp outs brd mvd got owe) (cwV 1 C.1.2.2.2.2 gX4_simulate_X3_become rfl rfl rfl n_X3_become ⟨Nat.le_of_ble_eq_true rfl, Nat.le_of_ble_eq_true rfl⟩) rfl rfl [8, 9, 10, 11, 12, 13, 14, 1, 2, 3, 4, 5, 6, 7] [0, 15, 16, 17, 18, 19, 20, 21, 22] rfl rfl ⟨by decide, by decide⟩ (by decide) [0, 16, 17, 18, 19, 20, 21, 22, 9, 10, 11, 12, 13, 14, 15, 1, 2, 3, 4, 5, 6, 7, 8] (fun u2 => [(sw, cSw sA sC ha aS aH q ra), (sA, cSt fst wid mid las pat bro mov cnt sI sO sB sM sG sW), (sI, aN (cT 0) 16 inp), (sO, aN (cT 0) 16 outs), (sB, aN (cT 0) 16 brd), (sM, aN (cT 0) 16 mvd), (sG, aN (cT 0) 16 got), (sW, aN (cT 0) 16 owe), (sC, cSt fst wid mid las pat bro mov cnt yI yO yB yM yG yW), (yI, aN (cT 0) 16 inp), (yO, aN (cT 0) 16 outs), (yB, aN (cT 0) 16 brd), (yM, aN (cT 0) 16 mvd), (yG, aN (cT 0) 16 got), (yW, aN (cT 0) 16 owe), (q, cPl pn pa qf qt qb qr ph qhf qht pl pm pb qs), (qf, aN (cT 0) 16 pfr), (qt, aN (cT 0) 16 pto), (qb, aI (cT 0) 16 pbf), (qr, aI (cT 0) 16 ptr), (qhf, aN (cT 0) 4 phf), (qht, aN (cT 0) 4 pht), (qs, aI (cT 0) 16 pbs)]) (fun _ => rfl) (by decide) rfl rfl (Nat.le_of_ble_eq_true rfl) ⟨Nat.zero_le _, Nat.zero_le _⟩ dX4_simulate_30 (fun u2 h1 => ?_)
      refine r_lln (pc := 33) C 1 rfl dX4_simulate_33 ?_
      refine r_lst (pc := 34) C [1, 2, 3, 0] [(0, .ref sw), (1, .long sx), (3, .int (nI j1)), (4, .long sx)] (by decide) rfl dX4_simulate_34 ?_
      refine r_ic (pc := 36) (v := nI 0) C rfl dX4_simulate_36 ?_
      refine r_is (pc := 37) C [1, 2, 3, 4, 0] [(0, .ref sw), (1, .long sx), (3, .int (nI j1)), (4, .long sx), (6, .int (nI 0))] (by decide) rfl dX4_simulate_37 ?_
      refine r_ic (pc := 39) (v := nI 0) C rfl dX4_simulate_39 ?_
      refine r_is (pc := 40) C [1, 2, 3, 4, 5, 0] [(0, .ref sw), (1, .long sx), (3, .int (nI j1)), (4, .long sx), (6, .int (nI 0)), (7, .int (nI 0))] (by decide) rfl dX4_simulate_40 ?_
      have L42 : ∀ (n42 : Nat) (i : Nat) (v : SS) (t : Int32) (pn1 : Nat) (pa1 : Int32) (ph1 : Nat) (pl1 : Nat) (pm1 : Nat) (pb1 : Int32) (pfr1 : Nat → Nat) (pto1 : Nat → Nat) (pbf1 : Nat → Int32) (ptr1 : Nat → Int32) (phf1 : Nat → Nat) (pht1 : Nat → Nat) (pbs1 : Nat → Int32) (hi2 : i ≤ j1) (hfr1 : (∀ c, c < 16 → pfr1 c < 65536 ∧ pto1 c < 65536)) (hIv : SINV v) (hR : simQ sx i (SS.mk fst wid mid las pat bro mov cnt inp outs brd mvd got owe) v t), j1 - i < n42 → RW p l e (headSpec wsX4_simulate rmX4_simulate).room s m args below meth c (IW s D A) 8 0 0 Q [(sw, cSw sA sC ha aS aH q ra), (sA, cSt fst wid mid las pat bro mov cnt sI sO sB sM sG sW), (sI, aN (cT 0) 16 inp), (sO, aN (cT 0) 16 outs), (sB, aN (cT 0) 16 brd), (sM, aN (cT 0) 16 mvd), (sG, aN (cT 0) 16 got), (sW, aN (cT 0) 16 owe), (sC, cSt v.fst v.wid v.mid v.las v.pat v.bro v.mov v.cnt yI yO yB yM yG yW), (yI, aN (cT 0) 16 v.inp), (yO, aN (cT 0) 16 v.outs), (yB, aN (cT 0) 16 v.brd), (yM, aN (cT 0) 16 v.mvd), (yG, aN (cT 0) 16 v.got), (yW, aN (cT 0) 16 v.owe), (q, cPl pn1 pa1 qf qt qb qr ph1 qhf qht pl1 pm1 pb1 qs), (qf, aN (cT 0) 16 pfr1), (qt, aN (cT 0) 16 pto1), (qb, aI (cT 0) 16 pbf1), (qr, aI (cT 0) 16 ptr1), (qhf, aN (cT 0) 4 phf1), (qht, aN (cT 0) 4 pht1), (qs, aI (cT 0) 16 pbs1)] 42 [(0, .ref sw), (1, .long sx), (3, .int (nI j1)), (4, .long (lcgs sx i)), (6, .int t), (7, .int (nI i))] [] := by
        intro n42
        induction n42 with
        | zero => intro i v t pn1 pa1 ph1 pl1 pm1 pb1 pfr1 pto1 pbf1 ptr1 phf1 pht1 pbs1 hi2 hfr1 hIv hR hn42; exact absurd hn42 (Nat.not_lt_zero _)
        | succ n42 ih42 =>
          intro i v t pn1 pa1 ph1 pl1 pm1 pb1 pfr1 pto1 pbf1 ptr1 phf1 pht1 pbs1 hi2 hfr1 hIv hR hn42
          refine r_il (pc := 42) C 5 rfl dX4_simulate_42 ?_
          refine r_iln (pc := 44) C 2 rfl dX4_simulate_44 ?_
          refine r_cgeN (pc := 45) (tgt := 81) C (by omega) (by omega) dX4_simulate_45 (by decide) (fun c45 => ?_) (fun c45 => ?_)
          · refine r_si (pc := 81) (v := nI 1000) C rfl dX4_simulate_81 ?_
            refine r_il (pc := 84) C 4 rfl dX4_simulate_84 ?_
            refine r_imul (pc := 86) C dX4_simulate_86 ?_
            refine r_aln (pc := 87) C 0 rfl dX4_simulate_87 ?_
            refine r_get (pc := 88) C iX4_simulate_X4 0 rfl rfl 1 (by decide) (mw 3 rfl) rfl rfl dX4_simulate_88 ?_
            refine r_get (pc := 91) C iX4_simulate_X3 8 rfl rfl 7 (by decide) (mw 7 rfl) rfl rfl dX4_simulate_91 ?_
            refine r_iadd (pc := 94) C dX4_simulate_94 ?_
            subst hQ
            exact e_iX C hr hk (by omega) (by omega) ⟨v.fst, v.wid, v.mid, v.las, v.pat, v.bro, v.mov, v.cnt, v.inp, v.outs, v.brd, v.mvd, v.got, v.owe, pn1, pa1, ph1, pl1, pm1, pb1, pfr1, pto1, pbf1, ptr1, phf1, pht1, pbs1⟩ rfl (⟨⟨j1, rfl, hj1, hj3, v, t, (show i = j1 by omega) ▸ hR, rfl⟩, hfr1⟩) dX4_simulate_95
          · refine r_ll (pc := 48) C 3 rfl dX4_simulate_48 ?_
            refine r_lc2 (pc := 50) C (mw 5 rfl) dX4_simulate_50 ?_
            refine r_lmul (pc := 53) C dX4_simulate_53 ?_
            refine r_lc2 (pc := 54) C (mw 6 rfl) dX4_simulate_54 ?_
            refine r_ladd (pc := 57) C dX4_simulate_57 ?_
            refine r_vl (y := lcgs sx (i + 1)) rfl ?_
            refine r_lst (pc := 58) C [1, 2, 3, 0, 4, 5] [(0, .ref sw), (1, .long sx), (3, .int (nI j1)), (4, .long (lcgs sx (i + 1))), (6, .int t), (7, .int (nI i))] (by decide) rfl dX4_simulate_58 ?_
            refine r_il (pc := 60) C 4 rfl dX4_simulate_60 ?_
            refine r_aln (pc := 62) C 0 rfl dX4_simulate_62 ?_
            refine r_ll (pc := 63) C 3 rfl dX4_simulate_63 ?_
            refine r_bi (pc := 65) (v := nI 33) C rfl dX4_simulate_65 ?_
            refine r_lushr (pc := 67) C rfl dX4_simulate_67 ?_
            refine r_l2i (pc := 68) C rfl dX4_simulate_68 ?_
            refine r_v (y := nI ((lcgs sx (i + 1)).toUInt64.toNat / 2 ^ 33)) (ush_i _) ?_
            refine c_WVi (pc := 69) (As := [.int (nI ((lcgs sx (i + 1)).toUInt64.toNat / 2 ^ 33))]) (wc := [(sw, cSw sA sC ha aS aH q ra), (sC, cSt v.fst v.wid v.mid v.las v.pat v.bro v.mov v.cnt yI yO yB yM yG yW), (yI, aN (cT 0) 16 v.inp), (yO, aN (cT 0) 16 v.outs), (yB, aN (cT 0) 16 v.brd), (yM, aN (cT 0) 16 v.mvd), (yG, aN (cT 0) 16 v.got), (yW, aN (cT 0) 16 v.owe), (q, cPl pn1 pa1 qf qt qb qr ph1 qhf qht pl1 pm1 pb1 qs), (qf, aN (cT 0) 16 pfr1), (qt, aN (cT 0) 16 pto1), (qb, aI (cT 0) 16 pbf1), (qr, aI (cT 0) 16 ptr1), (qhf, aN (cT 0) 4 phf1), (qht, aN (cT 0) 4 pht1), (qs, aI (cT 0) 16 pbs1)]) (wr := [(sA, cSt fst wid mid las pat bro mov cnt sI sO sB sM sG sW), (sI, aN (cT 0) 16 inp), (sO, aN (cT 0) 16 outs), (sB, aN (cT 0) 16 brd), (sM, aN (cT 0) 16 mvd), (sG, aN (cT 0) 16 got), (sW, aN (cT 0) 16 owe)]) (qr := 0) C hA (k_X4_movesOfTurn l D cT sw sA sC ha aS aH q ra v.fst v.wid v.mid v.las v.pat v.bro v.mov v.cnt yI yO yB yM yG yW v.inp v.outs v.brd v.mvd v.got v.owe pn1 pa1 qf qt qb qr ph1 qhf qht pl1 pm1 pb1 qs pfr1 pto1 pbf1 ptr1 phf1 pht1 pbs1 ((lcgs sx (i + 1)).toUInt64.toNat / 2 ^ 33) hIv hfr1 (ush_lt _)) (cwV 1 C.1.2.2.2.2 gX4_simulate_X4_movesOfTurn rfl rfl rfl n_X4_movesOfTurn ⟨Nat.le_of_ble_eq_true rfl, Nat.le_of_ble_eq_true rfl⟩) rfl rfl [0, 8, 9, 10, 11, 12, 13, 14, 15, 16, 17, 18, 19, 20, 21, 22] [1, 2, 3, 4, 5, 6, 7] rfl rfl ⟨by decide, by decide⟩ (by decide) [7, 0, 1, 2, 3, 4, 5, 6, 8, 9, 10, 11, 12, 13, 14, 15, 16, 17, 18, 19, 20, 21, 22] (fun u4 => [(sw, cSw sA sC ha aS aH q ra), (sA, cSt fst wid mid las pat bro mov cnt sI sO sB sM sG sW), (sI, aN (cT 0) 16 inp), (sO, aN (cT 0) 16 outs), (sB, aN (cT 0) 16 brd), (sM, aN (cT 0) 16 mvd), (sG, aN (cT 0) 16 got), (sW, aN (cT 0) 16 owe), (sC, cSt v.fst v.wid v.mid v.las v.pat v.bro u4.1 u4.2.1 yI yO yB yM yG yW), (yI, aN (cT 0) 16 u4.2.2.1), (yO, aN (cT 0) 16 u4.2.2.2.1), (yB, aN (cT 0) 16 u4.2.2.2.2.1), (yM, aN (cT 0) 16 u4.2.2.2.2.2.1), (yG, aN (cT 0) 16 u4.2.2.2.2.2.2.1), (yW, aN (cT 0) 16 u4.2.2.2.2.2.2.2.1), (q, cPl u4.2.2.2.2.2.2.2.2.1 u4.2.2.2.2.2.2.2.2.2.1 qf qt qb qr u4.2.2.2.2.2.2.2.2.2.2.1 qhf qht u4.2.2.2.2.2.2.2.2.2.2.2.1 u4.2.2.2.2.2.2.2.2.2.2.2.2.1 u4.2.2.2.2.2.2.2.2.2.2.2.2.2.1 qs), (qf, aN (cT 0) 16 u4.2.2.2.2.2.2.2.2.2.2.2.2.2.2.1), (qt, aN (cT 0) 16 u4.2.2.2.2.2.2.2.2.2.2.2.2.2.2.2.1), (qb, aI (cT 0) 16 u4.2.2.2.2.2.2.2.2.2.2.2.2.2.2.2.2.1), (qr, aI (cT 0) 16 u4.2.2.2.2.2.2.2.2.2.2.2.2.2.2.2.2.2.1), (qhf, aN (cT 0) 4 u4.2.2.2.2.2.2.2.2.2.2.2.2.2.2.2.2.2.2.1), (qht, aN (cT 0) 4 u4.2.2.2.2.2.2.2.2.2.2.2.2.2.2.2.2.2.2.2.1), (qs, aI (cT 0) 16 u4.2.2.2.2.2.2.2.2.2.2.2.2.2.2.2.2.2.2.2.2)]) (fun _ => rfl) (by decide) rfl rfl (Nat.le_of_ble_eq_true rfl) ⟨Nat.zero_le _, Nat.zero_le _⟩ dX4_simulate_69 (fun r69 u4 h3 => ?_)
            skip
            refine r_iadd (pc := 72) C dX4_simulate_72 ?_
            refine r_is (pc := 73) C [1, 2, 3, 4, 0, 5] [(0, .ref sw), (1, .long sx), (3, .int (nI j1)), (4, .long (lcgs sx (i + 1))), (6, .int (t + r69)), (7, .int (nI i))] (by decide) rfl dX4_simulate_73 ?_
            refine r_incN (pc := 75) C 5 [1, 2, 3, 4, 5, 0] [(0, .ref sw), (1, .long sx), (3, .int (nI j1)), (4, .long (lcgs sx (i + 1))), (6, .int (t + r69)), (7, .int (nI (i + 1)))] rfl (by decide) rfl dX4_simulate_75 ?_
            refine r_goto (pc := 78) (tgt := 42) C dX4_simulate_78 (by decide) ?_
            exact ih42 (i + 1) (SS.mk v.fst v.wid v.mid v.las v.pat v.bro u4.1 u4.2.1 u4.2.2.1 u4.2.2.2.1 u4.2.2.2.2.1 u4.2.2.2.2.2.1 u4.2.2.2.2.2.2.1 u4.2.2.2.2.2.2.2.1) (t + r69) u4.2.2.2.2.2.2.2.2.1 u4.2.2.2.2.2.2.2.2.2.1 u4.2.2.2.2.2.2.2.2.2.2.1 u4.2.2.2.2.2.2.2.2.2.2.2.1 u4.2.2.2.2.2.2.2.2.2.2.2.2.1 u4.2.2.2.2.2.2.2.2.2.2.2.2.2.1 u4.2.2.2.2.2.2.2.2.2.2.2.2.2.2.1 u4.2.2.2.2.2.2.2.2.2.2.2.2.2.2.2.1 u4.2.2.2.2.2.2.2.2.2.2.2.2.2.2.2.2.1 u4.2.2.2.2.2.2.2.2.2.2.2.2.2.2.2.2.2.1 u4.2.2.2.2.2.2.2.2.2.2.2.2.2.2.2.2.2.2.1 u4.2.2.2.2.2.2.2.2.2.2.2.2.2.2.2.2.2.2.2.1 u4.2.2.2.2.2.2.2.2.2.2.2.2.2.2.2.2.2.2.2.2 (by omega) h3.2 (inv_mt hIv h3.1) ⟨v, t, r69, hR, ⟨h3.1, rfl, rfl, rfl, rfl, rfl, rfl⟩, rfl⟩ (by omega)
      exact L42 _ 0 (SS.mk fst wid mid las pat bro mov cnt inp outs brd mvd got owe) (nI 0) pn pa ph pl pm pb pfr pto pbf ptr phf pht pbs (Nat.zero_le _) hfr hI ⟨rfl, rfl⟩ (Nat.lt_succ_self _)
    · subst hQ
      exact e_throwW (is := 286) (cls := xIA) (text := "m is 1 to 60") C rfl hA hlt hX htab hk (by decide +kernel) (mw 1 rfl) (mw 2 rfl) (by decide +kernel) (by decide +kernel) aX4_simulate_56 xw_IA xg_IA (Nat.le_of_ble_eq_true rfl) (Nat.le_of_ble_eq_true rfl) (Nat.le_of_ble_eq_true rfl) (Nat.le_of_ble_eq_true rfl) (Nat.le_of_ble_eq_true rfl) (Nat.le_of_ble_eq_true rfl) ⟨xf, xw, xm, xl, xp, xb, xv, xc, xinp, xouts, xbrd, xmvd, xgot, xowe, pn, pa, ph, pl, pm, pb, pfr, pto, pbf, ptr, phf, pht, pbs⟩ rfl (⟨⟨rfl, nI_nr2 (a := 1) (b := 60) (by decide) c8⟩, hfr⟩) dX4_simulate_11 dX4_simulate_14 dX4_simulate_15 dX4_simulate_18 dX4_simulate_21

