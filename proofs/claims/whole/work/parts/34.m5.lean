/-! the model's public methods -/
theorem in_lit {x : Int32} {K : Int64} {n : Nat} (hK : K.toInt = (n : Int)) (hn : n < 2147483647) : InQ x.toInt64 0 K ↔ CIn (n + 1) x := by
  unfold InQ
  rw [Int32.toInt_toInt64, i64_0, hK]
  constructor
  · rintro ⟨h1, h2⟩
    obtain ⟨j, e, hj⟩ := nI_lt_of_int (n := n + 1) h1 (by omega) (by omega)
    exact ⟨j, e, hj⟩
  · rintro ⟨j, rfl, hj⟩
    rw [nI_toInt (by omega)]; omega
theorem in_ci {x : Int32} {n : Nat} (hn : n < 1000) : InQ x.toInt64 0 (nI n - nI 1).toInt64 ↔ CIn n x := by
  unfold InQ
  rw [Int32.toInt_toInt64, Int32.toInt_toInt64, i64_0, pk_sub_toInt (by omega) (by decide)]
  constructor
  · rintro ⟨h1, h2⟩
    obtain ⟨j, e, hj⟩ := nI_lt_of_int (n := n) h1 (by omega) (by omega)
    exact ⟨j, e, hj⟩
  · rintro ⟨j, rfl, hj⟩
    rw [nI_toInt (by omega)]; omega
theorem ab_row {f : Nat → Int32} {u : SS} {j : Nat} (h : RowQ f u) (h1 : j < 9) (h7 : ¬ j = 7) (h8 : ¬ j = 8) : f j = nI (abV u.fst u.wid u.mid u.las u.pat u.bro u.mov u.cnt u.outs j) := by
  obtain ⟨⟨a0, a1, a2, a3, a4, a5, a6, a7⟩, -, -⟩ := h
  rcases (show j = 0 ∨ j = 1 ∨ j = 2 ∨ j = 3 ∨ j = 4 ∨ j = 5 ∨ j = 6 by omega) with e | e | e | e | e | e | e <;> subst e <;> assumption
theorem cl_row {f : Nat → Int32} {u : SS} {j k : Nat} (h : RowQ f u) (hj : j < u.cnt) (hk : k < 4) : f (8 + 4 * j + k) = nI (clV u.wid u.inp u.outs u.brd u.mvd j k) := by
  obtain ⟨a0, a1, a2, a3⟩ := h.2.1 j hj
  rcases (show k = 0 ∨ k = 1 ∨ k = 2 ∨ k = 3 by omega) with e | e | e | e <;> subst e <;> assumption
theorem ab_ge {u : SS} {j : Nat} (h : 9 ≤ j) : abV u.fst u.wid u.mid u.las u.pat u.bro u.mov u.cnt u.outs j = sumTo (fun c => pcn (u.outs c)) u.cnt := by
  obtain ⟨k, rfl⟩ : ∃ k, j = k + 9 := ⟨j - 9, by omega⟩
  rfl
theorem cl_ge {wid : Nat} {inp outs brd mvd : Nat → Nat} {j k : Nat} (h : 4 ≤ k) : clV wid inp outs brd mvd j k = 1 + pcn (lbs wid (outs j)) := by
  obtain ⟨i, rfl⟩ : ∃ i, k = i + 4 := ⟨k - 4, by omega⟩
  rfl
/-- remembering -/
def RMq (ac : Nat) (fn fd : Nat → Int32) (ac' : Nat) (fd' : Nat → Int32) : Prop := (ac < 14 ∧ ac' = ac + 1 ∧ fd' = cpF fn fd 0 (104 * ac) 104) ∨ (ac = 14 ∧ ac' = 14 ∧ fd' = cpF fn (cpF fd fd 104 0 1352) 0 (104 * 13) 104)
def MA (rf' : Nat) (r r0 : Int32) (v : SS) (fn fd : Nat → Int32) (ac : Nat) (fn' fd' : Nat → Int32) (ac' : Nat) : Prop :=
  (rf' = 1 ∧ r0 = -2 ∧ fn' = fn ∧ fd' = fd ∧ ac' = ac) ∨ (rf' = 2 ∧ r0 = -3 ∧ fn' = fn ∧ fd' = fd ∧ ac' = ac) ∨
  (rf' = 0 ∧ r = r0 ∧ ¬ r0 = -2 ∧ ¬ r0 = -3 ∧ RowQ fn' v ∧ RMq ac fn fd ac' fd')
theorem ac_out {u : SS} {x y : Int32} (h : ¬ (CIn (u.fst * u.wid) x ∧ CIn (u.las * u.wid) y)) : ACs u x y (-2) u := ⟨Or.inl ⟨rfl, h, sameq u⟩, rfl, rfl, rfl, rfl, rfl, rfl⟩
theorem ao_out2 {u : SS} {x y : Int32} (h : ¬ (CIn u.cnt x ∧ CIn (u.las * u.wid) y)) : AOs u x y (-2) u := ⟨Or.inl ⟨rfl, h, sameq u⟩, rfl, rfl, rfl, rfl, rfl, rfl⟩
theorem hg_out2 {u : SS} {x : Int32} (h : ¬ CIn u.cnt x) : HGs u x (-2) u := ⟨Or.inl ⟨rfl, h, rfl, rfl, rfl, rfl, rfl⟩, rfl, rfl, rfl, rfl, rfl, rfl, rfl, rfl, rfl⟩
theorem dr_out {u : SS} {y : Int32} (h : ¬ CIn (u.las * u.wid) y) : DRs u y (-2) u := ⟨Or.inl ⟨rfl, h, rfl⟩, ⟨rfl, rfl, rfl, rfl, rfl, rfl, rfl⟩, rfl, rfl, rfl, rfl, rfl, rfl⟩
theorem bk_out {u : SS} {x : Int32} {is : Nat} (h : ¬ CIn u.mid x) : BKs u x is (-2) u := ⟨Or.inl ⟨rfl, h, rfl⟩, sameq u, rfl, rfl, rfl, rfl, rfl⟩
theorem pcn_1 {o y : Nat} (ho : o < 65536) (h : o.testBit y = true) (h1 : pcn o ≤ 1) : o = 2 ^ y := by
  have hy : y < 16 := by
    rcases Nat.lt_or_ge y 16 with g | g
    · exact g
    · rw [tb_ge (L := 16) ho g] at h; cases h
  apply Nat.eq_of_testBit_eq
  intro k
  rw [Nat.testBit_two_pow]
  by_cases e : y = k
  · subst e; rw [h]; simp
  · rw [decide_eq_false e]
    cases q : o.testBit k with
    | false => rfl
    | true =>
      exfalso
      have hk : k < 16 := by
        rcases Nat.lt_or_ge k 16 with g | g
        · exact g
        · rw [tb_ge (L := 16) ho g] at q; cases q
      have h2 := sumTo_mono (f := fun i => (if i = y then 1 else 0) + (if i = k then 1 else 0)) (g := fun i => (o.testBit i).toNat) (n := 16) (fun i _ => by
        show (if i = y then 1 else 0) + (if i = k then 1 else 0) ≤ (o.testBit i).toNat
        by_cases e1 : i = y
        · subst e1; rw [if_pos rfl, if_neg e, h]; decide
        · by_cases e2 : i = k
          · subst e2; rw [if_neg e1, if_pos rfl, q]; decide
          · rw [if_neg e1, if_neg e2]; exact Nat.zero_le _)
      have h3 : ∀ (a b : Fin 16), 2 ≤ sumTo (fun i => (if i = a.val then 1 else 0) + (if i = b.val then 1 else 0)) 16 := by decide +kernel
      have h4 : 2 ≤ sumTo (fun i => (if i = y then 1 else 0) + (if i = k then 1 else 0)) 16 := h3 ⟨y, hy⟩ ⟨k, hk⟩
      have h5 : pcn o = sumTo (fun i => (o.testBit i).toNat) 16 := rfl
      omega
theorem pcn_two {y : Nat} (hy : y < 16) : pcn (2 ^ y) ≤ 1 := by
  have : ∀ y : Fin 16, pcn (2 ^ y.val) ≤ 1 := by decide +kernel
  exact this ⟨y, hy⟩
theorem dr_no {u : SS} {y : Nat} (hJ : JQ u) (hy : y < u.las * u.wid) (h : ∀ c, c < u.cnt → (u.outs c).testBit y = true → pcn (u.outs c) ≤ 1) : DRs u (nI y) (-3) u := by
  refine ⟨Or.inr (Or.inl ⟨rfl, ⟨y, rfl, hy, ?_⟩, rfl⟩), ⟨rfl, rfl, rfl, rfl, rfl, rfl, rfl⟩, rfl, rfl, rfl, rfl, rfl, rfl⟩
  by_cases g : freeOut u.cnt u.outs y
  · exact Or.inl g
  · obtain ⟨c, hc⟩ := Classical.not_forall.mp g
    obtain ⟨h1, h2⟩ := Classical.not_imp.mp hc
    have h2 := Classical.not_not.mp h2
    exact Or.inr ⟨c, h1, h2, pcn_1 ((bd_of hJ).2.2.2.2.2.2.2.2 c h1).2.2.1 h2 (h c h1 h2)⟩
theorem dr_ok {u : SS} {y ca : Nat} (hJ : JQ u) (hy : y < u.las * u.wid) (hc : ca < u.cnt) (hb : (u.outs ca).testBit y = true) (h1 : 1 < pcn (u.outs ca)) : DRs u (nI y) (nI (pcn (wo (u.outs ca) (2 ^ y)))) (outU u ca (wo (u.outs ca) (2 ^ y))) :=
  ⟨Or.inr (Or.inr ⟨y, ca, rfl, hy, hc, hb, fun e => by rw [e] at h1; have := pcn_two (y := y) (by have := (bd_of hJ).2.2.2.2.2.2.2.1.2; omega); omega, rfl, rfl⟩), ⟨rfl, rfl, rfl, rfl, rfl, rfl, rfl⟩, rfl, rfl, rfl, rfl, rfl, rfl⟩
theorem pcn_nI2 (x : Nat) : ¬ nI (pcn x) = -2 := nI_m2 (Nat.lt_of_le_of_lt (pcTo_le _ 16) (by decide))
theorem pcn_nI3 (x : Nat) : ¬ nI (pcn x) = -3 := nI_m3 (Nat.lt_of_le_of_lt (pcTo_le _ 16) (by decide))
theorem ma_take {v : SS} {r0 r rr : Int32} {rf' ac ac' : Nat} {fn ft fd fn' fd' : Nat → Int32} (hJv : JQ v) (hR : RowQ ft v) (hRR : RRq r0 r) (h : (r = -1 ∧ rf' = 2 ∧ fn' = fn ∧ fd' = fd ∧ ac' = ac) ∨ (¬ r = -1 ∧ rf' = 0 ∧ rr = r ∧ fn' = cpF ft fn 0 0 104 ∧ RMq ac fn fd ac' fd')) : MA rf' rr r0 v fn fd ac fn' fd' ac' := by
  rcases hRR with ⟨rfl, rfl⟩ | ⟨k, rfl, rfl, hk⟩
  · rcases h with ⟨-, h1, h2, h3, h4⟩ | ⟨h, -⟩
    · exact Or.inr (Or.inl ⟨h1, rfl, h2, h3, h4⟩)
    · exact absurd rfl h
  · rcases h with ⟨h, -⟩ | ⟨-, h1, h2, h3, h4⟩
    · exact absurd h (nI_m1 (by omega))
    · exact Or.inr (Or.inr ⟨h1, h2, nI_m2 (by omega), nI_m3 (by omega), by rw [h3]; exact rq_cp hJv hR, h4⟩)
/-- how many boards are whole: of those that there are, not broken -/
theorem bits_whole : ∀ m : Fin 5, ∀ b : Fin 16, b.val < 2 ^ m.val → pcn b.val ≤ m.val ∧ m.val - pcn b.val = pcn (wo (2 ^ m.val - 1) b.val) := by decide +kernel
theorem whole_n {m b : Nat} (hm : m ≤ 4) (hb : b < 2 ^ m) : pcn b ≤ m ∧ m - pcn b = pcn (wo (2 ^ m - 1) b) := by
  have h16 : b < 16 := Nat.lt_of_lt_of_le hb (Nat.pow_le_pow_right (by decide) hm)
  exact bits_whole ⟨m, by omega⟩ ⟨b, h16⟩ hb
theorem brk_lt {m b mb is : Nat} (hb : b < 2 ^ m) (hmb : mb < m) : brkV b mb is < 2 ^ m := by
  unfold brkV
  split
  · apply Nat.lt_pow_two_of_testBit
    intro i hi
    rw [wo_bit, tb_ge hb hi]; rfl
  · exact Nat.or_lt_two_pow hb (Nat.pow_lt_pow_right (by decide) hmb)
noncomputable def opV (u : SS) (most a b : Nat) : Nat := @ite Nat (∃ k v, k ≤ most ∧ ACs u (nI a) (nI b) (nI k) v) (Classical.propDecidable _) 1 0

theorem iX5_isCall_X5 : ∀ w ∈ u_ws RX5 TX5 14, w ∈ wsX5_isCall := by decide +kernel
abbrev rmX5_isCall : Room := { frames := 1, cells := 0, slots := 0, locals := 25 }
theorem n_X5_isCall : yX5_isCall.cls = RX5 ∧ yX5_isCall.cls ≠ "java/lang/invoke/MethodHandle" ∧ yX5_isCall.cls ≠ "java/lang/invoke/VarHandle" ∧ (parseMethodDescriptor yX5_isCall.desc).map (fun d => d.parameters.length) = some 1 := by decide +kernel
set_option maxHeartbeats 4000000 in
set_option maxRecDepth 100000 in
theorem k_X5_isCall (l : Launch) (D : va_G) (cT : Nat → ClassId) (mA mref mscr msz mspot mgood mleft mread mnow mtri mdia macts mkept misk qp : Nat) (f : Nat → Int32) (x : Int32) (u : SS) (hR : RowQ f u) (hJ : JQ u) : MR l D cT yX5_isCall wsX5_isCall rmX5_isCall [.ref mA, .int x] [(mA, cMo mref mscr msz mspot mgood mleft mread mnow mtri mdia macts mkept misk qp), (mnow, aI (cT 0) 104 f)] (fun r => (r = nI 1 ∧ CIn (u.cnt) x) ∨ (r = nI 0 ∧ ¬ CIn (u.cnt) x)) := by
  refine m_R [(0, .ref mA), (1, .int x)] (by decide +kernel) rfl (Nat.le_of_ble_eq_true rfl) rfl ?_
  intro p e s m args below meth c C hr hk
  generalize hQ : MQ below (vp_Si _) args s 0 0 (fun _ => False) = Q
  have hB := bd_of hJ
  obtain ⟨hF, hW, hM, hL, hPa, hBr, hCn, hFL, hE⟩ := id hB
  have hFW1 := mul44 hF hW
  have hLW1 := mul44 hL hW
  refine r_iln (pc := 0) C 1 rfl dX5_isCall_0 ?_
  refine r_i2l (pc := 1) C rfl dX5_isCall_1 ?_
  refine r_lc (pc := 2) (v := 0) C rfl dX5_isCall_2 ?_
  refine r_aln (pc := 3) C 0 rfl dX5_isCall_3 ?_
  refine r_get (pc := 4) C iX5_isCall_X5 0 rfl rfl 7 (by decide) (mw 1 rfl) rfl rfl dX5_isCall_4 ?_
  refine r_ic (pc := 7) (v := nI 4) C rfl dX5_isCall_7 ?_
  refine r_ialI (pc := 8) C 1 rfl (by omega) (by decide) dX5_isCall_8 ?_
  refine r_v (y := nI u.cnt) hR.1.2.2.2.2.1 ?_
  refine r_ic (pc := 9) (v := nI 1) C rfl dX5_isCall_9 ?_
  refine r_isub (pc := 10) C dX5_isCall_10 ?_
  refine r_i2l (pc := 11) C rfl dX5_isCall_11 ?_
  refine c_RS (pc := 12) (As := [.long x.toInt64, .long 0, .long ((nI u.cnt - nI 1).toInt64)]) (wc := [])  C (k_X5_in l D cT x.toInt64 0 ((nI u.cnt - nI 1).toInt64)) (va_cwS 3 C.1.2.2.2.2 gX5_isCall_X5_in rfl rfl rfl n_X5_in ⟨Nat.le_of_ble_eq_true rfl, Nat.le_of_ble_eq_true rfl⟩) [] rfl rfl rfl (Nat.le_of_ble_eq_true rfl) ⟨Nat.zero_le _, Nat.zero_le _⟩ dX5_isCall_12 (fun r12 h1 => ?_)
  rcases h1 with ⟨rfl, h1⟩ | ⟨rfl, h1⟩
  · have h1 := (in_ci (n := u.cnt) (by omega)).mp h1
    subst hQ
    exact e_zR C hr hk rfl (Or.inl ⟨rfl, h1⟩) dX5_isCall_15
  · have h1 := fun g => h1 ((in_ci (n := u.cnt) (by omega)).mpr g)
    subst hQ
    exact e_zR C hr hk rfl (Or.inr ⟨rfl, h1⟩) dX5_isCall_15

theorem iX5_isMiddle_X5 : ∀ w ∈ u_ws RX5 TX5 14, w ∈ wsX5_isMiddle := by decide +kernel
abbrev rmX5_isMiddle : Room := { frames := 1, cells := 0, slots := 0, locals := 25 }
theorem n_X5_isMiddle : yX5_isMiddle.cls = RX5 ∧ yX5_isMiddle.cls ≠ "java/lang/invoke/MethodHandle" ∧ yX5_isMiddle.cls ≠ "java/lang/invoke/VarHandle" ∧ (parseMethodDescriptor yX5_isMiddle.desc).map (fun d => d.parameters.length) = some 1 := by decide +kernel
set_option maxHeartbeats 4000000 in
set_option maxRecDepth 100000 in
theorem k_X5_isMiddle (l : Launch) (D : va_G) (cT : Nat → ClassId) (mA mref mscr msz mspot mgood mleft mread mnow mtri mdia macts mkept misk qp : Nat) (f : Nat → Int32) (x : Int32) (u : SS) (hR : RowQ f u) (hJ : JQ u) : MR l D cT yX5_isMiddle wsX5_isMiddle rmX5_isMiddle [.ref mA, .int x] [(mA, cMo mref mscr msz mspot mgood mleft mread mnow mtri mdia macts mkept misk qp), (mnow, aI (cT 0) 104 f)] (fun r => (r = nI 1 ∧ CIn (u.mid) x) ∨ (r = nI 0 ∧ ¬ CIn (u.mid) x)) := by
  refine m_R [(0, .ref mA), (1, .int x)] (by decide +kernel) rfl (Nat.le_of_ble_eq_true rfl) rfl ?_
  intro p e s m args below meth c C hr hk
  generalize hQ : MQ below (vp_Si _) args s 0 0 (fun _ => False) = Q
  have hB := bd_of hJ
  obtain ⟨hF, hW, hM, hL, hPa, hBr, hCn, hFL, hE⟩ := id hB
  have hFW1 := mul44 hF hW
  have hLW1 := mul44 hL hW
  refine r_iln (pc := 0) C 1 rfl dX5_isMiddle_0 ?_
  refine r_i2l (pc := 1) C rfl dX5_isMiddle_1 ?_
  refine r_lc (pc := 2) (v := 0) C rfl dX5_isMiddle_2 ?_
  refine r_aln (pc := 3) C 0 rfl dX5_isMiddle_3 ?_
  refine r_get (pc := 4) C iX5_isMiddle_X5 0 rfl rfl 7 (by decide) (mw 1 rfl) rfl rfl dX5_isMiddle_4 ?_
  refine r_ic (pc := 7) (v := nI 2) C rfl dX5_isMiddle_7 ?_
  refine r_ialI (pc := 8) C 1 rfl (by omega) (by decide) dX5_isMiddle_8 ?_
  refine r_v (y := nI u.mid) hR.1.2.2.1 ?_
  refine r_ic (pc := 9) (v := nI 1) C rfl dX5_isMiddle_9 ?_
  refine r_isub (pc := 10) C dX5_isMiddle_10 ?_
  refine r_i2l (pc := 11) C rfl dX5_isMiddle_11 ?_
  refine c_RS (pc := 12) (As := [.long x.toInt64, .long 0, .long ((nI u.mid - nI 1).toInt64)]) (wc := [])  C (k_X5_in l D cT x.toInt64 0 ((nI u.mid - nI 1).toInt64)) (va_cwS 3 C.1.2.2.2.2 gX5_isMiddle_X5_in rfl rfl rfl n_X5_in ⟨Nat.le_of_ble_eq_true rfl, Nat.le_of_ble_eq_true rfl⟩) [] rfl rfl rfl (Nat.le_of_ble_eq_true rfl) ⟨Nat.zero_le _, Nat.zero_le _⟩ dX5_isMiddle_12 (fun r12 h1 => ?_)
  rcases h1 with ⟨rfl, h1⟩ | ⟨rfl, h1⟩
  · have h1 := (in_ci (n := u.mid) (by omega)).mp h1
    subst hQ
    exact e_zR C hr hk rfl (Or.inl ⟨rfl, h1⟩) dX5_isMiddle_15
  · have h1 := fun g => h1 ((in_ci (n := u.mid) (by omega)).mpr g)
    subst hQ
    exact e_zR C hr hk rfl (Or.inr ⟨rfl, h1⟩) dX5_isMiddle_15

theorem iX5_isInput_X5 : ∀ w ∈ u_ws RX5 TX5 14, w ∈ wsX5_isInput := by decide +kernel
abbrev rmX5_isInput : Room := { frames := 1, cells := 0, slots := 0, locals := 25 }
theorem n_X5_isInput : yX5_isInput.cls = RX5 ∧ yX5_isInput.cls ≠ "java/lang/invoke/MethodHandle" ∧ yX5_isInput.cls ≠ "java/lang/invoke/VarHandle" ∧ (parseMethodDescriptor yX5_isInput.desc).map (fun d => d.parameters.length) = some 1 := by decide +kernel
set_option maxHeartbeats 4000000 in
set_option maxRecDepth 100000 in
theorem k_X5_isInput (l : Launch) (D : va_G) (cT : Nat → ClassId) (mA mref mscr msz mspot mgood mleft mread mnow mtri mdia macts mkept misk qp : Nat) (f : Nat → Int32) (x : Int32) (u : SS) (hR : RowQ f u) (hJ : JQ u) : MR l D cT yX5_isInput wsX5_isInput rmX5_isInput [.ref mA, .int x] [(mA, cMo mref mscr msz mspot mgood mleft mread mnow mtri mdia macts mkept misk qp), (mnow, aI (cT 0) 104 f)] (fun r => (r = nI 1 ∧ CIn (u.fst * u.wid) x) ∨ (r = nI 0 ∧ ¬ CIn (u.fst * u.wid) x)) := by
  refine m_R [(0, .ref mA), (1, .int x)] (by decide +kernel) rfl (Nat.le_of_ble_eq_true rfl) rfl ?_
  intro p e s m args below meth c C hr hk
  generalize hQ : MQ below (vp_Si _) args s 0 0 (fun _ => False) = Q
  have hB := bd_of hJ
  obtain ⟨hF, hW, hM, hL, hPa, hBr, hCn, hFL, hE⟩ := id hB
  have hFW1 := mul44 hF hW
  have hLW1 := mul44 hL hW
  refine r_iln (pc := 0) C 1 rfl dX5_isInput_0 ?_
  refine r_i2l (pc := 1) C rfl dX5_isInput_1 ?_
  refine r_lc (pc := 2) (v := 0) C rfl dX5_isInput_2 ?_
  refine r_aln (pc := 3) C 0 rfl dX5_isInput_3 ?_
  refine r_get (pc := 4) C iX5_isInput_X5 0 rfl rfl 7 (by decide) (mw 1 rfl) rfl rfl dX5_isInput_4 ?_
  refine c_RS (pc := 7) (As := [.ref mnow]) (wc := [(mnow, aI (cT 0) 104 f)])  C (k_X5_inputs l D cT mnow f u (by first | assumption | omega) (by first | assumption | omega)) (va_cwS 1 C.1.2.2.2.2 gX5_isInput_X5_inputs rfl rfl rfl n_X5_inputs ⟨Nat.le_of_ble_eq_true rfl, Nat.le_of_ble_eq_true rfl⟩) [1] rfl rfl rfl (Nat.le_of_ble_eq_true rfl) ⟨Nat.zero_le _, Nat.zero_le _⟩ dX5_isInput_7 (fun r7 h1 => ?_)
  subst h1
  refine r_ic (pc := 10) (v := nI 1) C rfl dX5_isInput_10 ?_
  refine r_isub (pc := 11) C dX5_isInput_11 ?_
  refine r_i2l (pc := 12) C rfl dX5_isInput_12 ?_
  refine c_RS (pc := 13) (As := [.long x.toInt64, .long 0, .long ((nI (u.fst * u.wid) - nI 1).toInt64)]) (wc := [])  C (k_X5_in l D cT x.toInt64 0 ((nI (u.fst * u.wid) - nI 1).toInt64)) (va_cwS 3 C.1.2.2.2.2 gX5_isInput_X5_in rfl rfl rfl n_X5_in ⟨Nat.le_of_ble_eq_true rfl, Nat.le_of_ble_eq_true rfl⟩) [] rfl rfl rfl (Nat.le_of_ble_eq_true rfl) ⟨Nat.zero_le _, Nat.zero_le _⟩ dX5_isInput_13 (fun r13 h2 => ?_)
  rcases h2 with ⟨rfl, h2⟩ | ⟨rfl, h2⟩
  · have h2 := (in_ci (n := u.fst * u.wid) (by omega)).mp h2
    subst hQ
    exact e_zR C hr hk rfl (Or.inl ⟨rfl, h2⟩) dX5_isInput_16
  · have h2 := fun g => h2 ((in_ci (n := u.fst * u.wid) (by omega)).mpr g)
    subst hQ
    exact e_zR C hr hk rfl (Or.inr ⟨rfl, h2⟩) dX5_isInput_16

theorem iX5_isOutput_X5 : ∀ w ∈ u_ws RX5 TX5 14, w ∈ wsX5_isOutput := by decide +kernel
abbrev rmX5_isOutput : Room := { frames := 1, cells := 0, slots := 0, locals := 25 }
theorem n_X5_isOutput : yX5_isOutput.cls = RX5 ∧ yX5_isOutput.cls ≠ "java/lang/invoke/MethodHandle" ∧ yX5_isOutput.cls ≠ "java/lang/invoke/VarHandle" ∧ (parseMethodDescriptor yX5_isOutput.desc).map (fun d => d.parameters.length) = some 1 := by decide +kernel
set_option maxHeartbeats 4000000 in
set_option maxRecDepth 100000 in
theorem k_X5_isOutput (l : Launch) (D : va_G) (cT : Nat → ClassId) (mA mref mscr msz mspot mgood mleft mread mnow mtri mdia macts mkept misk qp : Nat) (f : Nat → Int32) (x : Int32) (u : SS) (hR : RowQ f u) (hJ : JQ u) : MR l D cT yX5_isOutput wsX5_isOutput rmX5_isOutput [.ref mA, .int x] [(mA, cMo mref mscr msz mspot mgood mleft mread mnow mtri mdia macts mkept misk qp), (mnow, aI (cT 0) 104 f)] (fun r => (r = nI 1 ∧ CIn (u.las * u.wid) x) ∨ (r = nI 0 ∧ ¬ CIn (u.las * u.wid) x)) := by
  refine m_R [(0, .ref mA), (1, .int x)] (by decide +kernel) rfl (Nat.le_of_ble_eq_true rfl) rfl ?_
  intro p e s m args below meth c C hr hk
  generalize hQ : MQ below (vp_Si _) args s 0 0 (fun _ => False) = Q
  have hB := bd_of hJ
  obtain ⟨hF, hW, hM, hL, hPa, hBr, hCn, hFL, hE⟩ := id hB
  have hFW1 := mul44 hF hW
  have hLW1 := mul44 hL hW
  refine r_iln (pc := 0) C 1 rfl dX5_isOutput_0 ?_
  refine r_i2l (pc := 1) C rfl dX5_isOutput_1 ?_
  refine r_lc (pc := 2) (v := 0) C rfl dX5_isOutput_2 ?_
  refine r_aln (pc := 3) C 0 rfl dX5_isOutput_3 ?_
  refine r_get (pc := 4) C iX5_isOutput_X5 0 rfl rfl 7 (by decide) (mw 1 rfl) rfl rfl dX5_isOutput_4 ?_
  refine c_RS (pc := 7) (As := [.ref mnow]) (wc := [(mnow, aI (cT 0) 104 f)])  C (k_X5_outputs l D cT mnow f u (by first | assumption | omega) (by first | assumption | omega)) (va_cwS 1 C.1.2.2.2.2 gX5_isOutput_X5_outputs rfl rfl rfl n_X5_outputs ⟨Nat.le_of_ble_eq_true rfl, Nat.le_of_ble_eq_true rfl⟩) [1] rfl rfl rfl (Nat.le_of_ble_eq_true rfl) ⟨Nat.zero_le _, Nat.zero_le _⟩ dX5_isOutput_7 (fun r7 h1 => ?_)
  subst h1
  refine r_ic (pc := 10) (v := nI 1) C rfl dX5_isOutput_10 ?_
  refine r_isub (pc := 11) C dX5_isOutput_11 ?_
  refine r_i2l (pc := 12) C rfl dX5_isOutput_12 ?_
  refine c_RS (pc := 13) (As := [.long x.toInt64, .long 0, .long ((nI (u.las * u.wid) - nI 1).toInt64)]) (wc := [])  C (k_X5_in l D cT x.toInt64 0 ((nI (u.las * u.wid) - nI 1).toInt64)) (va_cwS 3 C.1.2.2.2.2 gX5_isOutput_X5_in rfl rfl rfl n_X5_in ⟨Nat.le_of_ble_eq_true rfl, Nat.le_of_ble_eq_true rfl⟩) [] rfl rfl rfl (Nat.le_of_ble_eq_true rfl) ⟨Nat.zero_le _, Nat.zero_le _⟩ dX5_isOutput_13 (fun r13 h2 => ?_)
  rcases h2 with ⟨rfl, h2⟩ | ⟨rfl, h2⟩
  · have h2 := (in_ci (n := u.las * u.wid) (by omega)).mp h2
    subst hQ
    exact e_zR C hr hk rfl (Or.inl ⟨rfl, h2⟩) dX5_isOutput_16
  · have h2 := fun g => h2 ((in_ci (n := u.las * u.wid) (by omega)).mpr g)
    subst hQ
    exact e_zR C hr hk rfl (Or.inr ⟨rfl, h2⟩) dX5_isOutput_16

theorem iX5_thrown_X5 : ∀ w ∈ u_ws RX5 TX5 14, w ∈ wsX5_thrown := by decide +kernel
abbrev rmX5_thrown : Room := { frames := 0, cells := 0, slots := 0, locals := 0 }
theorem n_X5_thrown : yX5_thrown.cls = RX5 ∧ yX5_thrown.cls ≠ "java/lang/invoke/MethodHandle" ∧ yX5_thrown.cls ≠ "java/lang/invoke/VarHandle" ∧ (parseMethodDescriptor yX5_thrown.desc).map (fun d => d.parameters.length) = some 0 := by decide +kernel
set_option maxHeartbeats 4000000 in
set_option maxRecDepth 100000 in
theorem k_X5_thrown (l : Launch) (D : va_G) (cT : Nat → ClassId) (mA mref mscr msz mspot mgood mleft mread mnow mtri mdia macts mkept misk qp : Nat)  : MR l D cT yX5_thrown wsX5_thrown rmX5_thrown [.ref mA] [(mA, cMo mref mscr msz mspot mgood mleft mread mnow mtri mdia macts mkept misk qp)] (fun r => r = nI mref) := by
  refine m_R [(0, .ref mA)] (by decide +kernel) rfl (Nat.le_of_ble_eq_true rfl) rfl ?_
  intro p e s m args below meth c C hr hk
  generalize hQ : MQ below (vp_Si _) args s 0 0 (fun _ => False) = Q
  refine r_aln (pc := 0) C 0 rfl dX5_thrown_0 ?_
  refine r_get (pc := 1) C iX5_thrown_X5 0 rfl rfl 0 (by decide) (mw 1 rfl) rfl rfl dX5_thrown_1 ?_
  subst hQ
  exact e_iR C hr hk rfl dX5_thrown_4

theorem iX5_append_X5 : ∀ w ∈ u_ws RX5 TX5 14, w ∈ wsX5_append := by decide +kernel
abbrev rmX5_append : Room := { frames := 1, cells := 0, slots := 0, locals := 25 }
theorem n_X5_append : yX5_append.cls = RX5 ∧ yX5_append.cls ≠ "java/lang/invoke/MethodHandle" ∧ yX5_append.cls ≠ "java/lang/invoke/VarHandle" ∧ (parseMethodDescriptor yX5_append.desc).map (fun d => d.parameters.length) = some 1 := by decide +kernel
set_option maxHeartbeats 4000000 in
set_option maxRecDepth 100000 in
theorem k_X5_append (l : Launch) (D : va_G) (cT : Nat → ClassId) (mA mref mscr msz mspot mgood mleft mread mnow mtri mdia macts mkept misk qp : Nat) (sg : Nat → Nat) (x : Int32) (hz : msz ≤ 120) (hsg : ∀ k, k < 120 → sg k < 256) : MWi (S := Nat × Nat × (Nat → Nat)) l D cT yX5_append wsX5_append rmX5_append [.ref mA, .int x] [(mA, cMo mref mscr msz mspot mgood mleft mread mnow mtri mdia macts mkept misk qp), (mscr, aN (cT 0) 120 sg)] (fun r w9 => (w9.1 = 1 ∧ ¬ CIn 256 x ∧ w9.2.1 = msz ∧ w9.2.2 = sg) ∨ (w9.1 = 2 ∧ CIn 256 x ∧ 120 ≤ msz ∧ w9.2.1 = msz ∧ w9.2.2 = sg) ∨ (w9.1 = 0 ∧ ∃ j, x = nI j ∧ j < 256 ∧ msz < 120 ∧ r = nI (msz + 1) ∧ w9.2.1 = msz + 1 ∧ w9.2.2 = va_up sg msz j)) (fun w9 => [(mA, cMo w9.1 mscr w9.2.1 mspot mgood mleft mread mnow mtri mdia macts mkept misk qp), (mscr, aN (cT 0) 120 w9.2.2)]) 0 0 := by
  refine m_Wi [(0, .ref mA), (1, .int x)] (by decide +kernel) rfl (Nat.le_of_ble_eq_true rfl) rfl ?_
  intro p e s m args below meth c A hAe C hA hr hk hnm_
  generalize hQ : MQ below (va_Qi _ _ A) args s 0 0 A = Q
  refine r_aln (pc := 0) C 0 rfl dX5_append_0 ?_
  refine r_iln (pc := 1) C 1 rfl dX5_append_1 ?_
  refine r_i2l (pc := 2) C rfl dX5_append_2 ?_
  refine r_lc (pc := 3) (v := 0) C rfl dX5_append_3 ?_
  refine r_lc2 (pc := 4) C (mw 1 rfl) dX5_append_4 ?_
  refine c_RS (pc := 7) (As := [.long x.toInt64, .long 0, .long (255)]) (wc := [])  C (k_X5_in l D cT x.toInt64 0 (255)) (va_cwS 3 C.1.2.2.2.2 gX5_append_X5_in rfl rfl rfl n_X5_in ⟨Nat.le_of_ble_eq_true rfl, Nat.le_of_ble_eq_true rfl⟩) [] rfl rfl rfl (Nat.le_of_ble_eq_true rfl) ⟨Nat.zero_le _, Nat.zero_le _⟩ dX5_append_7 (fun r7 h1 => ?_)
  rcases h1 with ⟨rfl, h1⟩ | ⟨rfl, h1⟩
  · obtain ⟨h1j, rfl, h1l⟩ := (in_lit (n := 255) (by decide) (by decide)).mp h1
    refine r_zneN (pc := 10) (tgt := 17) C (by omega) dX5_append_10 (by decide) (fun _ => ?_) (fun h => absurd h (by decide))
    refine r_aln (pc := 17) C 0 rfl dX5_append_17 ?_
    refine r_get (pc := 18) C iX5_append_X5 0 rfl rfl 2 (by decide) (mw 2 rfl) rfl rfl dX5_append_18 ?_
    refine r_bi (pc := 21) (v := nI 120) C rfl dX5_append_21 ?_
    refine r_cneN (pc := 23) (tgt := 30) C (by omega) (by omega) dX5_append_23 (by decide) (fun c23 => ?_) (fun c23 => ?_)
    · refine r_ic (pc := 30) (v := nI 0) C rfl dX5_append_30 ?_
      refine c_WVi (pc := 31) (As := [.int (nI 0)]) (wc := [(mA, cMo mref mscr msz mspot mgood mleft mread mnow mtri mdia macts mkept misk qp)]) (wr := [(mscr, aN (cT 0) 120 sg)]) (qr := 0) C hA (k_X5_refused l D cT mA mref mscr msz mspot mgood mleft mread mnow mtri mdia macts mkept misk qp 0 (by first | assumption | omega)) (cwV 1 C.1.2.2.2.2 gX5_append_X5_refused rfl rfl rfl n_X5_refused ⟨Nat.le_of_ble_eq_true rfl, Nat.le_of_ble_eq_true rfl⟩) rfl rfl [0] [1] rfl rfl ⟨by decide, by decide⟩ (by decide) [1, 0] (fun u3 => [(mA, cMo u3 mscr msz mspot mgood mleft mread mnow mtri mdia macts mkept misk qp), (mscr, aN (cT 0) 120 sg)]) (fun _ => rfl) (by decide) rfl rfl (Nat.le_of_ble_eq_true rfl) ⟨Nat.zero_le _, Nat.zero_le _⟩ dX5_append_31 (fun r31 u3 h2 => ?_)
      obtain ⟨h2, h2m⟩ := h2
      have h2 := h2.trans (if_pos rfl)
      subst h2
      subst h2m
      refine r_zeqN (pc := 34) (tgt := 39) C (by omega) dX5_append_34 (by decide) (fun _ => ?_) (fun h => absurd h (by decide))
      refine r_aln (pc := 39) C 0 rfl dX5_append_39 ?_
      refine r_get (pc := 40) C iX5_append_X5 0 rfl rfl 1 (by decide) (mw 3 rfl) rfl rfl dX5_append_40 ?_
      refine r_aln (pc := 43) C 0 rfl dX5_append_43 ?_
      refine r_get (pc := 44) C iX5_append_X5 0 rfl rfl 2 (by decide) (mw 2 rfl) rfl rfl dX5_append_44 ?_
      refine r_iln (pc := 47) C 1 rfl dX5_append_47 ?_
      refine r_iasN (pc := 48) (ws2 := [(mA, cMo 0 mscr msz mspot mgood mleft mread mnow mtri mdia macts mkept misk qp), (mscr, aN (cT 0) 120 (va_up sg msz h1j))]) C 1 rfl (by omega) (by decide) rfl dX5_append_48 ?_
      refine r_aln (pc := 49) C 0 rfl dX5_append_49 ?_
      refine r_dup (pc := 50) C rfl dX5_append_50 ?_
      refine r_get (pc := 51) C iX5_append_X5 0 rfl rfl 2 (by decide) (mw 2 rfl) rfl rfl dX5_append_51 ?_
      refine r_ic (pc := 54) (v := nI 1) C rfl dX5_append_54 ?_
      refine r_iaddN (pc := 55) C dX5_append_55 ?_
      refine r_put (pc := 56) (ws2 := [(mA, cMo 0 mscr (msz + 1) mspot mgood mleft mread mnow mtri mdia macts mkept misk qp), (mscr, aN (cT 0) 120 (va_up sg msz h1j))]) C iX5_append_X5 tyX5_ok nmX5 0 rfl rfl 2 (by decide) (mw 2 rfl) rfl rfl rfl rfl (Nat.le_of_ble_eq_true rfl) rfl dX5_append_56 ?_
      refine r_aln (pc := 59) C 0 rfl dX5_append_59 ?_
      refine r_get (pc := 60) C iX5_append_X5 0 rfl rfl 2 (by decide) (mw 2 rfl) rfl rfl dX5_append_60 ?_
      subst hQ
      exact e_iW C hr hk (Nat.le_refl _) (Nat.le_refl _) ⟨0, msz + 1, va_up sg msz h1j⟩ rfl (Or.inr (Or.inr ⟨rfl, h1j, rfl, h1l, by omega, rfl, rfl, rfl⟩)) dX5_append_63
    · refine r_ic (pc := 26) (v := nI 2) C rfl dX5_append_26 ?_
      refine r_goto (pc := 27) (tgt := 31) C dX5_append_27 (by decide) ?_
      refine c_WVi (pc := 31) (As := [.int (nI 2)]) (wc := [(mA, cMo mref mscr msz mspot mgood mleft mread mnow mtri mdia macts mkept misk qp)]) (wr := [(mscr, aN (cT 0) 120 sg)]) (qr := 0) C hA (k_X5_refused l D cT mA mref mscr msz mspot mgood mleft mread mnow mtri mdia macts mkept misk qp 2 (by first | assumption | omega)) (cwV 1 C.1.2.2.2.2 gX5_append_X5_refused rfl rfl rfl n_X5_refused ⟨Nat.le_of_ble_eq_true rfl, Nat.le_of_ble_eq_true rfl⟩) rfl rfl [0] [1] rfl rfl ⟨by decide, by decide⟩ (by decide) [1, 0] (fun u5 => [(mA, cMo u5 mscr msz mspot mgood mleft mread mnow mtri mdia macts mkept misk qp), (mscr, aN (cT 0) 120 sg)]) (fun _ => rfl) (by decide) rfl rfl (Nat.le_of_ble_eq_true rfl) ⟨Nat.zero_le _, Nat.zero_le _⟩ dX5_append_31 (fun r31 u5 h4 => ?_)
      obtain ⟨h4, h4m⟩ := h4
      have h4 := h4.trans (if_neg (by decide))
      subst h4
      subst h4m
      refine r_zeqN (pc := 34) (tgt := 39) C (by omega) dX5_append_34 (by decide) (fun h => absurd h (by decide)) (fun _ => ?_)
      refine r_ic (pc := 37) (v := nI 0) C rfl dX5_append_37 ?_
      subst hQ
      exact e_iW C hr hk (Nat.le_refl _) (Nat.le_refl _) ⟨2, msz, sg⟩ rfl (Or.inr (Or.inl ⟨rfl, ⟨_, rfl, h1l⟩, by omega, rfl, rfl⟩)) dX5_append_38
  · have h1 := fun g => h1 ((in_lit (n := 255) (by decide) (by decide)).mpr g)
    refine r_zneN (pc := 10) (tgt := 17) C (by omega) dX5_append_10 (by decide) (fun h => absurd h (by decide)) (fun _ => ?_)
    refine r_ic (pc := 13) (v := nI 1) C rfl dX5_append_13 ?_
    refine r_goto (pc := 14) (tgt := 31) C dX5_append_14 (by decide) ?_
    refine c_WVi (pc := 31) (As := [.int (nI 1)]) (wc := [(mA, cMo mref mscr msz mspot mgood mleft mread mnow mtri mdia macts mkept misk qp)]) (wr := [(mscr, aN (cT 0) 120 sg)]) (qr := 0) C hA (k_X5_refused l D cT mA mref mscr msz mspot mgood mleft mread mnow mtri mdia macts mkept misk qp 1 (by first | assumption | omega)) (cwV 1 C.1.2.2.2.2 gX5_append_X5_refused rfl rfl rfl n_X5_refused ⟨Nat.le_of_ble_eq_true rfl, Nat.le_of_ble_eq_true rfl⟩) rfl rfl [0] [1] rfl rfl ⟨by decide, by decide⟩ (by decide) [1, 0] (fun u7 => [(mA, cMo u7 mscr msz mspot mgood mleft mread mnow mtri mdia macts mkept misk qp), (mscr, aN (cT 0) 120 sg)]) (fun _ => rfl) (by decide) rfl rfl (Nat.le_of_ble_eq_true rfl) ⟨Nat.zero_le _, Nat.zero_le _⟩ dX5_append_31 (fun r31 u7 h6 => ?_)
    obtain ⟨h6, h6m⟩ := h6
    have h6 := h6.trans (if_neg (by decide))
    subst h6
    subst h6m
    refine r_zeqN (pc := 34) (tgt := 39) C (by omega) dX5_append_34 (by decide) (fun h => absurd h (by decide)) (fun _ => ?_)
    refine r_ic (pc := 37) (v := nI 0) C rfl dX5_append_37 ?_
    subst hQ
    exact e_iW C hr hk (Nat.le_refl _) (Nat.le_refl _) ⟨1, msz, sg⟩ rfl (Or.inl ⟨rfl, h1, rfl, rfl⟩) dX5_append_38

theorem iX5_clearText_X5 : ∀ w ∈ u_ws RX5 TX5 14, w ∈ wsX5_clearText := by decide +kernel
abbrev rmX5_clearText : Room := { frames := 0, cells := 0, slots := 0, locals := 0 }
theorem n_X5_clearText : yX5_clearText.cls = RX5 ∧ yX5_clearText.cls ≠ "java/lang/invoke/MethodHandle" ∧ yX5_clearText.cls ≠ "java/lang/invoke/VarHandle" ∧ (parseMethodDescriptor yX5_clearText.desc).map (fun d => d.parameters.length) = some 0 := by decide +kernel
set_option maxHeartbeats 4000000 in
set_option maxRecDepth 100000 in
theorem k_X5_clearText (l : Launch) (D : va_G) (cT : Nat → ClassId) (mA mref mscr msz mspot mgood mleft mread mnow mtri mdia macts mkept misk qp : Nat)  : MWi (S := Nat × Nat) l D cT yX5_clearText wsX5_clearText rmX5_clearText [.ref mA] [(mA, cMo mref mscr msz mspot mgood mleft mread mnow mtri mdia macts mkept misk qp)] (fun r w9 => r = nI msz ∧ w9.1 = 0 ∧ w9.2 = 0) (fun w9 => [(mA, cMo w9.1 mscr w9.2 mspot mgood mleft mread mnow mtri mdia macts mkept misk qp)]) 0 0 := by
  refine m_Wi [(0, .ref mA)] (by decide +kernel) rfl (Nat.le_of_ble_eq_true rfl) rfl ?_
  intro p e s m args below meth c A hAe C hA hr hk hnm_
  generalize hQ : MQ below (va_Qi _ _ A) args s 0 0 A = Q
  refine r_aln (pc := 0) C 0 rfl dX5_clearText_0 ?_
  refine r_ic (pc := 1) (v := nI 0) C rfl dX5_clearText_1 ?_
  refine r_put (pc := 2) (ws2 := [(mA, cMo 0 mscr msz mspot mgood mleft mread mnow mtri mdia macts mkept misk qp)]) C iX5_clearText_X5 tyX5_ok nmX5 0 rfl rfl 0 (by decide) (mw 1 rfl) rfl rfl rfl rfl (Nat.le_of_ble_eq_true rfl) rfl dX5_clearText_2 ?_
  refine r_aln (pc := 5) C 0 rfl dX5_clearText_5 ?_
  refine r_get (pc := 6) C iX5_clearText_X5 0 rfl rfl 2 (by decide) (mw 2 rfl) rfl rfl dX5_clearText_6 ?_
  refine r_isn (pc := 9) C [1, 0] [(0, .ref mA), (1, .int (nI msz))] rfl (by decide) rfl dX5_clearText_9 ?_
  refine r_aln (pc := 10) C 0 rfl dX5_clearText_10 ?_
  refine r_ic (pc := 11) (v := nI 0) C rfl dX5_clearText_11 ?_
  refine r_put (pc := 12) (ws2 := [(mA, cMo 0 mscr 0 mspot mgood mleft mread mnow mtri mdia macts mkept misk qp)]) C iX5_clearText_X5 tyX5_ok nmX5 0 rfl rfl 2 (by decide) (mw 2 rfl) rfl rfl rfl rfl (Nat.le_of_ble_eq_true rfl) rfl dX5_clearText_12 ?_
  refine r_iln (pc := 15) C 1 rfl dX5_clearText_15 ?_
  subst hQ
  exact e_iW C hr hk (Nat.le_refl _) (Nat.le_refl _) ⟨0, 0⟩ rfl (⟨rfl, rfl, rfl⟩) dX5_clearText_16

theorem iX5_errorPosition_X5 : ∀ w ∈ u_ws RX5 TX5 14, w ∈ wsX5_errorPosition := by decide +kernel
abbrev rmX5_errorPosition : Room := { frames := 11, cells := 0, slots := 0, locals := 259 }
theorem n_X5_errorPosition : yX5_errorPosition.cls = RX5 ∧ yX5_errorPosition.cls ≠ "java/lang/invoke/MethodHandle" ∧ yX5_errorPosition.cls ≠ "java/lang/invoke/VarHandle" ∧ (parseMethodDescriptor yX5_errorPosition.desc).map (fun d => d.parameters.length) = some 0 := by decide +kernel
set_option maxHeartbeats 4000000 in
set_option maxRecDepth 100000 in
theorem k_X5_errorPosition (l : Launch) (D : va_G) (cT : Nat → ClassId) (mA mref mscr msz mspot mgood mleft mread mnow mtri mdia macts mkept misk qp : Nat) (sg : Nat → Nat) (pl f : Nat → Int32) (hz : msz ≤ 120) (hsg : ∀ k, k < 120 → sg k < 256) : MWi (S := Nat × Nat × Nat × Nat × (Nat → Int32) × (Nat → Int32)) l D cT yX5_errorPosition wsX5_errorPosition rmX5_errorPosition [.ref mA] [(mA, cMo mref mscr msz mspot mgood mleft mread mnow mtri mdia macts mkept misk qp), (mscr, aN (cT 0) 120 sg), (qp, aI (cT 0) 16 pl), (mread, aI (cT 0) 104 f)] (fun r w9 => w9.1 = 0 ∧ RTq msz sg r w9.2.2.2.1 w9.2.2.2.2.2) (fun w9 => [(mA, cMo w9.1 mscr msz w9.2.2.1 w9.2.1 w9.2.2.2.1 mread mnow mtri mdia macts mkept misk qp), (mscr, aN (cT 0) 120 sg), (qp, aI (cT 0) 16 w9.2.2.2.2.1), (mread, aI (cT 0) 104 w9.2.2.2.2.2)]) 0 0 := by
  refine m_Wi [(0, .ref mA)] (by decide +kernel) rfl (Nat.le_of_ble_eq_true rfl) rfl ?_
  intro p e s m args below meth c A hAe C hA hr hk hnm_
  generalize hQ : MQ below (va_Qi _ _ A) args s 0 0 A = Q
  refine r_aln (pc := 0) C 0 rfl dX5_errorPosition_0 ?_
  refine r_ic (pc := 1) (v := nI 0) C rfl dX5_errorPosition_1 ?_
  refine r_put (pc := 2) (ws2 := [(mA, cMo 0 mscr msz mspot mgood mleft mread mnow mtri mdia macts mkept misk qp), (mscr, aN (cT 0) 120 sg), (qp, aI (cT 0) 16 pl), (mread, aI (cT 0) 104 f)]) C iX5_errorPosition_X5 tyX5_ok nmX5 0 rfl rfl 0 (by decide) (mw 1 rfl) rfl rfl rfl rfl (Nat.le_of_ble_eq_true rfl) rfl dX5_errorPosition_2 ?_
  refine r_aln (pc := 5) C 0 rfl dX5_errorPosition_5 ?_
  refine c_WVi (pc := 6) (As := []) (wc := [(mA, cMo 0 mscr msz mspot mgood mleft mread mnow mtri mdia macts mkept misk qp), (mscr, aN (cT 0) 120 sg), (qp, aI (cT 0) 16 pl), (mread, aI (cT 0) 104 f)]) (wr := []) (qr := 0) C hA (k_X5_readText l D cT mA 0 mscr msz mspot mgood mleft mread mnow mtri mdia macts mkept misk qp sg pl f (by first | assumption | omega) (by first | assumption | omega)) (cwV 0 C.1.2.2.2.2 gX5_errorPosition_X5_readText rfl rfl rfl n_X5_readText ⟨Nat.le_of_ble_eq_true rfl, Nat.le_of_ble_eq_true rfl⟩) rfl rfl [0, 1, 2, 3] [] rfl rfl ⟨by decide, by decide⟩ (by decide) [0, 1, 2, 3] (fun u2 => [(mA, cMo 0 mscr msz u2.2.1 u2.1 u2.2.2.1 mread mnow mtri mdia macts mkept misk qp), (mscr, aN (cT 0) 120 sg), (qp, aI (cT 0) 16 u2.2.2.2.1), (mread, aI (cT 0) 104 u2.2.2.2.2)]) (fun _ => rfl) (by decide) rfl rfl (Nat.le_of_ble_eq_true rfl) ⟨Nat.zero_le _, Nat.zero_le _⟩ dX5_errorPosition_6 (fun r6 u2 h1 => ?_)
  subst hQ
  exact e_iW C hr hk (Nat.le_refl _) (Nat.le_refl _) ⟨0, u2.1, u2.2.1, u2.2.2.1, u2.2.2.2.1, u2.2.2.2.2⟩ rfl (⟨rfl, h1⟩) dX5_errorPosition_9

theorem iX5_load_X5 : ∀ w ∈ u_ws RX5 TX5 14, w ∈ wsX5_load := by decide +kernel
abbrev rmX5_load : Room := { frames := 11, cells := 0, slots := 0, locals := 259 }
theorem n_X5_load : yX5_load.cls = RX5 ∧ yX5_load.cls ≠ "java/lang/invoke/MethodHandle" ∧ yX5_load.cls ≠ "java/lang/invoke/VarHandle" ∧ (parseMethodDescriptor yX5_load.desc).map (fun d => d.parameters.length) = some 0 := by decide +kernel
set_option maxHeartbeats 4000000 in
set_option maxRecDepth 100000 in
theorem k_X5_load (l : Launch) (D : va_G) (cT : Nat → ClassId) (mA mref mscr msz mspot mgood mleft mread mnow mtri mdia macts mkept misk qp : Nat) (sg : Nat → Nat) (pl fr fn : Nat → Int32) (sk : Nat → Nat) (hz : msz ≤ 120) (hsg : ∀ k, k < 120 → sg k < 256) : MWi (S := Nat × Nat × Nat × Nat × Nat × (Nat → Int32) × (Nat → Int32) × (Nat → Int32) × (Nat → Nat)) l D cT yX5_load wsX5_load rmX5_load [.ref mA] [(mA, cMo mref mscr msz mspot mgood mleft mread mnow mtri mdia macts mkept misk qp), (mscr, aN (cT 0) 120 sg), (qp, aI (cT 0) 16 pl), (mread, aI (cT 0) 104 fr), (mnow, aI (cT 0) 104 fn), (misk, aN (cT 1) 2 sk)] (fun r w9 => LDm msz sg r w9.1 w9.2.2.2.1 fn w9.2.2.2.2.2.2.2.1 macts w9.2.2.2.2.1 sk w9.2.2.2.2.2.2.2.2) (fun w9 => [(mA, cMo w9.1 mscr msz w9.2.2.1 w9.2.1 w9.2.2.2.1 mread mnow mtri mdia w9.2.2.2.2.1 mkept misk qp), (mscr, aN (cT 0) 120 sg), (qp, aI (cT 0) 16 w9.2.2.2.2.2.1), (mread, aI (cT 0) 104 w9.2.2.2.2.2.2.1), (mnow, aI (cT 0) 104 w9.2.2.2.2.2.2.2.1), (misk, aN (cT 1) 2 w9.2.2.2.2.2.2.2.2)]) 0 0 := by
  refine m_Wi [(0, .ref mA)] (by decide +kernel) rfl (Nat.le_of_ble_eq_true rfl) rfl ?_
  intro p e s m args below meth c A hAe C hA hr hk hnm_
  generalize hQ : MQ below (va_Qi _ _ A) args s 0 0 A = Q
  refine r_aln (pc := 0) C 0 rfl dX5_load_0 ?_
  refine r_aln (pc := 1) C 0 rfl dX5_load_1 ?_
  refine c_WVi (pc := 2) (As := []) (wc := [(mA, cMo mref mscr msz mspot mgood mleft mread mnow mtri mdia macts mkept misk qp), (mscr, aN (cT 0) 120 sg), (qp, aI (cT 0) 16 pl), (mread, aI (cT 0) 104 fr)]) (wr := [(mnow, aI (cT 0) 104 fn), (misk, aN (cT 1) 2 sk)]) (qr := 0) C hA (k_X5_readText l D cT mA mref mscr msz mspot mgood mleft mread mnow mtri mdia macts mkept misk qp sg pl fr (by first | assumption | omega) (by first | assumption | omega)) (cwV 0 C.1.2.2.2.2 gX5_load_X5_readText rfl rfl rfl n_X5_readText ⟨Nat.le_of_ble_eq_true rfl, Nat.le_of_ble_eq_true rfl⟩) rfl rfl [0, 1, 2, 3] [4, 5] rfl rfl ⟨by decide, by decide⟩ (by decide) [2, 3, 4, 5, 0, 1] (fun u2 => [(mA, cMo mref mscr msz u2.2.1 u2.1 u2.2.2.1 mread mnow mtri mdia macts mkept misk qp), (mscr, aN (cT 0) 120 sg), (qp, aI (cT 0) 16 u2.2.2.2.1), (mread, aI (cT 0) 104 u2.2.2.2.2), (mnow, aI (cT 0) 104 fn), (misk, aN (cT 1) 2 sk)]) (fun _ => rfl) (by decide) rfl rfl (Nat.le_of_ble_eq_true rfl) ⟨Nat.zero_le _, Nat.zero_le _⟩ dX5_load_2 (fun r2 u2 h1 => ?_)
  refine r_ic (pc := 5) (v := (-1)) C rfl dX5_load_5 ?_
  refine r_cne (pc := 6) (tgt := 13) C dX5_load_6 (by decide) (fun c6 => ?_) (fun c6 => ?_)
  · refine r_ic (pc := 13) (v := nI 1) C rfl dX5_load_13 ?_
    refine c_WVi (pc := 14) (As := [.int (nI 1)]) (wc := [(mA, cMo mref mscr msz u2.2.1 u2.1 u2.2.2.1 mread mnow mtri mdia macts mkept misk qp)]) (wr := [(mscr, aN (cT 0) 120 sg), (qp, aI (cT 0) 16 u2.2.2.2.1), (mread, aI (cT 0) 104 u2.2.2.2.2), (mnow, aI (cT 0) 104 fn), (misk, aN (cT 1) 2 sk)]) (qr := 0) C hA (k_X5_refused l D cT mA mref mscr msz u2.2.1 u2.1 u2.2.2.1 mread mnow mtri mdia macts mkept misk qp 1 (by first | assumption | omega)) (cwV 1 C.1.2.2.2.2 gX5_load_X5_refused rfl rfl rfl n_X5_refused ⟨Nat.le_of_ble_eq_true rfl, Nat.le_of_ble_eq_true rfl⟩) rfl rfl [0] [1, 2, 3, 4, 5] rfl rfl ⟨by decide, by decide⟩ (by decide) [5, 0, 1, 2, 3, 4] (fun u4 => [(mA, cMo u4 mscr msz u2.2.1 u2.1 u2.2.2.1 mread mnow mtri mdia macts mkept misk qp), (mscr, aN (cT 0) 120 sg), (qp, aI (cT 0) 16 u2.2.2.2.1), (mread, aI (cT 0) 104 u2.2.2.2.2), (mnow, aI (cT 0) 104 fn), (misk, aN (cT 1) 2 sk)]) (fun _ => rfl) (by decide) rfl rfl (Nat.le_of_ble_eq_true rfl) ⟨Nat.zero_le _, Nat.zero_le _⟩ dX5_load_14 (fun r14 u4 h3 => ?_)
    obtain ⟨h3, h3m⟩ := h3
    have h3 := h3.trans (if_neg (by decide))
    subst h3
    subst h3m
    refine r_zeqN (pc := 17) (tgt := 22) C (by omega) dX5_load_17 (by decide) (fun h => absurd h (by decide)) (fun _ => ?_)
    refine r_ic (pc := 20) (v := nI 0) C rfl dX5_load_20 ?_
    subst hQ
    exact e_iW C hr hk (Nat.le_refl _) (Nat.le_refl _) ⟨1, u2.1, u2.2.1, u2.2.2.1, macts, u2.2.2.2.1, u2.2.2.2.2, fn, sk⟩ rfl (Or.inl ⟨rfl, ⟨_, h1.1, c6⟩, rfl, rfl, rfl⟩) dX5_load_21
  · refine r_ic (pc := 9) (v := nI 0) C rfl dX5_load_9 ?_
    refine r_goto (pc := 10) (tgt := 14) C dX5_load_10 (by decide) ?_
    refine c_WVi (pc := 14) (As := [.int (nI 0)]) (wc := [(mA, cMo mref mscr msz u2.2.1 u2.1 u2.2.2.1 mread mnow mtri mdia macts mkept misk qp)]) (wr := [(mscr, aN (cT 0) 120 sg), (qp, aI (cT 0) 16 u2.2.2.2.1), (mread, aI (cT 0) 104 u2.2.2.2.2), (mnow, aI (cT 0) 104 fn), (misk, aN (cT 1) 2 sk)]) (qr := 0) C hA (k_X5_refused l D cT mA mref mscr msz u2.2.1 u2.1 u2.2.2.1 mread mnow mtri mdia macts mkept misk qp 0 (by first | assumption | omega)) (cwV 1 C.1.2.2.2.2 gX5_load_X5_refused rfl rfl rfl n_X5_refused ⟨Nat.le_of_ble_eq_true rfl, Nat.le_of_ble_eq_true rfl⟩) rfl rfl [0] [1, 2, 3, 4, 5] rfl rfl ⟨by decide, by decide⟩ (by decide) [5, 0, 1, 2, 3, 4] (fun u6 => [(mA, cMo u6 mscr msz u2.2.1 u2.1 u2.2.2.1 mread mnow mtri mdia macts mkept misk qp), (mscr, aN (cT 0) 120 sg), (qp, aI (cT 0) 16 u2.2.2.2.1), (mread, aI (cT 0) 104 u2.2.2.2.2), (mnow, aI (cT 0) 104 fn), (misk, aN (cT 1) 2 sk)]) (fun _ => rfl) (by decide) rfl rfl (Nat.le_of_ble_eq_true rfl) ⟨Nat.zero_le _, Nat.zero_le _⟩ dX5_load_14 (fun r14 u6 h5 => ?_)
    obtain ⟨h5, h5m⟩ := h5
    have h5 := h5.trans (if_pos rfl)
    subst h5
    subst h5m
    refine r_zeqN (pc := 17) (tgt := 22) C (by omega) dX5_load_17 (by decide) (fun _ => ?_) (fun h => absurd h (by decide))
    refine r_aln (pc := 22) C 0 rfl dX5_load_22 ?_
    refine r_get (pc := 23) C iX5_load_X5 0 rfl rfl 6 (by decide) (mw 1 rfl) rfl rfl dX5_load_23 ?_
    refine r_ic (pc := 26) (v := nI 0) C rfl dX5_load_26 ?_
    refine r_aln (pc := 27) C 0 rfl dX5_load_27 ?_
    refine r_get (pc := 28) C iX5_load_X5 0 rfl rfl 7 (by decide) (mw 2 rfl) rfl rfl dX5_load_28 ?_
    refine r_ic (pc := 31) (v := nI 0) C rfl dX5_load_31 ?_
    refine r_bi (pc := 32) (v := nI 104) C rfl dX5_load_32 ?_
    refine c_WSv (pc := 34) (As := [.ref mread, .int (nI 0), .ref mnow, .int (nI 0), .int (nI 104)]) (wc := [(mread, aI (cT 0) 104 u2.2.2.2.2), (mnow, aI (cT 0) 104 fn)]) (wr := [(mA, cMo 0 mscr msz u2.2.1 u2.1 u2.2.2.1 mread mnow mtri mdia macts mkept misk qp), (mscr, aN (cT 0) 120 sg), (qp, aI (cT 0) 16 u2.2.2.2.1), (misk, aN (cT 1) 2 sk)])  C hA (k_X5_copy l D cT mread 104 u2.2.2.2.2 mnow 104 fn 0 0 104 (⟨by decide, by decide⟩) (by decide) (by decide)) (va_cwS 5 C.1.2.2.2.2 gX5_load_X5_copy rfl rfl rfl n_X5_copy ⟨Nat.le_of_ble_eq_true rfl, Nat.le_of_ble_eq_true rfl⟩) [3, 4] [0, 1, 2, 5] rfl rfl ⟨by decide, by decide⟩ (by decide) [0, 1, 2, 4, 5, 3] (fun u8 => [(mA, cMo 0 mscr msz u2.2.1 u2.1 u2.2.2.1 mread mnow mtri mdia macts mkept misk qp), (mscr, aN (cT 0) 120 sg), (qp, aI (cT 0) 16 u2.2.2.2.1), (mread, aI (cT 0) 104 u2.2.2.2.2), (mnow, aI (cT 0) 104 u8), (misk, aN (cT 1) 2 sk)]) (fun _ => rfl) (by decide) rfl rfl (Nat.le_of_ble_eq_true rfl) ⟨Nat.zero_le _, Nat.zero_le _⟩ dX5_load_34 (fun u8 h7 => ?_)
    obtain ⟨m9, rfl⟩ : ∃ z, z = u8 := ⟨_, rfl⟩
    try dsimp only at h7
    subst h7
    refine r_aln (pc := 37) C 0 rfl dX5_load_37 ?_
    refine r_ic (pc := 38) (v := nI 0) C rfl dX5_load_38 ?_
    refine r_put (pc := 39) (ws2 := [(mA, cMo 0 mscr msz u2.2.1 u2.1 u2.2.2.1 mread mnow mtri mdia 0 mkept misk qp), (mscr, aN (cT 0) 120 sg), (qp, aI (cT 0) 16 u2.2.2.2.1), (mread, aI (cT 0) 104 u2.2.2.2.2), (mnow, aI (cT 0) 104 (cpF u2.2.2.2.2 fn 0 0 104)), (misk, aN (cT 1) 2 sk)]) C iX5_load_X5 tyX5_ok nmX5 0 rfl rfl 10 (by decide) (mw 3 rfl) rfl rfl rfl rfl (Nat.le_of_ble_eq_true rfl) rfl dX5_load_39 ?_
    refine r_aln (pc := 42) C 0 rfl dX5_load_42 ?_
    refine r_get (pc := 43) C iX5_load_X5 0 rfl rfl 12 (by decide) (mw 4 rfl) rfl rfl dX5_load_43 ?_
    refine r_ic (pc := 46) (v := nI 0) C rfl dX5_load_46 ?_
    refine r_ic (pc := 47) (v := nI 0) C rfl dX5_load_47 ?_
    refine r_zasN (pc := 48) (ws2 := [(mA, cMo 0 mscr msz u2.2.1 u2.1 u2.2.2.1 mread mnow mtri mdia 0 mkept misk qp), (mscr, aN (cT 0) 120 sg), (qp, aI (cT 0) 16 u2.2.2.2.1), (mread, aI (cT 0) 104 u2.2.2.2.2), (mnow, aI (cT 0) 104 (cpF u2.2.2.2.2 fn 0 0 104)), (misk, aN (cT 1) 2 (va_up sk 0 0))]) C (by omega) 5 rfl (by omega) (by decide) rfl dX5_load_48 ?_
    refine r_aln (pc := 49) C 0 rfl dX5_load_49 ?_
    refine r_get (pc := 50) C iX5_load_X5 0 rfl rfl 12 (by decide) (mw 4 rfl) rfl rfl dX5_load_50 ?_
    refine r_ic (pc := 53) (v := nI 1) C rfl dX5_load_53 ?_
    refine r_ic (pc := 54) (v := nI 0) C rfl dX5_load_54 ?_
    refine r_zasN (pc := 55) (ws2 := [(mA, cMo 0 mscr msz u2.2.1 u2.1 u2.2.2.1 mread mnow mtri mdia 0 mkept misk qp), (mscr, aN (cT 0) 120 sg), (qp, aI (cT 0) 16 u2.2.2.2.1), (mread, aI (cT 0) 104 u2.2.2.2.2), (mnow, aI (cT 0) 104 (cpF u2.2.2.2.2 fn 0 0 104)), (misk, aN (cT 1) 2 (va_up (va_up sk 0 0) 1 0))]) C (by omega) 5 rfl (by omega) (by decide) rfl dX5_load_55 ?_
    refine r_aln (pc := 56) C 0 rfl dX5_load_56 ?_
    refine r_get (pc := 57) C iX5_load_X5 0 rfl rfl 5 (by decide) (mw 5 rfl) rfl rfl dX5_load_57 ?_
    subst hQ
    exact e_iW C hr hk (Nat.le_refl _) (Nat.le_refl _) ⟨0, u2.1, u2.2.1, u2.2.2.1, 0, u2.2.2.2.1, u2.2.2.2.2, cpF u2.2.2.2.2 fn 0 0 104, va_up (va_up sk 0 0) 1 0⟩ rfl (by have hRT := h1.2 c6; have hFE := h1.1; rw [c6] at hFE; obtain ⟨q1, q2, q3, q4, q5, q6, q7, q8, q9, q10, q11, q12⟩ := hRT; exact Or.inr ⟨rfl, rfl, hFE, rfl, fun x hx => by rcases (show x = 0 ∨ x = 1 by omega) with e | e <;> subst e <;> rfl, q1, q2, q3, q4, q5, q6, q7, q8, q9, q10, rq_cp q12 q11, q12⟩) dX5_load_60

theorem iX5_about_X5 : ∀ w ∈ u_ws RX5 TX5 14, w ∈ wsX5_about := by decide +kernel
abbrev rmX5_about : Room := { frames := 3, cells := 0, slots := 0, locals := 66 }
theorem n_X5_about : yX5_about.cls = RX5 ∧ yX5_about.cls ≠ "java/lang/invoke/MethodHandle" ∧ yX5_about.cls ≠ "java/lang/invoke/VarHandle" ∧ (parseMethodDescriptor yX5_about.desc).map (fun d => d.parameters.length) = some 1 := by decide +kernel
set_option maxHeartbeats 4000000 in
set_option maxRecDepth 100000 in
theorem k_X5_about (l : Launch) (D : va_G) (cT : Nat → ClassId) (mA mref mscr msz mspot mgood mleft mread mnow mtri mdia macts mkept misk qp : Nat) (f : Nat → Int32) (x : Int32) (u : SS) (hR : RowQ f u) (hJ : JQ u) : MWi (S := Nat) l D cT yX5_about wsX5_about rmX5_about [.ref mA, .int x] [(mA, cMo mref mscr msz mspot mgood mleft mread mnow mtri mdia macts mkept misk qp), (mnow, aI (cT 0) 104 f)] (fun r w9 => (w9 = 1 ∧ ¬ CIn 10 x) ∨ (w9 = 0 ∧ ∃ k, x = nI k ∧ k < 10 ∧ r = nI (abV u.fst u.wid u.mid u.las u.pat u.bro u.mov u.cnt u.outs k))) (fun w9 => [(mA, cMo w9 mscr msz mspot mgood mleft mread mnow mtri mdia macts mkept misk qp), (mnow, aI (cT 0) 104 f)]) 0 0 := by
  refine m_Wi [(0, .ref mA), (1, .int x)] (by decide +kernel) rfl (Nat.le_of_ble_eq_true rfl) rfl ?_
  intro p e s m args below meth c A hAe C hA hr hk hnm_
  generalize hQ : MQ below (va_Qi _ _ A) args s 0 0 A = Q
  have hB := bd_of hJ
  obtain ⟨hF, hW, hM, hL, hPa, hBr, hCn, hFL, hE⟩ := id hB
  have hFW1 := mul44 hF hW
  have hLW1 := mul44 hL hW
  refine r_aln (pc := 0) C 0 rfl dX5_about_0 ?_
  refine r_iln (pc := 1) C 1 rfl dX5_about_1 ?_
  refine r_i2l (pc := 2) C rfl dX5_about_2 ?_
  refine r_lc (pc := 3) (v := 0) C rfl dX5_about_3 ?_
  refine r_lc2 (pc := 4) C (mw 1 rfl) dX5_about_4 ?_
  refine c_RS (pc := 7) (As := [.long x.toInt64, .long 0, .long (9)]) (wc := [])  C (k_X5_in l D cT x.toInt64 0 (9)) (va_cwS 3 C.1.2.2.2.2 gX5_about_X5_in rfl rfl rfl n_X5_in ⟨Nat.le_of_ble_eq_true rfl, Nat.le_of_ble_eq_true rfl⟩) [] rfl rfl rfl (Nat.le_of_ble_eq_true rfl) ⟨Nat.zero_le _, Nat.zero_le _⟩ dX5_about_7 (fun r7 h1 => ?_)
  rcases h1 with ⟨rfl, h1⟩ | ⟨rfl, h1⟩
  · obtain ⟨h1j, rfl, h1l⟩ := (in_lit (n := 9) (by decide) (by decide)).mp h1
    refine r_zeqN (pc := 10) (tgt := 17) C (by first | omega | (have := hE i (by omega); omega)) dX5_about_10 (by decide) (fun h => absurd h (by decide)) (fun _ => ?_)
    refine r_ic (pc := 13) (v := nI 0) C rfl dX5_about_13 ?_
    refine r_goto (pc := 14) (tgt := 18) C dX5_about_14 (by decide) ?_
    refine c_WVi (pc := 18) (As := [.int (nI 0)]) (wc := [(mA, cMo mref mscr msz mspot mgood mleft mread mnow mtri mdia macts mkept misk qp)]) (wr := [(mnow, aI (cT 0) 104 f)]) (qr := 0) C hA (k_X5_refused l D cT mA mref mscr msz mspot mgood mleft mread mnow mtri mdia macts mkept misk qp 0 (by first | assumption | omega)) (cwV 1 C.1.2.2.2.2 gX5_about_X5_refused rfl rfl rfl n_X5_refused ⟨Nat.le_of_ble_eq_true rfl, Nat.le_of_ble_eq_true rfl⟩) rfl rfl [0] [1] rfl rfl ⟨by decide, by decide⟩ (by decide) [1, 0] (fun u3 => [(mA, cMo u3 mscr msz mspot mgood mleft mread mnow mtri mdia macts mkept misk qp), (mnow, aI (cT 0) 104 f)]) (fun _ => rfl) (by decide) rfl rfl (Nat.le_of_ble_eq_true rfl) ⟨Nat.zero_le _, Nat.zero_le _⟩ dX5_about_18 (fun r18 u3 h2 => ?_)
    obtain ⟨h2, h2m⟩ := h2
    have h2 := h2.trans (if_pos rfl)
    subst h2
    subst h2m
    refine r_zeqN (pc := 21) (tgt := 26) C (by first | omega | (have := hE i (by omega); omega)) dX5_about_21 (by decide) (fun _ => ?_) (fun h => absurd h (by decide))
    refine r_iln (pc := 26) C 1 rfl dX5_about_26 ?_
    refine r_bi (pc := 27) (v := nI 7) C rfl dX5_about_27 ?_
    refine r_cneN (pc := 29) (tgt := 40) C (by first | omega | (have := hE i (by omega); omega)) (by first | omega | (have := hE i (by omega); omega)) dX5_about_29 (by decide) (fun c29 => ?_) (fun c29 => ?_)
    · refine r_iln (pc := 40) C 1 rfl dX5_about_40 ?_
      refine r_bi (pc := 41) (v := nI 8) C rfl dX5_about_41 ?_
      refine r_cneN (pc := 43) (tgt := 54) C (by first | omega | (have := hE i (by omega); omega)) (by first | omega | (have := hE i (by omega); omega)) dX5_about_43 (by decide) (fun c43 => ?_) (fun c43 => ?_)
      · refine r_iln (pc := 54) C 1 rfl dX5_about_54 ?_
        refine r_bi (pc := 55) (v := nI 9) C rfl dX5_about_55 ?_
        refine r_cgeN (pc := 57) (tgt := 67) C (by first | omega | (have := hE i (by omega); omega)) (by first | omega | (have := hE i (by omega); omega)) dX5_about_57 (by decide) (fun c57 => ?_) (fun c57 => ?_)
        · refine r_ic (pc := 67) (v := nI 0) C rfl dX5_about_67 ?_
          refine r_isn (pc := 68) C [1, 2, 0] [(0, .ref mA), (1, .int (nI h1j)), (2, .int (nI 0))] rfl (by decide) rfl dX5_about_68 ?_
          refine r_ic (pc := 69) (v := nI 0) C rfl dX5_about_69 ?_
          refine r_isn (pc := 70) C [1, 2, 3, 0] [(0, .ref mA), (1, .int (nI h1j)), (2, .int (nI 0)), (3, .int (nI 0))] rfl (by decide) rfl dX5_about_70 ?_
          have L71 : ∀ (n71 : Nat) (i : Nat) (hi : i ≤ u.cnt), u.cnt - i < n71 → RW p l e (headSpec wsX5_about rmX5_about).room s m args below meth c (IW s D A) 4 0 0 Q [(mA, cMo 0 mscr msz mspot mgood mleft mread mnow mtri mdia macts mkept misk qp), (mnow, aI (cT 0) 104 f)] 71 [(0, .ref mA), (1, .int (nI h1j)), (2, .int (nI (sumTo (fun c => pcn (u.outs c)) i))), (3, .int (nI i))] [] := by
            intro n71
            induction n71 with
            | zero => intro i hi hn71; exact absurd hn71 (Nat.not_lt_zero _)
            | succ n71 ih71 =>
              intro i hi hn71
              refine r_iln (pc := 71) C 3 rfl dX5_about_71 ?_
              refine r_aln (pc := 72) C 0 rfl dX5_about_72 ?_
              refine r_get (pc := 73) C iX5_about_X5 0 rfl rfl 7 (by decide) (mw 2 rfl) rfl rfl dX5_about_73 ?_
              refine r_ic (pc := 76) (v := nI 4) C rfl dX5_about_76 ?_
              refine r_ialI (pc := 77) C 1 rfl (by first | omega | (have := hE i (by omega); omega)) (by decide) dX5_about_77 ?_
              refine r_v (y := nI u.cnt) hR.1.2.2.2.2.1 ?_
              refine r_cgeN (pc := 78) (tgt := 103) C (by first | omega | (have := hE i (by omega); omega)) (by first | omega | (have := hE i (by omega); omega)) dX5_about_78 (by decide) (fun c78 => ?_) (fun c78 => ?_)
              · refine r_iln (pc := 103) C 2 rfl dX5_about_103 ?_
                subst hQ
                exact e_iW C hr hk (Nat.le_refl _) (Nat.le_refl _) 0 rfl (Or.inr ⟨rfl, h1j, rfl, h1l, by rw [ab_ge (by omega), show u.cnt = i by omega]⟩) dX5_about_104
              · refine r_iln (pc := 81) C 2 rfl dX5_about_81 ?_
                refine r_aln (pc := 82) C 0 rfl dX5_about_82 ?_
                refine r_get (pc := 83) C iX5_about_X5 0 rfl rfl 7 (by decide) (mw 2 rfl) rfl rfl dX5_about_83 ?_
                refine r_iln (pc := 86) C 3 rfl dX5_about_86 ?_
                refine r_ic (pc := 87) (v := nI 1) C rfl dX5_about_87 ?_
                refine c_RS (pc := 88) (As := [.int (nI i), .int (nI 1)]) (wc := [])  C (k_X5_callAt l D cT i 1) (va_cwS 2 C.1.2.2.2.2 gX5_about_X5_callAt rfl rfl rfl n_X5_callAt ⟨Nat.le_of_ble_eq_true rfl, Nat.le_of_ble_eq_true rfl⟩) [] rfl rfl rfl (Nat.le_of_ble_eq_true rfl) ⟨Nat.zero_le _, Nat.zero_le _⟩ dX5_about_88 (fun r88 h4 => ?_)
                subst h4
                refine r_ialI (pc := 91) C 1 rfl (by first | omega | (have := hE i (by omega); omega)) (by decide) dX5_about_91 ?_
                refine r_v (y := nI (u.outs i)) ((hR.2.1 i (by first | omega | (have := hE i (by omega); omega))).2.1) ?_
                refine c_RS (pc := 92) (As := [.int (nI (u.outs i))]) (wc := [])  C (k_X5_bits l D cT (u.outs i) ((hE i (by omega)).2.2.1)) (va_cwS 1 C.1.2.2.2.2 gX5_about_X5_bits rfl rfl rfl n_X5_bits ⟨Nat.le_of_ble_eq_true rfl, Nat.le_of_ble_eq_true rfl⟩) [] rfl rfl rfl (Nat.le_of_ble_eq_true rfl) ⟨Nat.zero_le _, Nat.zero_le _⟩ dX5_about_92 (fun r92 h5 => ?_)
                subst h5
                refine r_iaddN (pc := 95) C dX5_about_95 ?_
                refine r_isn (pc := 96) C [1, 2, 0, 3] [(0, .ref mA), (1, .int (nI h1j)), (2, .int (nI ((sumTo (fun c => pcn (u.outs c)) i) + (pcn (u.outs i))))), (3, .int (nI i))] rfl (by decide) rfl dX5_about_96 ?_
                refine r_incN (pc := 97) C 3 [1, 2, 3, 0] [(0, .ref mA), (1, .int (nI h1j)), (2, .int (nI ((sumTo (fun c => pcn (u.outs c)) i) + (pcn (u.outs i))))), (3, .int (nI (i + 1)))] rfl (by decide) rfl dX5_about_97 ?_
                refine r_goto (pc := 100) (tgt := 71) C dX5_about_100 (by decide) ?_
                exact ih71 (i + 1) (by omega) (by omega)
          exact L71 _ 0 (Nat.zero_le _) (Nat.lt_succ_self _)
        · refine r_aln (pc := 60) C 0 rfl dX5_about_60 ?_
          refine r_get (pc := 61) C iX5_about_X5 0 rfl rfl 7 (by decide) (mw 2 rfl) rfl rfl dX5_about_61 ?_
          refine r_iln (pc := 64) C 1 rfl dX5_about_64 ?_
          refine r_ialI (pc := 65) C 1 rfl (by first | omega | (have := hE i (by omega); omega)) (by decide) dX5_about_65 ?_
          subst hQ
          exact e_iW C hr hk (Nat.le_refl _) (Nat.le_refl _) 0 rfl (Or.inr ⟨rfl, h1j, rfl, h1l, ab_row hR c57 c29 c43⟩) dX5_about_66
      · refine r_aln (pc := 46) C 0 rfl dX5_about_46 ?_
        refine r_get (pc := 47) C iX5_about_X5 0 rfl rfl 7 (by decide) (mw 2 rfl) rfl rfl dX5_about_47 ?_
        refine r_bi (pc := 50) (v := nI 7) C rfl dX5_about_50 ?_
        refine r_ialI (pc := 52) C 1 rfl (by first | omega | (have := hE i (by omega); omega)) (by decide) dX5_about_52 ?_
        refine r_v (y := nI u.bro) hR.1.2.2.2.2.2.2.2 ?_
        subst hQ
        exact e_iW C hr hk (Nat.le_refl _) (Nat.le_refl _) 0 rfl (Or.inr ⟨rfl, h1j, rfl, h1l, by rw [c43]; rfl⟩) dX5_about_53
    · refine r_aln (pc := 32) C 0 rfl dX5_about_32 ?_
      refine r_get (pc := 33) C iX5_about_X5 0 rfl rfl 7 (by decide) (mw 2 rfl) rfl rfl dX5_about_33 ?_
      refine c_RS (pc := 36) (As := [.ref mnow]) (wc := [(mnow, aI (cT 0) 104 f)])  C (k_X5_links l D cT mnow f u (by first | assumption | omega) (by first | assumption | omega)) (va_cwS 1 C.1.2.2.2.2 gX5_about_X5_links rfl rfl rfl n_X5_links ⟨Nat.le_of_ble_eq_true rfl, Nat.le_of_ble_eq_true rfl⟩) [1] rfl rfl rfl (Nat.le_of_ble_eq_true rfl) ⟨Nat.zero_le _, Nat.zero_le _⟩ dX5_about_36 (fun r36 h6 => ?_)
      subst h6
      subst hQ
      exact e_iW C hr hk (Nat.le_refl _) (Nat.le_refl _) 0 rfl (Or.inr ⟨rfl, h1j, rfl, h1l, by rw [c29]; rfl⟩) dX5_about_39
  · have h1 := fun g => h1 ((in_lit (n := 9) (by decide) (by decide)).mpr g)
    refine r_zeqN (pc := 10) (tgt := 17) C (by first | omega | (have := hE i (by omega); omega)) dX5_about_10 (by decide) (fun _ => ?_) (fun h => absurd h (by decide))
    refine r_ic (pc := 17) (v := nI 1) C rfl dX5_about_17 ?_
    refine c_WVi (pc := 18) (As := [.int (nI 1)]) (wc := [(mA, cMo mref mscr msz mspot mgood mleft mread mnow mtri mdia macts mkept misk qp)]) (wr := [(mnow, aI (cT 0) 104 f)]) (qr := 0) C hA (k_X5_refused l D cT mA mref mscr msz mspot mgood mleft mread mnow mtri mdia macts mkept misk qp 1 (by first | assumption | omega)) (cwV 1 C.1.2.2.2.2 gX5_about_X5_refused rfl rfl rfl n_X5_refused ⟨Nat.le_of_ble_eq_true rfl, Nat.le_of_ble_eq_true rfl⟩) rfl rfl [0] [1] rfl rfl ⟨by decide, by decide⟩ (by decide) [1, 0] (fun u8 => [(mA, cMo u8 mscr msz mspot mgood mleft mread mnow mtri mdia macts mkept misk qp), (mnow, aI (cT 0) 104 f)]) (fun _ => rfl) (by decide) rfl rfl (Nat.le_of_ble_eq_true rfl) ⟨Nat.zero_le _, Nat.zero_le _⟩ dX5_about_18 (fun r18 u8 h7 => ?_)
    obtain ⟨h7, h7m⟩ := h7
    have h7 := h7.trans (if_neg (by decide))
    subst h7
    subst h7m
    refine r_zeqN (pc := 21) (tgt := 26) C (by first | omega | (have := hE i (by omega); omega)) dX5_about_21 (by decide) (fun h => absurd h (by decide)) (fun _ => ?_)
    refine r_ic (pc := 24) (v := nI 0) C rfl dX5_about_24 ?_
    subst hQ
    exact e_iW C hr hk (Nat.le_refl _) (Nat.le_refl _) 1 rfl (Or.inl ⟨rfl, h1⟩) dX5_about_25

theorem iX5_call_X5 : ∀ w ∈ u_ws RX5 TX5 14, w ∈ wsX5_call := by decide +kernel
abbrev rmX5_call : Room := { frames := 2, cells := 0, slots := 0, locals := 46 }
theorem n_X5_call : yX5_call.cls = RX5 ∧ yX5_call.cls ≠ "java/lang/invoke/MethodHandle" ∧ yX5_call.cls ≠ "java/lang/invoke/VarHandle" ∧ (parseMethodDescriptor yX5_call.desc).map (fun d => d.parameters.length) = some 2 := by decide +kernel
set_option maxHeartbeats 4000000 in
set_option maxRecDepth 100000 in
theorem k_X5_call (l : Launch) (D : va_G) (cT : Nat → ClassId) (mA mref mscr msz mspot mgood mleft mread mnow mtri mdia macts mkept misk qp : Nat) (f : Nat → Int32) (x w : Int32) (u : SS) (hR : RowQ f u) (hJ : JQ u) : MWi (S := Nat) l D cT yX5_call wsX5_call rmX5_call [.ref mA, .int x, .int w] [(mA, cMo mref mscr msz mspot mgood mleft mread mnow mtri mdia macts mkept misk qp), (mnow, aI (cT 0) 104 f)] (fun r w9 => (w9 = 1 ∧ ¬ CIn u.cnt x) ∨ (w9 = 2 ∧ CIn u.cnt x ∧ ¬ CIn 5 w) ∨ (w9 = 0 ∧ ∃ j k, x = nI j ∧ j < u.cnt ∧ w = nI k ∧ k < 5 ∧ r = nI (clV u.wid u.inp u.outs u.brd u.mvd j k))) (fun w9 => [(mA, cMo w9 mscr msz mspot mgood mleft mread mnow mtri mdia macts mkept misk qp), (mnow, aI (cT 0) 104 f)]) 0 0 := by
  refine m_Wi [(0, .ref mA), (1, .int x), (2, .int w)] (by decide +kernel) rfl (Nat.le_of_ble_eq_true rfl) rfl ?_
  intro p e s m args below meth c A hAe C hA hr hk hnm_
  generalize hQ : MQ below (va_Qi _ _ A) args s 0 0 A = Q
  have hB := bd_of hJ
  obtain ⟨hF, hW, hM, hL, hPa, hBr, hCn, hFL, hE⟩ := id hB
  have hFW1 := mul44 hF hW
  have hLW1 := mul44 hL hW
  refine r_aln (pc := 0) C 0 rfl dX5_call_0 ?_
  refine r_aln (pc := 1) C 0 rfl dX5_call_1 ?_
  refine r_iln (pc := 2) C 1 rfl dX5_call_2 ?_
  refine c_RV (pc := 3) (As := [.int x]) (wc := [(mA, cMo mref mscr msz mspot mgood mleft mread mnow mtri mdia macts mkept misk qp), (mnow, aI (cT 0) 104 f)]) (qr := 0) C (k_X5_isCall l D cT mA mref mscr msz mspot mgood mleft mread mnow mtri mdia macts mkept misk qp f x u (by first | assumption | omega) (by first | assumption | omega)) (cwV 1 C.1.2.2.2.2 gX5_call_X5_isCall rfl rfl rfl n_X5_isCall ⟨Nat.le_of_ble_eq_true rfl, Nat.le_of_ble_eq_true rfl⟩) [0, 1] rfl rfl rfl rfl rfl (Nat.le_of_ble_eq_true rfl) ⟨Nat.zero_le _, Nat.zero_le _⟩ dX5_call_3 (fun r3 h1 => ?_)
  rcases h1 with ⟨rfl, h1j, rfl, h1⟩ | ⟨rfl, h1⟩
  · refine r_zneN (pc := 6) (tgt := 13) C (by first | omega | exact lbTo_lt _ _ 16 (by omega)) dX5_call_6 (by decide) (fun _ => ?_) (fun h => absurd h (by decide))
    refine r_iln (pc := 13) C 2 rfl dX5_call_13 ?_
    refine r_i2l (pc := 14) C rfl dX5_call_14 ?_
    refine r_lc (pc := 15) (v := 0) C rfl dX5_call_15 ?_
    refine r_lc2 (pc := 16) C (mw 1 rfl) dX5_call_16 ?_
    refine c_RS (pc := 19) (As := [.long w.toInt64, .long 0, .long (4)]) (wc := [])  C (k_X5_in l D cT w.toInt64 0 (4)) (va_cwS 3 C.1.2.2.2.2 gX5_call_X5_in rfl rfl rfl n_X5_in ⟨Nat.le_of_ble_eq_true rfl, Nat.le_of_ble_eq_true rfl⟩) [] rfl rfl rfl (Nat.le_of_ble_eq_true rfl) ⟨Nat.zero_le _, Nat.zero_le _⟩ dX5_call_19 (fun r19 h2 => ?_)
    rcases h2 with ⟨rfl, h2⟩ | ⟨rfl, h2⟩
    · obtain ⟨h2j, rfl, h2l⟩ := (in_lit (n := 4) (by decide) (by decide)).mp h2
      refine r_zeqN (pc := 22) (tgt := 29) C (by first | omega | exact lbTo_lt _ _ 16 (by omega)) dX5_call_22 (by decide) (fun h => absurd h (by decide)) (fun _ => ?_)
      refine r_ic (pc := 25) (v := nI 0) C rfl dX5_call_25 ?_
      refine r_goto (pc := 26) (tgt := 30) C dX5_call_26 (by decide) ?_
      refine c_WVi (pc := 30) (As := [.int (nI 0)]) (wc := [(mA, cMo mref mscr msz mspot mgood mleft mread mnow mtri mdia macts mkept misk qp)]) (wr := [(mnow, aI (cT 0) 104 f)]) (qr := 0) C hA (k_X5_refused l D cT mA mref mscr msz mspot mgood mleft mread mnow mtri mdia macts mkept misk qp 0 (by first | assumption | omega)) (cwV 1 C.1.2.2.2.2 gX5_call_X5_refused rfl rfl rfl n_X5_refused ⟨Nat.le_of_ble_eq_true rfl, Nat.le_of_ble_eq_true rfl⟩) rfl rfl [0] [1] rfl rfl ⟨by decide, by decide⟩ (by decide) [1, 0] (fun u4 => [(mA, cMo u4 mscr msz mspot mgood mleft mread mnow mtri mdia macts mkept misk qp), (mnow, aI (cT 0) 104 f)]) (fun _ => rfl) (by decide) rfl rfl (Nat.le_of_ble_eq_true rfl) ⟨Nat.zero_le _, Nat.zero_le _⟩ dX5_call_30 (fun r30 u4 h3 => ?_)
      obtain ⟨h3, h3m⟩ := h3
      have h3 := h3.trans (if_pos rfl)
      subst h3
      subst h3m
      refine r_zeqN (pc := 33) (tgt := 38) C (by first | omega | exact lbTo_lt _ _ 16 (by omega)) dX5_call_33 (by decide) (fun _ => ?_) (fun h => absurd h (by decide))
      refine r_iln (pc := 38) C 2 rfl dX5_call_38 ?_
      refine r_ic (pc := 39) (v := nI 4) C rfl dX5_call_39 ?_
      refine r_cgeN (pc := 40) (tgt := 56) C (by first | omega | exact lbTo_lt _ _ 16 (by omega)) (by first | omega | exact lbTo_lt _ _ 16 (by omega)) dX5_call_40 (by decide) (fun c40 => ?_) (fun c40 => ?_)
      · refine r_ic (pc := 56) (v := nI 1) C rfl dX5_call_56 ?_
        refine r_aln (pc := 57) C 0 rfl dX5_call_57 ?_
        refine r_get (pc := 58) C iX5_call_X5 0 rfl rfl 7 (by decide) (mw 2 rfl) rfl rfl dX5_call_58 ?_
        refine r_iln (pc := 61) C 1 rfl dX5_call_61 ?_
        refine c_RS (pc := 62) (As := [.ref mnow, .int (nI h1j)]) (wc := [(mnow, aI (cT 0) 104 f)])  C (k_X5_boards l D cT mnow f h1j u (by first | assumption | omega) (by first | assumption | omega) (by first | assumption | omega)) (va_cwS 2 C.1.2.2.2.2 gX5_call_X5_boards rfl rfl rfl n_X5_boards ⟨Nat.le_of_ble_eq_true rfl, Nat.le_of_ble_eq_true rfl⟩) [1] rfl rfl rfl (Nat.le_of_ble_eq_true rfl) ⟨Nat.zero_le _, Nat.zero_le _⟩ dX5_call_62 (fun r62 h5 => ?_)
        subst h5
        refine c_RS (pc := 65) (As := [.int (nI (lbs u.wid (u.outs h1j)))]) (wc := [])  C (k_X5_bits l D cT (lbs u.wid (u.outs h1j)) (lbTo_lt _ _ 16 (by omega))) (va_cwS 1 C.1.2.2.2.2 gX5_call_X5_bits rfl rfl rfl n_X5_bits ⟨Nat.le_of_ble_eq_true rfl, Nat.le_of_ble_eq_true rfl⟩) [] rfl rfl rfl (Nat.le_of_ble_eq_true rfl) ⟨Nat.zero_le _, Nat.zero_le _⟩ dX5_call_65 (fun r65 h6 => ?_)
        subst h6
        refine r_iaddN (pc := 68) C dX5_call_68 ?_
        subst hQ
        exact e_iW C hr hk (Nat.le_refl _) (Nat.le_refl _) 0 rfl (Or.inr (Or.inr ⟨rfl, _, _, rfl, h1, rfl, h2l, by rw [cl_ge c40]⟩)) dX5_call_69
      · refine r_aln (pc := 43) C 0 rfl dX5_call_43 ?_
        refine r_get (pc := 44) C iX5_call_X5 0 rfl rfl 7 (by decide) (mw 2 rfl) rfl rfl dX5_call_44 ?_
        refine r_iln (pc := 47) C 1 rfl dX5_call_47 ?_
        refine r_iln (pc := 48) C 2 rfl dX5_call_48 ?_
        refine c_RS (pc := 49) (As := [.int (nI h1j), .int (nI h2j)]) (wc := [])  C (k_X5_callAt l D cT h1j h2j) (va_cwS 2 C.1.2.2.2.2 gX5_call_X5_callAt rfl rfl rfl n_X5_callAt ⟨Nat.le_of_ble_eq_true rfl, Nat.le_of_ble_eq_true rfl⟩) [] rfl rfl rfl (Nat.le_of_ble_eq_true rfl) ⟨Nat.zero_le _, Nat.zero_le _⟩ dX5_call_49 (fun r49 h7 => ?_)
        subst h7
        refine r_ialI (pc := 52) C 1 rfl (by first | omega | exact lbTo_lt _ _ 16 (by omega)) (by decide) dX5_call_52 ?_
        refine r_goto (pc := 53) (tgt := 69) C dX5_call_53 (by decide) ?_
        subst hQ
        exact e_iW C hr hk (Nat.le_refl _) (Nat.le_refl _) 0 rfl (Or.inr (Or.inr ⟨rfl, _, _, rfl, h1, rfl, h2l, cl_row hR h1 c40⟩)) dX5_call_69
    · have h2 := fun g => h2 ((in_lit (n := 4) (by decide) (by decide)).mpr g)
      refine r_zeqN (pc := 22) (tgt := 29) C (by first | omega | exact lbTo_lt _ _ 16 (by omega)) dX5_call_22 (by decide) (fun _ => ?_) (fun h => absurd h (by decide))
      refine r_ic (pc := 29) (v := nI 2) C rfl dX5_call_29 ?_
      refine c_WVi (pc := 30) (As := [.int (nI 2)]) (wc := [(mA, cMo mref mscr msz mspot mgood mleft mread mnow mtri mdia macts mkept misk qp)]) (wr := [(mnow, aI (cT 0) 104 f)]) (qr := 0) C hA (k_X5_refused l D cT mA mref mscr msz mspot mgood mleft mread mnow mtri mdia macts mkept misk qp 2 (by first | assumption | omega)) (cwV 1 C.1.2.2.2.2 gX5_call_X5_refused rfl rfl rfl n_X5_refused ⟨Nat.le_of_ble_eq_true rfl, Nat.le_of_ble_eq_true rfl⟩) rfl rfl [0] [1] rfl rfl ⟨by decide, by decide⟩ (by decide) [1, 0] (fun u9 => [(mA, cMo u9 mscr msz mspot mgood mleft mread mnow mtri mdia macts mkept misk qp), (mnow, aI (cT 0) 104 f)]) (fun _ => rfl) (by decide) rfl rfl (Nat.le_of_ble_eq_true rfl) ⟨Nat.zero_le _, Nat.zero_le _⟩ dX5_call_30 (fun r30 u9 h8 => ?_)
      obtain ⟨h8, h8m⟩ := h8
      have h8 := h8.trans (if_neg (by decide))
      subst h8
      subst h8m
      refine r_zeqN (pc := 33) (tgt := 38) C (by first | omega | exact lbTo_lt _ _ 16 (by omega)) dX5_call_33 (by decide) (fun h => absurd h (by decide)) (fun _ => ?_)
      refine r_ic (pc := 36) (v := nI 0) C rfl dX5_call_36 ?_
      subst hQ
      exact e_iW C hr hk (Nat.le_refl _) (Nat.le_refl _) 2 rfl (Or.inr (Or.inl ⟨rfl, ⟨_, rfl, h1⟩, h2⟩)) dX5_call_37
  · refine r_zneN (pc := 6) (tgt := 13) C (by first | omega | exact lbTo_lt _ _ 16 (by omega)) dX5_call_6 (by decide) (fun h => absurd h (by decide)) (fun _ => ?_)
    refine r_ic (pc := 9) (v := nI 1) C rfl dX5_call_9 ?_
    refine r_goto (pc := 10) (tgt := 30) C dX5_call_10 (by decide) ?_
    refine c_WVi (pc := 30) (As := [.int (nI 1)]) (wc := [(mA, cMo mref mscr msz mspot mgood mleft mread mnow mtri mdia macts mkept misk qp)]) (wr := [(mnow, aI (cT 0) 104 f)]) (qr := 0) C hA (k_X5_refused l D cT mA mref mscr msz mspot mgood mleft mread mnow mtri mdia macts mkept misk qp 1 (by first | assumption | omega)) (cwV 1 C.1.2.2.2.2 gX5_call_X5_refused rfl rfl rfl n_X5_refused ⟨Nat.le_of_ble_eq_true rfl, Nat.le_of_ble_eq_true rfl⟩) rfl rfl [0] [1] rfl rfl ⟨by decide, by decide⟩ (by decide) [1, 0] (fun u11 => [(mA, cMo u11 mscr msz mspot mgood mleft mread mnow mtri mdia macts mkept misk qp), (mnow, aI (cT 0) 104 f)]) (fun _ => rfl) (by decide) rfl rfl (Nat.le_of_ble_eq_true rfl) ⟨Nat.zero_le _, Nat.zero_le _⟩ dX5_call_30 (fun r30 u11 h10 => ?_)
    obtain ⟨h10, h10m⟩ := h10
    have h10 := h10.trans (if_neg (by decide))
    subst h10
    subst h10m
    refine r_zeqN (pc := 33) (tgt := 38) C (by first | omega | exact lbTo_lt _ _ 16 (by omega)) dX5_call_33 (by decide) (fun h => absurd h (by decide)) (fun _ => ?_)
    refine r_ic (pc := 36) (v := nI 0) C rfl dX5_call_36 ?_
    subst hQ
    exact e_iW C hr hk (Nat.le_refl _) (Nat.le_refl _) 1 rfl (Or.inl ⟨rfl, h1⟩) dX5_call_37

