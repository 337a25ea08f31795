/-! methods that may throw: the world in which they throw, their starts, their ends, calls of them -/
def xStrs : List (Nat × String) := [(54, "not a character"), (65, "the text is full"), (76, "the text is not an exchange"), (156, "what is 0 to 9"), (163, "no such call"), (182, "what is 0 to 4"), (187, "no such board"), (202, "no such input or output"), (210, "no such input"), (236, "no such input, output, board or call"), (238, "it can't be done now"), (228, "patience is 0 to 3"), (234, "no state is remembered"), (250, "most is 0 to 3"), (270, "n is 1 to 3"), (276, "the script has 0 to 5 * n digits"), (286, "m is 1 to 60"), (309, "no such save slot"), (311, "nothing has been saved in it")]
abbrev xN2 : List String := ["java/lang/RuntimeException", "java/lang/Exception"]
abbrev xIA : String := "java/lang/IllegalArgumentException"
abbrev xIS : String := "java/lang/IllegalStateException"
abbrev xIO : String := "java/lang/IndexOutOfBoundsException"
def xCast : List String := [xIA, xIS, xIO]
def xChain : List String := ["java/lang/RuntimeException", "java/lang/Exception", Bundle.tN]
def xBad (E : String) : List Cond := xChain.map (fun Y => Cond.declares (Bundle.initS Y)) ++ [.castable E E]
def XB (A : Nat → Prop) (sa : Nat → Nat) (U : State) (H : Heap) : Prop := vx_Zq Bundle.tN "UNASSIGNED_STACK" Bundle.steD A U H ∧ vx_Zq Bundle.tN "SUPPRESSED_SENTINEL" Bundle.listD A U H ∧ (∀ q ∈ xStrs, vk_R RX4 q.1 q.2 (sa q.1) U) ∧ (∀ E ∈ xCast, va_Nw (.castable E E) U) ∧ ∀ Y ∈ xChain, va_Nw (.declares (Bundle.initS Y)) U
theorem XB.warm {A : Nat → Prop} {sa : Nat → Nat} {s U : State} {H : Heap} (hW : s.WarmedH U.vm) (h : XB A sa s H) : XB A sa U H := ⟨vx_Zq.moved hW.alike h.1, vx_Zq.moved hW.alike h.2.1, fun q hq => (h.2.2.1 q hq).warm hW, fun E hE => va_Nw.warmC hW (h.2.2.2.1 E hE), fun Y hY => va_Nw.warmD hW (h.2.2.2.2 Y hY)⟩
theorem XB.kept {A : Nat → Prop} {sa : Nat → Nat} {U : State} {H H1 : Heap} (h : XB A sa U H) (hq : ∀ a : Nat, a < H.size → ¬ A a → H1[a]? = H[a]?) : XB A sa U H1 := ⟨h.1.kept hq, h.2.1.kept hq, h.2.2⟩
theorem XB.narrow {A B : Nat → Prop} {sa : Nat → Nat} {U : State} {H : Heap} (h : XB A sa U H) (hAB : ∀ q, B q → A q) : XB B sa U H := ⟨h.1.narrow hAB, h.2.1.narrow hAB, h.2.2⟩
theorem xw_IA : (vx_atS RX4 56 xIA xN2).filter (fun w => !goodWord w) = xBad xIA := by decide +kernel
theorem xw_IS : (vx_atS RX4 67 xIS xN2).filter (fun w => !goodWord w) = xBad xIS := by decide +kernel
theorem xw_IO : (vx_atS RX4 165 xIO xN2).filter (fun w => !goodWord w) = xBad xIO := by decide +kernel
theorem xg_IA : ∀ w ∈ Cond.classLink RX4 52 xIA :: Cond.initialized xIA :: vx_atS RX4 56 xIA xN2, vx_ot w = true := by decide +kernel
theorem xg_IS : ∀ w ∈ Cond.classLink RX4 63 xIS :: Cond.initialized xIS :: vx_atS RX4 67 xIS xN2, vx_ot w = true := by decide +kernel
theorem xg_IO : ∀ w ∈ Cond.classLink RX4 161 xIO :: Cond.initialized xIO :: vx_atS RX4 165 xIO xN2, vx_ot w = true := by decide +kernel
def PX (D : va_G) (cT : Nat → ClassId) (sa : Nat → Nat) (av : List Value) (w : va_W) (sz : Nat) : Array Value → State → Prop := va_Pc av (fun U => U.heap.size = sz ∧ va_P D vwCl w U.heap ∧ va_K D vwCl (TY cT) U ∧ va_D (fun _ => True) w ∧ XB (va_A w sz) sa U U.heap)
def BX {S : Type} (D : va_G) (w : va_W) (sz : Nat) (pX : String → S → Prop) (wx : S → va_W) : String → S → State → Prop := fun E u t => pX E u ∧ va_P D vwCl (wx u) t.heap ∧ va_D (va_A w sz) (wx u)
def MX {S SX : Type} (l : Launch) (D : va_G) (cT : Nat → ClassId) (sa : Nat → Nat) (y : MethodName) (wy : List Cond) (rm : Room) (av : List Value) (w : va_W) (post : Int32 → S → Prop) (w1 : S → va_W) (pX : String → SX → Prop) (wx : SX → va_W) (mc ms : Nat) : Prop :=
  ∀ sz, vx_Met l y wy rm (PX D cT sa av w sz) (va_Qi post (BW D w sz w1) (va_A w sz)) (vx_X (fun _ => True) (BX D w sz pX wx) (va_A w sz)) mc ms (va_A w sz)
theorem fb_X (D : va_G) (cT : Nat → ClassId) (sa : Nat → Nat) (av : List Value) (w : va_W) (sz : Nat) : FrameBlind (PX D cT sa av w sz) := fun a U g mk q => by
  obtain ⟨q0, q1, qP, qK, qD, q2, q3, q4, q5, q6⟩ := q
  refine ⟨q0, q1, qP, va_K.moved (u := U) (U := U.calling g mk a) (Vm.Alike.refl U.vm) qK, qD, vx_Zq.moved (u := U) (U := U.calling g mk a) (Vm.Alike.refl U.vm) q2, vx_Zq.moved (u := U) (U := U.calling g mk a) (Vm.Alike.refl U.vm) q3, fun q hq => vk_R.same (u := U) (U := U.calling g mk a) rfl (q4 q hq), fun E hE => va_tabs (A := #[]) rfl (rfl : (U.calling g mk a).vm = U.vm).symm (q5 E hE), fun Y hY => va_tabs (A := #[]) rfl (rfl : (U.calling g mk a).vm = U.vm).symm (q6 Y hY)⟩
/-- start -/
theorem m_X {S SX : Type} {l : Launch} {D : va_G} {cT : Nat → ClassId} {sa : Nat → Nat} {y : MethodName} {wy ws' : List Cond} {rm : Room} {cc : ByteArray} {maxL : Nat} {ret : Option FieldType} {av : List Value} {w : va_W} {post : Int32 → S → Prop} {w1 : S → va_W} {pX : String → SX → Prop} {wx : SX → va_W} {mc ms : Nat} (lv : List (Nat × Value)) (hy : plainName y.cls = true) (hw : wy = Cond.code y cc maxL ret :: ws') (hsz : (lg_sl av).length ≤ maxL) (hlv : lv_args 0 av = lv)
    (body : ∀ (p : Program) (e : Env) (s : State) (m : MethodId) (args : Array Value) (below : List Frame) (meth : Method) (c : Code) (A : Nat → Prop), A = va_A w s.heap.size → CX p s m args c cc maxL y.cls wy D cT (IW s D A) → (∀ q : Nat, s.heap.size ≤ q → A q) → meth.sig.returnType = ret → meth.locks = false → (∀ x ∈ c.exceptionTable.toList, False) → XB A sa s s.heap → RW p l e (headSpec wy rm).room s m args below meth c (IW s D A) maxL 0 0 (vx_MQ below (va_Qi post (fun u t => va_P D vwCl (w1 u) t.heap ∧ va_D A (w1 u)) A) (vx_X (fun _ => True) (fun E u t => pX E u ∧ va_P D vwCl (wx u) t.heap ∧ va_D A (wx u)) A) args s mc ms A) w 0 lv []) : MX l D cT sa y wy rm av w post w1 pX wx mc ms := by
  intro sz
  refine vx_ofW (cc := cc) (maxL := maxL) (ret := ret) hy hw ?_
  intro p e s m args below meth c s₁ B hml htab hv
  obtain ⟨rfl, hs, hP, hK, hD, hX⟩ := hv
  subst hs
  have hl := lv_entry av (n := maxL) hsz
  rw [hlv] at hl
  have h := body p e s m av.toArray below meth c _ rfl ⟨⟨B.exec, B.bytes, hml, findClass_of_methodNamed B.named, atoms_spec (ws := wy) B.pre⟩, hK, fun ws H locs h => h.1⟩ (fun q h => Or.inr h) B.returns B.notSynchronized htab hX
  rw [lg_entry_eq]
  exact h s.heap [] _ ⟨hP, hD.self, va_S.rf⟩ hl
section EndsX
variable {p : Program} {l : Launch} {e : Env} {R : Room} {s : State} {m : MethodId} {args : Array Value} {below : List Frame} {meth : Method} {c : Code} {Q : State → Prop} {I : va_W → Heap → List Loc → Prop} {cells slots nL pc mc ms n maxL index : Nat} {cc bytes : ByteArray} {own Cn : String} {Ts wy : List Cond} {D : va_G} {cT : Nat → ClassId} {A : Nat → Prop} {ws wc wr ws2 X Z : va_W} {lv : List (Nat × Value)} {st st0 : List Value} {S SX : Type} {y : MethodName} {ret : Option FieldType} {rm : Room} {b : Nat} {As : List Value} {sa : Nat → Nat}
theorem e_iX {v : Int32} {post : Int32 → S → Prop} {w1 : S → va_W} {XC : String → State → State → Prop} (C : CX p s m args c cc nL own Ts D cT (IW s D A)) (hr : meth.sig.returnType = some .int) (hk : meth.locks = false) (hc : cells ≤ mc) (hs : slots ≤ ms) (u : S) (hw : ws = w1 u) (hp : post v u) (hd : decode cc pc = .ok (.ireturn, 1)) : RW p l e R s m args below meth c (IW s D A) nL cells slots (vx_MQ below (va_Qi post (fun u t => va_P D vwCl (w1 u) t.heap ∧ va_D A (w1 u)) A) XC args s mc ms A) ws pc lv [.int v] := fun H locs ls hI hl => by
  subst hw
  exact vx_ret (W.widen hc hs (W.iret C.1.1 C.1.2.1 hr (fun t ht _ => ⟨⟨v, u, rfl, hp, by rw [ht]; exact hI.1, hI.2.1⟩, hI.2.2.F ht⟩) hI.2.2.2.2 hd hk))
/-- the world as it stands, when one throws -/
theorem x_world {pX : String → SX → Prop} {wx : SX → va_W} {H : Heap} {locs : List Loc} (hI : IW s D A ws H locs) (hA : ∀ q : Nat, s.heap.size ≤ q → A q) (E : String) (u : SX) (hw : ws = wx u) (hp : pX E u) : ∀ t : State, s.vm.Alike t.vm → H.size ≤ t.heap.size → (∀ q : Nat, q < H.size → t.heap[q]? = H[q]?) → vx_X (fun _ => True) (fun E u t => pX E u ∧ va_P D vwCl (wx u) t.heap ∧ va_D A (wx u)) A E s t := by
  subst hw
  intro t _ hz hq
  refine ⟨u, trivial, ⟨hp, hI.1.kept (fun k q hk => hq _ (hI.1 k q hk).lt), hI.2.1⟩, Nat.le_trans hI.2.2.1 hz, fun q h1 h2 => ?_⟩
  rw [hq q (Nat.lt_of_lt_of_le h1 hI.2.2.1)]
  exact hI.2.2.2.1 q h1 h2

theorem e_throw {Qc : Array Value → State → Outcome → State → Prop} {pX : String → SX → Prop} {wx : SX → va_W} {cls text : String} {ik is ic : Nat} (C : CX p s m args c cc nL own Ts D cT (IW s D A)) (hown : own = RX4) (hA : ∀ q : Nat, s.heap.size ≤ q → A q) (hlt : l.stackTraces = false) (hX : XB A sa s s.heap) (htab : ∀ x ∈ c.exceptionTable.toList, False) (hk : meth.locks = false)
    (hfit : Bundle.fit cls = true) (hcl : Cond.classLink RX4 ik cls ∈ Ts) (hini : Cond.initialized cls ∈ Ts) (hstr : (is, text) ∈ xStrs) (hcs : cls ∈ xCast) (hat : ∀ w ∈ (vx_atS RX4 ic cls xN2).filter goodWord, w ∈ Ts) (hng : (vx_atS RX4 ic cls xN2).filter (fun w => !goodWord w) = xBad cls) (hgood : ∀ w ∈ Cond.classLink RX4 ik cls :: Cond.initialized cls :: vx_atS RX4 ic cls xN2, vx_ot w = true)
    (hfr : 5 < R.frames) (hlo : (st.map fun v => v.category).sum + 82 ≤ R.locals) (hRc : cells + 1 ≤ R.cells) (hRs : slots + 6 ≤ R.slots) (hmc : cells + 1 ≤ mc) (hms : slots + 6 ≤ ms) (u : SX) (hw : ws = wx u) (hp : pX cls u)
    (d0 : decode cc pc = .ok (.new ik, 3)) (d3 : decode cc (pc + 3) = .ok (.dup, 1)) (d4 : decode cc (pc + 4) = .ok (.ldc is, 2)) (d6 : decode cc (pc + 6) = .ok (.invokespecial ic, 3)) (d9 : decode cc (pc + 9) = .ok (.athrow, 1)) :
    RW p l e R s m args below meth c (IW s D A) nL cells slots (vx_MQ below Qc (vx_X (fun _ => True) (fun E u t => pX E u ∧ va_P D vwCl (wx u) t.heap ∧ va_D A (wx u)) A) args s mc ms A) ws pc lv st := fun H locs ls hI hl => by
  subst hown
  refine vx_throwS (names := xN2) (A := A) (sa := sa is) (text := text) C.1.1 C.1.2.1 hlt C.1.2.2.2.1 hfit (by decide +kernel) (C.1.2.2.2.2 _ hcl) (C.1.2.2.2.2 _ hini) (hX.2.2.1 (is, text) hstr) (vx_hat (B := xBad cls) (fun w hw => C.1.2.2.2.2 _ (hat w hw)) (fun w hw => by rw [hng] at hw; exact hw) (fun w hw => ?_)) hgood hX.1 hX.2.1 hI.2.2 (hl.1.trans C.1.2.2.1.symm) d0 d3 d4 d6 d9 (fun x hx => (htab x hx).elim) hfr hlo hRc hRs hk (x_world hI hA cls u hw hp) hI.2.2.2.2 hmc hms
  rcases List.mem_append.mp hw with hw | hw
  · obtain ⟨Y, hY, rfl⟩ := List.mem_map.mp hw
    exact va_tabs (A := #[]) rfl rfl (hX.2.2.2.2 Y hY)
  · rw [List.mem_singleton] at hw
    rw [hw]
    exact va_tabs (A := #[]) rfl rfl (hX.2.2.2.1 cls hcs)
theorem e_throwW {Qc : Array Value → State → Outcome → State → Prop} {pX : String → SX → Prop} {wx : SX → va_W} {cls text : String} {ik is ic : Nat} (C : CX p s m args c cc nL own Ts D cT (IW s D A)) (hown : own = RX4) (hA : ∀ q : Nat, s.heap.size ≤ q → A q) (hlt : l.stackTraces = false) (hX : XB A sa s s.heap) (htab : ∀ x ∈ c.exceptionTable.toList, False) (hk : meth.locks = false)
    (hfit : Bundle.fit cls = true) (hcl : Cond.classLink RX4 ik cls ∈ Ts) (hini : Cond.initialized cls ∈ Ts) (hstr : (is, text) ∈ xStrs) (hcs : cls ∈ xCast) (hat : ∀ w ∈ (vx_atS RX4 ic cls xN2).filter goodWord, w ∈ Ts) (hng : (vx_atS RX4 ic cls xN2).filter (fun w => !goodWord w) = xBad cls) (hgood : ∀ w ∈ Cond.classLink RX4 ik cls :: Cond.initialized cls :: vx_atS RX4 ic cls xN2, vx_ot w = true)
    (hfr : 5 < R.frames) (hlo : (st.map fun v => v.category).sum + 82 ≤ R.locals) (hRc : cells + 1 ≤ R.cells) (hRs : slots + 6 ≤ R.slots) (hmc : cells + 1 ≤ mc) (hms : slots + 6 ≤ ms) (u : SX) (hw : ws = wx u) (hp : pX cls u)
    (d0 : decode cc pc = .ok (.new ik, 3)) (d3 : decode cc (pc + 3) = .ok (.dup, 1)) (d4 : decode cc (pc + 4) = .ok (.ldc_w is, 3)) (d6 : decode cc (pc + 7) = .ok (.invokespecial ic, 3)) (d9 : decode cc (pc + 10) = .ok (.athrow, 1)) :
    RW p l e R s m args below meth c (IW s D A) nL cells slots (vx_MQ below Qc (vx_X (fun _ => True) (fun E u t => pX E u ∧ va_P D vwCl (wx u) t.heap ∧ va_D A (wx u)) A) args s mc ms A) ws pc lv st := fun H locs ls hI hl => by
  subst hown
  refine vx_throwSW (names := xN2) (A := A) (sa := sa is) (text := text) C.1.1 C.1.2.1 hlt C.1.2.2.2.1 hfit (by decide +kernel) (C.1.2.2.2.2 _ hcl) (C.1.2.2.2.2 _ hini) (hX.2.2.1 (is, text) hstr) (vx_hat (B := xBad cls) (fun w hw => C.1.2.2.2.2 _ (hat w hw)) (fun w hw => by rw [hng] at hw; exact hw) (fun w hw => ?_)) hgood hX.1 hX.2.1 hI.2.2 (hl.1.trans C.1.2.2.1.symm) d0 d3 d4 d6 d9 (fun x hx => (htab x hx).elim) hfr hlo hRc hRs hk (x_world hI hA cls u hw hp) hI.2.2.2.2 hmc hms
  rcases List.mem_append.mp hw with hw | hw
  · obtain ⟨Y, hY, rfl⟩ := List.mem_map.mp hw
    exact va_tabs (A := #[]) rfl rfl (hX.2.2.2.2 Y hY)
  · rw [List.mem_singleton] at hw
    rw [hw]
    exact va_tabs (A := #[]) rfl rfl (hX.2.2.2.1 cls hcs)
/-- another order of the world -/
theorem va_P_perm {H : Heap} (h : List.Perm ws ws2) (hP : va_P D vwCl ws H) : va_P D vwCl ws2 H := by
  intro k q hk
  have hm : q ∈ ws := h.mem_iff.mpr (List.mem_of_getElem? hk)
  obtain ⟨i, hi⟩ := List.getElem?_of_mem hm
  exact hP i q hi
theorem va_D_iff : va_D A ws ↔ (ws.map (·.1)).Nodup ∧ ∀ q ∈ ws, A q.1 := by
  constructor
  · rintro ⟨h1, h2⟩
    refine ⟨?_, fun q hq => ?_⟩
    · rw [List.Nodup, List.pairwise_iff_getElem]
      intro i j hi hj hij he
      rw [List.length_map] at hi hj
      rw [List.getElem_map, List.getElem_map] at he
      have := h1 i j _ _ (List.getElem?_eq_getElem hi) (List.getElem?_eq_getElem hj) he
      omega
    · obtain ⟨i, hi⟩ := List.getElem?_of_mem hq
      exact h2 i q hi
  · rintro ⟨h1, h2⟩
    refine ⟨fun i j p q hp hq he => ?_, fun k q hk => h2 q (List.mem_of_getElem? hk)⟩
    rw [List.Nodup, List.pairwise_iff_getElem] at h1
    obtain ⟨hi, ei⟩ := List.getElem?_eq_some_iff.mp hp
    obtain ⟨hj, ej⟩ := List.getElem?_eq_some_iff.mp hq
    rcases Nat.lt_trichotomy i j with g | g | g
    · exact (h1 i j (by rw [List.length_map]; exact hi) (by rw [List.length_map]; exact hj) g (by rw [List.getElem_map, List.getElem_map, ei, ej]; exact he)).elim
    · exact g
    · exact (h1 j i (by rw [List.length_map]; exact hj) (by rw [List.length_map]; exact hi) g (by rw [List.getElem_map, List.getElem_map, ei, ej]; exact he.symm)).elim
theorem va_D_perm (h : List.Perm ws ws2) (hD : va_D A ws) : va_D A ws2 := by
  rw [va_D_iff] at hD ⊢
  exact ⟨(h.map _).nodup_iff.mp hD.1, fun q hq => hD.2 q (h.mem_iff.mpr hq)⟩
theorem r_perm (h : List.Perm ws ws2) (k : RW p l e R s m args below meth c (IW s D A) nL cells slots Q ws2 pc lv st) : RW p l e R s m args below meth c (IW s D A) nL cells slots Q ws pc lv st := fun H locs ls hI hl => k H locs ls ⟨va_P_perm h hI.1, va_D_perm h hI.2.1, hI.2.2⟩ hl
/-- places of a front part -/
theorem map_front {is : List Nat} {X Z cx : va_W} (h : is.map (fun i => X[i]?) = cx.map some) : is.map (fun i => (X ++ Z)[i]?) = cx.map some := by
  rw [← h]
  apply List.map_congr_left
  intro i hi
  have hm : X[i]? ∈ cx.map some := by rw [← h]; exact List.mem_map.mpr ⟨i, hi, rfl⟩
  obtain ⟨q, -, hq⟩ := List.mem_map.mp hm
  have hlt : i < X.length := (List.getElem?_eq_some_iff.mp hq.symm).1
  exact List.getElem?_append_left hlt
/-- behind a call that wrote, with a part behind that nobody touched -/
theorem post_Q {w1 ws2 : S → va_W} {u : S} {H H1 : Heap} {locs locs1 : List Loc} {t : State} (hA : ∀ q : Nat, s.heap.size ≤ q → A q) (hI : IW s D A (X ++ Z) H locs) (isC isR : List Nat) (hC : isC.map (fun i => X[i]?) = wc.map some) (hR : isR.map (fun i => X[i]?) = wr.map some) (hnd : va_nd isR = true) (hdis : ∀ i ∈ isR, i ∉ isC) (perm : List Nat) (hperm : ∀ u, perm.map (fun i => (wr ++ w1 u)[i]?) = (ws2 u).map some) (hnp : va_nd perm = true)
    (ht : t.heap = H1) (hB : BW D wc H.size w1 u t) (hk1 : ∀ q : Nat, q < H.size → ¬ va_A wc H.size q → H1[q]? = H[q]?) (hS : va_S A s.heap H1 locs1) : IW s D A (ws2 u ++ Z) H1 locs1 := by
  obtain ⟨hP1, hD1⟩ := hB
  rw [ht] at hP1
  obtain ⟨hP, hD⟩ := va_joinQ hI.1 hI.2.1 isC isR hC hR hnd hdis hk1 (va_free hI.2.1 hI.2.2 hA isC (map_front hC)) hP1 hD1
  exact ⟨hP.part perm (hperm u), hD.part perm hnp (hperm u), hS⟩
theorem c_QVi {ci qr : Nat} {fs : List Value} {rc : u_T × Nat} {post : Int32 → S → Prop} {w1 : S → va_W} (C : CX p s m args c cc nL own Ts D cT (IW s D A)) (hA : ∀ q : Nat, s.heap.size ≤ q → A q) (hM : MWi l D cT y wy rm (.ref b :: As) wc post w1 mc ms) (cw : CallW R s args own Cn index y bytes maxL ret wy rm mc ms n) (hr : (X ++ Z)[qr]? = some (b, .inr (ci, fs))) (hc : vwCl[ci]? = some (Cn, rc)) (isC isR : List Nat) (hC : isC.map (fun i => X[i]?) = wc.map some) (hR : isR.map (fun i => X[i]?) = wr.map some) (hnd : va_nd isC = true ∧ va_nd isR = true) (hdis : ∀ i ∈ isR, i ∉ isC) (perm : List Nat) (ws2 : S → va_W) (hperm : ∀ u, perm.map (fun i => (wr ++ w1 u)[i]?) = (ws2 u).map some) (hnp : va_nd perm = true) (hn : As.length = n) (hst : st0 = As.reverse ++ .ref b :: st) (hW : (st.map fun v => v.category).sum ≤ 8) (hcap : cells + mc ≤ R.cells ∧ slots + ms ≤ R.slots) (hd : decode cc pc = .ok (.invokevirtual index, 3)) (k : ∀ (r : Int32) (u : S), post r u → RW p l e R s m args below meth c (IW s D A) nL (cells + mc) (slots + ms) Q (ws2 u ++ Z) (pc + 3) lv (.int r :: st)) : RW p l e R s m args below meth c (IW s D A) nL cells slots Q (X ++ Z) pc lv st0 := fun H locs ls hI hl =>
  va_calli (va_runV C.1 (hM H.size) cw ⟨fb_W D cT _ wc H.size, va_recv C.2.1 hI.1 hc hr, pre_W C.2.1 hI isC (map_front hC) hnd.1⟩ rfl hn hl.1 hst (lv_room hW) hd hcap) hI.2.2 (fun q _ h => va_free hI.2.1 hI.2.2 hA isC (map_front hC) q h) (va_free hI.2.1 hI.2.2 hA isC (map_front hC)) (fun r u t H1 locs ht hvm hw hB hz1 hk1 hS => k r u hw H1 locs ls (post_Q hA hI isC isR hC hR hnd.2 hdis perm hperm hnp ht hB hk1 hS) hl)
theorem c_QVv {ci qr : Nat} {fs : List Value} {rc : u_T × Nat} {post : S → Prop} {w1 : S → va_W} (C : CX p s m args c cc nL own Ts D cT (IW s D A)) (hA : ∀ q : Nat, s.heap.size ≤ q → A q) (hM : MWv l D cT y wy rm (.ref b :: As) wc post w1 mc ms) (cw : CallW R s args own Cn index y bytes maxL ret wy rm mc ms n) (hr : (X ++ Z)[qr]? = some (b, .inr (ci, fs))) (hc : vwCl[ci]? = some (Cn, rc)) (isC isR : List Nat) (hC : isC.map (fun i => X[i]?) = wc.map some) (hR : isR.map (fun i => X[i]?) = wr.map some) (hnd : va_nd isC = true ∧ va_nd isR = true) (hdis : ∀ i ∈ isR, i ∉ isC) (perm : List Nat) (ws2 : S → va_W) (hperm : ∀ u, perm.map (fun i => (wr ++ w1 u)[i]?) = (ws2 u).map some) (hnp : va_nd perm = true) (hn : As.length = n) (hst : st0 = As.reverse ++ .ref b :: st) (hW : (st.map fun v => v.category).sum ≤ 8) (hcap : cells + mc ≤ R.cells ∧ slots + ms ≤ R.slots) (hd : decode cc pc = .ok (.invokevirtual index, 3)) (k : ∀ (u : S), post u → RW p l e R s m args below meth c (IW s D A) nL (cells + mc) (slots + ms) Q (ws2 u ++ Z) (pc + 3) lv st) : RW p l e R s m args below meth c (IW s D A) nL cells slots Q (X ++ Z) pc lv st0 := fun H locs ls hI hl =>
  va_callv (va_runV C.1 (hM H.size) cw ⟨fb_W D cT _ wc H.size, va_recv C.2.1 hI.1 hc hr, pre_W C.2.1 hI isC (map_front hC) hnd.1⟩ rfl hn hl.1 hst (lv_room hW) hd hcap) hI.2.2 (fun q _ h => va_free hI.2.1 hI.2.2 hA isC (map_front hC) q h) (va_free hI.2.1 hI.2.2 hA isC (map_front hC)) (fun u t H1 locs ht hvm hw hB hz1 hk1 hS => k u hw H1 locs ls (post_Q hA hI isC isR hC hR hnd.2 hdis perm hperm hnp ht hB hk1 hS) hl)
theorem c_QSi {post : Int32 → S → Prop} {w1 : S → va_W} (C : CX p s m args c cc nL own Ts D cT (IW s D A)) (hA : ∀ q : Nat, s.heap.size ≤ q → A q) (hM : MWi l D cT y wy rm As wc post w1 mc ms) (cw : CallB R s args own index y bytes maxL ret wy rm mc ms n ∧ (Cond.static y).before args s = true) (isC isR : List Nat) (hC : isC.map (fun i => X[i]?) = wc.map some) (hR : isR.map (fun i => X[i]?) = wr.map some) (hnd : va_nd isC = true ∧ va_nd isR = true) (hdis : ∀ i ∈ isR, i ∉ isC) (perm : List Nat) (ws2 : S → va_W) (hperm : ∀ u, perm.map (fun i => (wr ++ w1 u)[i]?) = (ws2 u).map some) (hnp : va_nd perm = true) (hn : As.length = n) (hst : st0 = As.reverse ++ st) (hW : (st.map fun v => v.category).sum ≤ 8) (hcap : cells + mc ≤ R.cells ∧ slots + ms ≤ R.slots) (hd : decode cc pc = .ok (.invokestatic index, 3)) (k : ∀ (r : Int32) (u : S), post r u → RW p l e R s m args below meth c (IW s D A) nL (cells + mc) (slots + ms) Q (ws2 u ++ Z) (pc + 3) lv (.int r :: st)) : RW p l e R s m args below meth c (IW s D A) nL cells slots Q (X ++ Z) pc lv st0 := fun H locs ls hI hl =>
  va_calli (va_runS C.1 (hM H.size) cw ⟨fb_W D cT _ wc H.size, pre_W C.2.1 hI isC (map_front hC) hnd.1⟩ rfl hn hl.1 hst (lv_room hW) hd hcap) hI.2.2 (fun q _ h => va_free hI.2.1 hI.2.2 hA isC (map_front hC) q h) (va_free hI.2.1 hI.2.2 hA isC (map_front hC)) (fun r u t H1 locs ht hvm hw hB hz1 hk1 hS => k r u hw H1 locs ls (post_Q hA hI isC isR hC hR hnd.2 hdis perm hperm hnp ht hB hk1 hS) hl)
theorem c_QIv {post : S → Prop} {w1 : S → va_W} (C : CX p s m args c cc nL own Ts D cT (IW s D A)) (hA : ∀ q : Nat, s.heap.size ≤ q → A q) (hM : MWv l D cT y wy rm (.ref b :: As) wc post w1 mc ms) (cw : CallB R s args own index y bytes maxL none wy rm mc ms n ∧ y.name = "<init>" ∧ (Cond.instanceMethod y).before args s = true) (isC isR : List Nat) (hC : isC.map (fun i => X[i]?) = wc.map some) (hR : isR.map (fun i => X[i]?) = wr.map some) (hnd : va_nd isC = true ∧ va_nd isR = true) (hdis : ∀ i ∈ isR, i ∉ isC) (perm : List Nat) (ws2 : S → va_W) (hperm : ∀ u, perm.map (fun i => (wr ++ w1 u)[i]?) = (ws2 u).map some) (hnp : va_nd perm = true) (hn : As.length = n) (hst : st0 = As.reverse ++ .ref b :: st) (hW : (st.map fun v => v.category).sum ≤ 8) (hcap : cells + mc ≤ R.cells ∧ slots + ms ≤ R.slots) (hd : decode cc pc = .ok (.invokespecial index, 3)) (k : ∀ (u : S), post u → RW p l e R s m args below meth c (IW s D A) nL (cells + mc) (slots + ms) Q (ws2 u ++ Z) (pc + 3) lv st) : RW p l e R s m args below meth c (IW s D A) nL cells slots Q (X ++ Z) pc lv st0 := fun H locs ls hI hl =>
  va_callv (va_runI C.1 (hM H.size) cw ⟨fb_W D cT _ wc H.size, pre_W C.2.1 hI isC (map_front hC) hnd.1⟩ rfl hn hl.1 hst (lv_room hW) hd hcap) hI.2.2 (fun q _ h => va_free hI.2.1 hI.2.2 hA isC (map_front hC) q h) (va_free hI.2.1 hI.2.2 hA isC (map_front hC)) (fun u t H1 locs ht hvm hw hB hz1 hk1 hS => k u hw H1 locs ls (post_Q hA hI isC isR hC hR hnd.2 hdis perm hperm hnp ht hB hk1 hS) hl)
end EndsX
