/-! constructors: new arrays, new objects -/
theorem va_RA_inj {U : State} {cA cB : ClassId} {ty : FieldType} (h : va_RA U cA ty) (g : va_RA U cB ty) : cA = cB := by
  cases ty with
  | object C =>
    obtain ⟨_, _, _, _, _, h⟩ := h
    obtain ⟨_, _, _, _, _, g⟩ := g
    exact Option.some.inj (h.symm.trans g)
  | _ => exact Option.some.inj (Eq.trans (Eq.symm h) g)
/-- the words of nest mates' constructors, and that rows of states can be made -/
def ZN (U : State) : Prop := va_AO RX3 U ∧ va_Nw (.methodLinkNest RX0 17 yX3_init RX4) U ∧ va_Nw (.methodLinkNest RX4 9 yX3_init RX4) U ∧ va_Nw (.methodLinkNest RX4 36 yX1_init RX4) U ∧ va_Nw (.methodLinkNest RX4 43 yX2_init RX4) U
theorem ZN.warm {s U : State} (hW : s.WarmedH U.vm) (h : ZN s) : ZN U := ⟨va_AO.moved hW.alike h.1, va_Nw.warmM hW h.2.1, va_Nw.warmM hW h.2.2.1, va_Nw.warmM hW h.2.2.2.1, va_Nw.warmM hW h.2.2.2.2⟩
def PWz (D : va_G) (cT : Nat → ClassId) (av : List Value) (w : va_W) (sz : Nat) : Array Value → State → Prop := va_Pc av (fun U => U.heap.size = sz ∧ va_P D vwCl w U.heap ∧ va_K D vwCl (TY cT) U ∧ va_D (fun _ => True) w ∧ ZN U)
def MWvz {S : Type} (l : Launch) (D : va_G) (cT : Nat → ClassId) (y : MethodName) (wy : List Cond) (rm : Room) (av : List Value) (w : va_W) (post : S → Prop) (w1 : S → va_W) (mc ms : Nat) : Prop :=
  ∀ sz, Met l y wy rm (PWz D cT av w sz) (va_Qv post (BW D w sz w1) (va_A w sz)) mc ms (va_A w sz)
theorem fb_Wz (D : va_G) (cT : Nat → ClassId) (av : List Value) (w : va_W) (sz : Nat) : FrameBlind (PWz D cT av w sz) := fun a U g mk q => by
  obtain ⟨q0, q1, qP, qK, qD, qZ⟩ := q
  exact ⟨q0, q1, qP, va_K.moved (u := U) (U := U.calling g mk a) (Vm.Alike.refl U.vm) qK, qD, va_AO.moved (u := U) (U := U.calling g mk a) (Vm.Alike.refl U.vm) qZ.1, va_Nw.same rfl rfl qZ.2.1, va_Nw.same rfl rfl qZ.2.2.1, va_Nw.same rfl rfl qZ.2.2.2.1, va_Nw.same rfl rfl qZ.2.2.2.2⟩
theorem m_Wvz {S : Type} {l : Launch} {D : va_G} {cT : Nat → ClassId} {y : MethodName} {wy ws' : List Cond} {rm : Room} {cc : ByteArray} {maxL : Nat} {ret : Option FieldType} {av : List Value} {w : va_W} {post : S → Prop} {w1 : S → va_W} {mc ms : Nat} (lv : List (Nat × Value)) (hy : plainName y.cls = true) (hw : wy = Cond.code y cc maxL ret :: ws') (hsz : (lg_sl av).length ≤ maxL) (hlv : lv_args 0 av = lv)
    (body : ∀ (p : Program) (e : Env) (s : State) (m : MethodId) (args : Array Value) (below : List Frame) (meth : Method) (c : Code) (A : Nat → Prop), A = va_A w s.heap.size → CX p s m args c cc maxL y.cls wy D cT (IW s D A) → (∀ q : Nat, s.heap.size ≤ q → A q) → meth.sig.returnType = ret → meth.locks = false → meth.name = y.name → ZN s → RW p l e (headSpec wy rm).room s m args below meth c (IW s D A) maxL 0 0 (MQ below (va_Qv post (fun u t => va_P D vwCl (w1 u) t.heap ∧ va_D A (w1 u)) A) args s mc ms A) w 0 lv []) : MWvz l D cT y wy rm av w post w1 mc ms := by
  intro sz
  refine Met.ofW (cc := cc) (maxL := maxL) (ret := ret) hy hw ?_
  intro p e s m args below meth c s₁ B hml hv
  obtain ⟨rfl, hs, hP, hK, hD, hZ⟩ := hv
  subst hs
  have hl := lv_entry av (n := maxL) hsz
  rw [hlv] at hl
  have h := body p e s m av.toArray below meth c _ rfl ⟨⟨B.exec, B.bytes, hml, findClass_of_methodNamed B.named, atoms_spec (ws := wy) B.pre⟩, hK, fun ws H locs h => h.1⟩ (fun q h => Or.inr h) B.returns B.notSynchronized (name_of_methodNamed B.named B.method).1 hZ
  rw [lg_entry_eq]
  exact h s.heap [] _ ⟨hP, hD.self, va_S.rf⟩ hl
theorem cwN {R : Room} {s : State} {args : Array Value} {own host : String} {index maxL mc ms : Nat} {y : MethodName} {bytes : ByteArray} {Ts ws ws' : List Cond} {rm : Room} (n : Nat) (ht : ∀ w ∈ Ts, w.before args s = true) (hG : GoodIn Ts ws) (hw : ws = Cond.code y bytes maxL none :: ws') (hrc : rm.cells = mc) (hrs : rm.slots = ms) (hl : va_Nw (.methodLinkNest own index y host) s) (hini : (Cond.initialized y.cls).before args s = true) (hin : (Cond.instanceMethod y).before args s = true) (hy1 : y.name = "<init>")
    (hd : y.cls ≠ "java/lang/invoke/MethodHandle" ∧ y.cls ≠ "java/lang/invoke/VarHandle" ∧ (parseMethodDescriptor y.desc).map (fun d => d.parameters.length) = some n) (hR : rm.frames + 1 ≤ R.frames ∧ 8 + (maxL + 11) + rm.locals ≤ R.locals) : va_CN R s args own index y host bytes maxL none ws rm mc ms n ∧ y.name = "<init>" ∧ (Cond.instanceMethod y).before args s = true :=
  ⟨va_cnB n ht hG hw hrc hrs hl hini hd hR, hy1, hin⟩
theorem perm_ins {X Y Z : va_W} : (Y ++ (X ++ Z)).Perm ((X ++ Y) ++ Z) := by
  rw [← List.append_assoc]
  exact List.Perm.append_right Z List.perm_append_comm
theorem perm_ins2 {X Y Z : va_W} : ((X ++ Z) ++ Y).Perm ((X ++ Y) ++ Z) := List.perm_append_comm.trans perm_ins
section RowsN
variable {p : Program} {l : Launch} {e : Env} {R : Room} {s : State} {m : MethodId} {args : Array Value} {below : List Frame} {meth : Method} {c : Code} {Q : State → Prop} {cells slots nL pc mc ms n maxL : Nat} {cc bytes : ByteArray} {own Cn : String} {Ts wy : List Cond} {D : va_G} {cT : Nat → ClassId} {A : Nat → Prop} {ws ws2 : va_W} {lv : List (Nat × Value)} {st : List Value} {S : Type} {y : MethodName} {rm : Room} {I : va_W → Heap → List Loc → Prop}
theorem r_oin (C : CX p s m args c cc nL own Ts D cT I) {idx a : Nat} (h1 : Cond.methodLink own idx Lib.objectInit ∈ Ts) (h2 : Cond.instanceMethod Lib.objectInit ∈ Ts) (h3 : Cond.code Lib.objectInit ⟨#[0xb1]⟩ 1 none ∈ Ts) (hf : 1 ≤ R.frames) (hlo : (st.map fun v => v.category).sum + 12 ≤ R.locals) (hd : decode cc pc = .ok (.invokespecial idx, 3)) (k : RW p l e R s m args below meth c I nL cells slots Q ws (pc + 3) lv st) : RW p l e R s m args below meth c I nL cells slots Q ws pc lv (.ref a :: st) := fun H locs ls hI hl =>
  W.objInit C.1.1 C.1.2.1 C.1.2.2.2.1 (C.1.2.2.2.2 _ h1) (C.1.2.2.2.2 _ h2) (C.1.2.2.2.2 _ h3) rfl (by rw [C.1.2.2.1]; exact hl.1) rfl hd hf (by show 2 * 0 + (st.map fun v => v.category).sum + 12 ≤ R.locals; omega) (k H locs ls hI hl)
theorem r_newN (C : CX p s m args c cc nL own Ts D cT (IW s D A)) (hA : ∀ q : Nat, s.heap.size ≤ q → A q) {atype : ArrayType} {ty : FieldType} {t0 : Nat} {cX : ClassId} (ht : (TY cT)[t0]? = some (cX, ty)) (hty : newarray.typeOf atype = ty) (hdef : defaultValue ty = .int (nI 0)) (harr : Cond.arrayClass ty ∈ Ts) (hn : n < 2147483648) (hby : n * componentBytes ty ≤ 536870912) (hc : cells + 1 ≤ R.cells) (hs : slots + n ≤ R.slots) (hd : decode cc pc = .ok (.newarray atype, 2))
    (k : ∀ q : Nat, RW p l e R s m args below meth c (IW s D A) nL (cells + 1) (slots + n) Q (ws ++ [(q, aN cX n (fun _ => 0))]) (pc + 2) lv (.ref q :: st)) : RW p l e R s m args below meth c (IW s D A) nL cells slots Q ws pc lv (.int (nI n) :: st) := fun H locs ls hI hl => by
  subst hty
  exact va_newa (a0 := (n, .inl (fun _ => nI 0))) C.1.1 C.1.2.1 (C.1.2.2.2.2 _ harr) rfl C.2.1 hI.1 hI.2.1 hI.2.2 hA (fun cA => by rw [hdef]; rfl) (nI_pos hn) (nI_clamp hn) hby hc hs hd (fun q cA H1 hK hP hD hS => by
    have e : cA = cX := va_RA_inj (hK.2 5 _ rfl).2 (C.2.1.2 t0 _ ht).2
    subst e
    exact k q H1 locs ls ⟨hP, hD, hS⟩ hl)
theorem r_newL (C : CX p s m args c cc nL own Ts D cT (IW s D A)) (hA : ∀ q : Nat, s.heap.size ≤ q → A q) (harr : Cond.arrayClass .long ∈ Ts) (hn : n < 2147483648) (hby : n * 8 ≤ 536870912) (hc : cells + 1 ≤ R.cells) (hs : slots + n ≤ R.slots) (hd : decode cc pc = .ok (.newarray .long, 2))
    (k : ∀ q : Nat, RW p l e R s m args below meth c (IW s D A) nL (cells + 1) (slots + n) Q (ws ++ [(q, aL (cT 4) n (fun _ => 0))]) (pc + 2) lv (.ref q :: st)) : RW p l e R s m args below meth c (IW s D A) nL cells slots Q ws pc lv (.int (nI n) :: st) := fun H locs ls hI hl => by
  exact va_newa (atype := .long) (ty := .long) (a0 := (n, .inr (.inl (fun _ => 0)))) C.1.1 C.1.2.1 (C.1.2.2.2.2 _ harr) rfl C.2.1 hI.1 hI.2.1 hI.2.2 hA (fun cA => rfl) (nI_pos hn) (nI_clamp hn) hby hc hs hd (fun q cA H1 hK hP hD hS => by
    have e : cA = cT 4 := va_RA_inj (hK.2 5 _ rfl).2 (C.2.1.2 4 _ rfl).2
    subst e
    exact k q H1 locs ls ⟨hP, hD, hS⟩ hl)
theorem r_newQ (C : CX p s m args c cc nL own Ts D cT (IW s D A)) (hA : ∀ q : Nat, s.heap.size ≤ q → A q) {idx : Nat} (hcl : Cond.classLink own idx RX3 ∈ Ts) (hover : va_AO RX3 s) (hn : n < 2147483648) (hby : n * 4 ≤ 536870912) (hc : cells + 1 ≤ R.cells) (hs : slots + n ≤ R.slots) (hd : decode cc pc = .ok (.anewarray idx, 3))
    (k : ∀ q : Nat, RW p l e R s m args below meth c (IW s D A) nL (cells + 1) (slots + n) Q (ws ++ [(q, aR (cT 3) n (fun _ => none))]) (pc + 3) lv (.ref q :: st)) : RW p l e R s m args below meth c (IW s D A) nL cells slots Q ws pc lv (.int (nI n) :: st) := fun H locs ls hI hl => by
  exact va_newq C.1.1 C.1.2.1 C.1.2.2.2.1 (C.1.2.2.2.2 _ hcl) hover C.2.1 hI.1 hI.2.1 hI.2.2 hA (nI_pos hn) (nI_clamp hn) hby hc hs hd (fun q cA H1 hK hP hD hS => by
    have e : cA = cT 3 := va_RA_inj (hK.2 5 _ rfl).2 (C.2.1.2 3 _ rfl).2
    subst e
    exact k q H1 locs ls ⟨hP, hD, hS⟩ hl)
/-- an object made by a nest mate's constructor -/
theorem c_mkN {ci i1 i2 N : Nat} {host : String} {T : u_T} {ty0 : Nat → FieldType} {fs : List Value} {post : S → Prop} {w1 : Nat → S → va_W} (C : CX p s m args c cc nL own Ts D cT (IW s D A)) (hA : ∀ q : Nat, s.heap.size ≤ q → A q) (hin : ∀ w ∈ u_ws Cn T N, w ∈ Ts) (hty : ∀ k, k < N → parseFieldDescriptor (T k).2.2.1 = some (ty0 k)) (hcl : Cond.classLink own i1 Cn ∈ Ts) (hinst : Cond.instantiable Cn N ∈ Ts) (hini : Cond.initialized Cn ∈ Ts) (hc : vwCl[ci]? = some (Cn, T, N)) (hfs : ∀ j, j < N → defaultValue (ty0 j) = vp_V fs j)
    (hM : ∀ q, MWv l D cT y wy rm [.ref q] [(q, .inr (ci, fs))] post (w1 q) mc ms) (cw : va_CN R s args own i2 y host bytes maxL none wy rm mc ms 0 ∧ y.name = "<init>" ∧ (Cond.instanceMethod y).before args s = true) (ws2 : Nat → S → va_W) (hp2 : ∀ q u, (w1 q u ++ ws).Perm (ws2 q u)) (hW : (st.map fun v => v.category).sum + 1 ≤ 8) (hcap : cells + 1 + mc ≤ R.cells ∧ slots + N + ms ≤ R.slots)
    (hd1 : decode cc pc = .ok (.new i1, 3)) (hd2 : decode cc (pc + 3) = .ok (.dup, 1)) (hd3 : decode cc (pc + 3 + 1) = .ok (.invokespecial i2, 3)) (k : ∀ (q : Nat) (u : S), post u → RW p l e R s m args below meth c (IW s D A) nL (cells + 1 + mc) (slots + N + ms) Q (ws2 q u) (pc + 3 + 1 + 3) lv (.ref q :: st)) : RW p l e R s m args below meth c (IW s D A) nL cells slots Q ws pc lv st := fun H locs ls hI hl => by
  refine va_new (ci := ci) (fs := fs) C.1.1 C.1.2.1 C.1.2.2.2.2 hin ty0 hty C.1.2.2.2.1 (C.1.2.2.2.2 _ hcl) (C.1.2.2.2.2 _ hinst) (C.1.2.2.2.2 _ hini) C.2.1 hI.1 hI.2.1 hI.2.2 hA hc hfs (by omega) (by omega) hd1 (fun q H1 hP hD hS => ?_)
  refine lv_dup C.1.1 C.1.2.1 hd2 rfl ?_
  have hI2 : IW s D A ([(q, .inr (ci, fs))] ++ ws) H1 locs := IW_perm List.perm_append_comm ⟨hP, hD, hS⟩
  exact va_callv (va_runIN (As := []) (rest := .ref q :: st) C.1 (hM q H1.size) cw ⟨fb_W D cT _ _ H1.size, pre_P C.2.1 hI2⟩ rfl rfl hl.1 rfl (lv_room (by show 1 + (st.map fun v => v.category).sum ≤ 8; omega)) hd3 hcap) hI2.2.2 (fun q _ h => free_l hA hI2 q h) (free_l hA hI2) (fun u t H2 locs2 ht hvm hw hB hz1 hk1 hS2 => k q u hw H2 locs2 ls (post_P hA hI2 (hp2 q u) ht hB hk1 hS2) hl)
/-- an object made by a constructor that wants ZN -/
theorem pre_Pz {wc wr : va_W} {H : Heap} {av : List Value} {locs : List Loc} (hZ : ZN s) (hK : va_K D vwCl (TY cT) s) (hI : IW s D A (wc ++ wr) H locs) : ∀ U : State, U.heap = H → s.WarmedH U.vm → PWz D cT av wc H.size av.toArray U := fun U hU hW => by
  obtain ⟨h1, h2, h3, h4, h5⟩ := pre_P (av := av) hK hI U hU hW
  exact ⟨h1, h2, h3, h4, h5, hZ.warm hW⟩
theorem c_mkZ {ci i1 i2 N : Nat} {T : u_T} {ty0 : Nat → FieldType} {fs : List Value} {post : S → Prop} {w1 : Nat → S → va_W} (C : CX p s m args c cc nL own Ts D cT (IW s D A)) (hA : ∀ q : Nat, s.heap.size ≤ q → A q) (hZ : ZN s) (hin : ∀ w ∈ u_ws Cn T N, w ∈ Ts) (hty : ∀ k, k < N → parseFieldDescriptor (T k).2.2.1 = some (ty0 k)) (hcl : Cond.classLink own i1 Cn ∈ Ts) (hinst : Cond.instantiable Cn N ∈ Ts) (hini : Cond.initialized Cn ∈ Ts) (hc : vwCl[ci]? = some (Cn, T, N)) (hfs : ∀ j, j < N → defaultValue (ty0 j) = vp_V fs j)
    (hM : ∀ q, MWvz l D cT y wy rm [.ref q] [(q, .inr (ci, fs))] post (w1 q) mc ms) (cw : CallB R s args own i2 y bytes maxL none wy rm mc ms 0 ∧ y.name = "<init>" ∧ (Cond.instanceMethod y).before args s = true) (ws2 : Nat → S → va_W) (hp2 : ∀ q u, (w1 q u ++ ws).Perm (ws2 q u)) (hW : (st.map fun v => v.category).sum + 1 ≤ 8) (hcap : cells + 1 + mc ≤ R.cells ∧ slots + N + ms ≤ R.slots)
    (hd1 : decode cc pc = .ok (.new i1, 3)) (hd2 : decode cc (pc + 3) = .ok (.dup, 1)) (hd3 : decode cc (pc + 3 + 1) = .ok (.invokespecial i2, 3)) (k : ∀ (q : Nat) (u : S), post u → RW p l e R s m args below meth c (IW s D A) nL (cells + 1 + mc) (slots + N + ms) Q (ws2 q u) (pc + 3 + 1 + 3) lv (.ref q :: st)) : RW p l e R s m args below meth c (IW s D A) nL cells slots Q ws pc lv st := fun H locs ls hI hl => by
  refine va_new (ci := ci) (fs := fs) C.1.1 C.1.2.1 C.1.2.2.2.2 hin ty0 hty C.1.2.2.2.1 (C.1.2.2.2.2 _ hcl) (C.1.2.2.2.2 _ hinst) (C.1.2.2.2.2 _ hini) C.2.1 hI.1 hI.2.1 hI.2.2 hA hc hfs (by omega) (by omega) hd1 (fun q H1 hP hD hS => ?_)
  refine lv_dup C.1.1 C.1.2.1 hd2 rfl ?_
  have hI2 : IW s D A ([(q, .inr (ci, fs))] ++ ws) H1 locs := IW_perm List.perm_append_comm ⟨hP, hD, hS⟩
  exact va_callv (va_runI (As := []) (rest := .ref q :: st) C.1 (hM q H1.size) cw ⟨fb_Wz D cT _ _ H1.size, pre_Pz hZ C.2.1 hI2⟩ rfl rfl hl.1 rfl (lv_room (by show 1 + (st.map fun v => v.category).sum ≤ 8; omega)) hd3 hcap) hI2.2.2 (fun q _ h => free_l hA hI2 q h) (free_l hA hI2) (fun u t H2 locs2 ht hvm hw hB hz1 hk1 hS2 => k q u hw H2 locs2 ls (post_P hA hI2 (hp2 q u) ht hB hk1 hS2) hl)
/-- an object made by a constructor of a class of its own -/
theorem c_mkD {ci i1 i2 N : Nat} {T : u_T} {ty0 : Nat → FieldType} {fs : List Value} {post : S → Prop} {w1 : Nat → S → va_W} (C : CX p s m args c cc nL own Ts D cT (IW s D A)) (hA : ∀ q : Nat, s.heap.size ≤ q → A q) (hin : ∀ w ∈ u_ws Cn T N, w ∈ Ts) (hty : ∀ k, k < N → parseFieldDescriptor (T k).2.2.1 = some (ty0 k)) (hcl : Cond.classLink own i1 Cn ∈ Ts) (hinst : Cond.instantiable Cn N ∈ Ts) (hini : Cond.initialized Cn ∈ Ts) (hc : vwCl[ci]? = some (Cn, T, N)) (hfs : ∀ j, j < N → defaultValue (ty0 j) = vp_V fs j)
    (hM : ∀ q, MWv l D cT y wy rm [.ref q] [(q, .inr (ci, fs))] post (w1 q) mc ms) (cw : CallB R s args own i2 y bytes maxL none wy rm mc ms 0 ∧ y.name = "<init>" ∧ (Cond.instanceMethod y).before args s = true) (ws2 : Nat → S → va_W) (hp2 : ∀ q u, (w1 q u ++ ws).Perm (ws2 q u)) (hW : (st.map fun v => v.category).sum + 1 ≤ 8) (hcap : cells + 1 + mc ≤ R.cells ∧ slots + N + ms ≤ R.slots)
    (hd1 : decode cc pc = .ok (.new i1, 3)) (hd2 : decode cc (pc + 3) = .ok (.dup, 1)) (hd3 : decode cc (pc + 3 + 1) = .ok (.invokespecial i2, 3)) (k : ∀ (q : Nat) (u : S), post u → RW p l e R s m args below meth c (IW s D A) nL (cells + 1 + mc) (slots + N + ms) Q (ws2 q u) (pc + 3 + 1 + 3) lv (.ref q :: st)) : RW p l e R s m args below meth c (IW s D A) nL cells slots Q ws pc lv st := fun H locs ls hI hl => by
  refine va_new (ci := ci) (fs := fs) C.1.1 C.1.2.1 C.1.2.2.2.2 hin ty0 hty C.1.2.2.2.1 (C.1.2.2.2.2 _ hcl) (C.1.2.2.2.2 _ hinst) (C.1.2.2.2.2 _ hini) C.2.1 hI.1 hI.2.1 hI.2.2 hA hc hfs (by omega) (by omega) hd1 (fun q H1 hP hD hS => ?_)
  refine lv_dup C.1.1 C.1.2.1 hd2 rfl ?_
  have hI2 : IW s D A ([(q, .inr (ci, fs))] ++ ws) H1 locs := IW_perm List.perm_append_comm ⟨hP, hD, hS⟩
  exact va_callv (va_runI (As := []) (rest := .ref q :: st) C.1 (hM q H1.size) cw ⟨fb_W D cT _ _ H1.size, pre_P C.2.1 hI2⟩ rfl rfl hl.1 rfl (lv_room (by show 1 + (st.map fun v => v.category).sum ≤ 8; omega)) hd3 hcap) hI2.2.2 (fun q _ h => free_l hA hI2 q h) (free_l hA hI2) (fun u t H2 locs2 ht hvm hw hB hz1 hk1 hS2 => k q u hw H2 locs2 ls (post_P hA hI2 (hp2 q u) ht hB hk1 hS2) hl)
/-- a row of references, seen by other numbers beyond its end -/
theorem r_funQ {a n q0 : Nat} {cX : ClassId} {f g : Nat → Option Nat} (h : ∀ k, k < n → f k = g k) (ha : ws[q0]? = some (a, aR cX n f)) (hws : ws.set q0 (a, aR cX n g) = ws2) (k : RW p l e R s m args below meth c (IW s D A) nL cells slots Q ws2 pc lv st) : RW p l e R s m args below meth c (IW s D A) nL cells slots Q ws pc lv st := fun H locs ls hI hl => by
  subst hws
  refine k H locs ls ⟨fun i q hq => ?_, hI.2.1.set (p := q0) (e := aR cX n g) ha, hI.2.2⟩ hl
  rw [List.getElem?_set] at hq
  by_cases e : q0 = i
  · rw [if_pos e] at hq
    split at hq
    · cases hq
      have h1 : H[a]? = some (vp_cell cX (n, .inr (.inr (.inr (.inr f))))) := hI.1 q0 _ ha
      show H[a]? = some (vp_cell cX (n, .inr (.inr (.inr (.inr g)))))
      rw [h1, vp_cell_q, vp_cell_q]
      congr 1
      unfold arrV
      congr 1
      congr 1
      funext j
      show va_rf (f j.val) = va_rf (g j.val)
      rw [h j.val j.isLt]
    · cases hq
  · rw [if_neg e] at hq; exact hI.1 i q hq
end RowsN
