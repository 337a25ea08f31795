/-! the law's own methods: a wrapper that catches, its call; the script of ints -/
def xNC : List (String × String) := [(xIS, xIA), (xIA, xIO), (xIS, xIO)]
def NC (U : State) : Prop := ∀ q ∈ xNC, va_Nc q.1 q.2 U
theorem NC.warm {s U : State} (hW : s.WarmedH U.vm) (h : NC s) : NC U := fun q hq => va_Nc.moved hW.alike (h q hq)
/-- E, thrown at pc, is caught at h -/
def CT (tab : List ExceptionTableEntry) (own : String) (Ts : List Cond) (pc : Nat) (E : String) (h : Nat) : Prop := E ∈ xCast ∧ ∃ pre x suf, tab = pre ++ x :: suf ∧ (∀ z ∈ pre, z.catchType ≠ 0 ∧ ∃ nm, (E, nm) ∈ xNC ∧ Cond.classLink own z.catchType nm ∈ Ts) ∧ covers x pc = true ∧ x.catchType ≠ 0 ∧ Cond.classLink own x.catchType E ∈ Ts ∧ x.handlerPc = h
def PL (D : va_G) (cT : Nat → ClassId) (sa : Nat → Nat) (av : List Value) (w : va_W) (sz : Nat) : Array Value → State → Prop := va_Pc av (fun U => U.heap.size = sz ∧ va_P D vwCl w U.heap ∧ va_K D vwCl (TY cT) U ∧ va_D (fun _ => True) w ∧ XB (va_A w sz) sa U U.heap ∧ NC U)
def ML {S : Type} (l : Launch) (D : va_G) (cT : Nat → ClassId) (sa : Nat → Nat) (y : MethodName) (wy : List Cond) (rm : Room) (av : List Value) (w : va_W) (post : Int32 → S → Prop) (w1 : S → va_W) (mc ms : Nat) : Prop :=
  ∀ sz, Met l y wy rm (PL D cT sa av w sz) (va_Qi post (BW D w sz w1) (va_A w sz)) mc ms (va_A w sz)
theorem fb_L (D : va_G) (cT : Nat → ClassId) (sa : Nat → Nat) (av : List Value) (w : va_W) (sz : Nat) : FrameBlind (PL D cT sa av w sz) := fun a U g mk q => by
  obtain ⟨q0, q1, qP, qK, qD, ⟨q2, q3, q4, q5, q6⟩, qN⟩ := q
  exact ⟨q0, q1, qP, va_K.moved (u := U) (U := U.calling g mk a) (Vm.Alike.refl U.vm) qK, qD, ⟨vx_Zq.moved (u := U) (U := U.calling g mk a) (Vm.Alike.refl U.vm) q2, vx_Zq.moved (u := U) (U := U.calling g mk a) (Vm.Alike.refl U.vm) q3, fun q hq => vk_R.same (u := U) (U := U.calling g mk a) rfl (q4 q hq), fun E hE => va_tabs (A := #[]) rfl (rfl : (U.calling g mk a).vm = U.vm).symm (q5 E hE), fun Y hY => va_tabs (A := #[]) rfl (rfl : (U.calling g mk a).vm = U.vm).symm (q6 Y hY)⟩, fun q hq => va_Nc.moved (u := U) (U := U.calling g mk a) (Vm.Alike.refl U.vm) (qN q hq)⟩
theorem m_L {S : Type} {l : Launch} {D : va_G} {cT : Nat → ClassId} {sa : Nat → Nat} {y : MethodName} {wy ws' : List Cond} {rm : Room} {cc : ByteArray} {maxL : Nat} {ret : Option FieldType} {hh : List (Nat × Nat × Nat × Nat)} {av : List Value} {w : va_W} {post : Int32 → S → Prop} {w1 : S → va_W} {mc ms : Nat} (lv : List (Nat × Value)) (hy : plainName y.cls = true) (hw : wy = Cond.codeWith y cc maxL ret hh :: ws') (hsz : (lg_sl av).length ≤ maxL) (hlv : lv_args 0 av = lv)
    (body : ∀ (p : Program) (e : Env) (s : State) (m : MethodId) (args : Array Value) (below : List Frame) (meth : Method) (c : Code) (A : Nat → Prop), A = va_A w s.heap.size → CX p s m args c cc maxL y.cls wy D cT (IW s D A) → (∀ q : Nat, s.heap.size ≤ q → A q) → meth.sig.returnType = ret → meth.locks = false → c.exceptionTable.toList = tableOf hh → XB A sa s s.heap → NC s → RW p l e (headSpec wy rm).room s m args below meth c (IW s D A) maxL 0 0 (MQ below (va_Qi post (fun u t => va_P D vwCl (w1 u) t.heap ∧ va_D A (w1 u)) A) args s mc ms A) w 0 lv []) : ML l D cT sa y wy rm av w post w1 mc ms := by
  intro sz
  refine va_MetW (cc := cc) (maxL := maxL) (ret := ret) hy hw ?_
  intro p e s m args below meth c s₁ B hml hv
  obtain ⟨rfl, hs, hP, hK, hD, hX, hN⟩ := hv
  subst hs
  have htab : c.exceptionTable.toList = tableOf hh := vx_table (x := y) B (atoms_spec (ws := wy) B.pre _ (by rw [hw]; exact List.mem_cons_self))
  have hl := lv_entry av (n := maxL) hsz
  rw [hlv] at hl
  have h := body p e s m av.toArray below meth c _ rfl ⟨⟨B.exec, B.bytes, hml, findClass_of_methodNamed B.named, atoms_spec (ws := wy) B.pre⟩, hK, fun ws H locs h => h.1⟩ (fun q h => Or.inr h) B.returns B.notSynchronized htab hX hN
  rw [lg_entry_eq]
  exact h s.heap [] _ ⟨hP, hD.self, va_S.rf⟩ hl
section LawRows
variable {p : Program} {l : Launch} {e : Env} {R : Room} {s : State} {m : MethodId} {args : Array Value} {below : List Frame} {meth : Method} {c : Code} {Q : State → Prop} {cells slots nL pc mc ms n maxL index : Nat} {cc bytes : ByteArray} {own Cn : String} {Ts wy : List Cond} {D : va_G} {cT : Nat → ClassId} {A : Nat → Prop} {ws wc wr : va_W} {lv : List (Nat × Value)} {st st0 : List Value} {S SX : Type} {y : MethodName} {ret : Option FieldType} {rm : Room} {b : Nat} {As : List Value} {sa : Nat → Nat} {hh : List (Nat × Nat × Nat × Nat)}
/-- a call, what it throws caught here -/
theorem c_LX {ci qr : Nat} {fs : List Value} {rc : u_T × Nat} {post : Int32 → S → Prop} {w1 : S → va_W} {pX : String → SX → Prop} {wx : SX → va_W} (C : CX p s m args c cc nL own Ts D cT (IW s D A)) (hA : ∀ q : Nat, s.heap.size ≤ q → A q) (hX : XB A sa s s.heap) (hN : NC s) (htab : c.exceptionTable.toList = tableOf hh) (hM : MX l D cT sa y wy rm (.ref b :: As) wc post w1 pX wx mc ms) (cw : CallW R s args own Cn index y bytes maxL ret wy rm mc ms n) (hr : wc[qr]? = some (b, .inr (ci, fs))) (hc : vwCl[ci]? = some (Cn, rc)) (wr : va_W) (hp : ws.Perm (wc ++ wr)) (ws2 : S → va_W) (wx2 : SX → va_W) (hp2 : ∀ u, (w1 u ++ wr).Perm (ws2 u)) (hpx : ∀ u, (wx u ++ wr).Perm (wx2 u)) (hn : As.length = n) (hst : st0 = As.reverse ++ .ref b :: st) (hW : (st.map fun v => v.category).sum ≤ 8) (hcap : cells + mc ≤ R.cells ∧ slots + ms ≤ R.slots) (hd : decode cc pc = .ok (.invokevirtual index, 3))
    (kx : ∀ (E : String) (u : SX) (q9 : Addr), pX E u → ∃ h, CT (tableOf hh) own Ts pc E h ∧ RW p l e R s m args below meth c (IW s D A) nL (cells + mc) (slots + ms) Q (wx2 u) h lv [.ref q9])
    (k : ∀ (r : Int32) (u : S), post r u → RW p l e R s m args below meth c (IW s D A) nL (cells + mc) (slots + ms) Q (ws2 u) (pc + 3) lv (.int r :: st)) : RW p l e R s m args below meth c (IW s D A) nL cells slots Q ws pc lv st0 := fun H locs ls hI0 hl => by
  have hI := IW_perm hp hI0
  have hPc : va_P D vwCl wc H := hI.1.sub _ (fm_of (idx_l wc wr))
  have hV := va_recv C.2.1 hPc hc hr
  refine vx_calli (vx_runV C.1 (hM H.size) cw ⟨fb_X D cT sa _ wc H.size, hV, pre_X hA hX C.2.1 hI⟩ rfl hn hl.1 hst (lv_room hW) hd hcap) hI.2.2 (fun q _ h => free_l hA hI q h) (free_l hA hI) (fun q _ h => free_l hA hI q h) (fun E ce q9 u t H1 locs1 ht hvm _ hB hz1 hk1 hS hce hcv hcl => ?_) (fun r u t H1 locs ht hvm hw hB hz1 hk1 hS => k r u hw H1 locs ls (post_P hA hI (hp2 u) ht hB hk1 hS) hl)
  obtain ⟨hpx9, hP1, hD1⟩ := hB
  obtain ⟨h, ⟨hE, pre, x, suf, hsplit, hpass, hcov, h0, hlk, hh9⟩, hk⟩ := kx E u q9 hpx9
  have hI2 : IW s D A (wx2 u) H1 locs1 := post_P (w1 := fun _ : Unit => wx u) (ws2 := fun _ => wx2 u) (u := ()) hA hI (hpx u) ht ⟨hP1, hD1⟩ hk1 hS
  subst hh9
  exact vx_catch (own := own) (name := E) (E := E) C.1.2.2.2.1 pre x suf (htab.trans hsplit) (fun z hz => Or.inr (by
    obtain ⟨g1, nm, g2, g3⟩ := hpass z hz
    exact ⟨g1, nm, C.1.2.2.2.2 _ g3, hN _ g2⟩)) hcov h0 (C.1.2.2.2.2 _ hlk) (va_Nw.use rfl (hX.2.2.2.1 E hE)) hce hcv hcl (hk H1 locs1 ls hI2 hl)
theorem pre_L {H : Heap} {av : List Value} {locs : List Loc} (hA : ∀ q : Nat, s.heap.size ≤ q → A q) (hX : XB A sa s s.heap) (hN : NC s) (hK : va_K D vwCl (TY cT) s) (hI : IW s D A (wc ++ wr) H locs) : ∀ U : State, U.heap = H → s.WarmedH U.vm → PL D cT sa av wc H.size av.toArray U := fun U hU hW => by
  obtain ⟨h1, h2, h3, h4, h5, h6⟩ := pre_X (av := av) hA hX hK hI U hU hW
  exact ⟨h1, h2, h3, h4, h5, h6, NC.warm hW hN⟩
/-- a static call of a wrapper -/
theorem c_LS {post : Int32 → S → Prop} {w1 : S → va_W} (C : CX p s m args c cc nL own Ts D cT (IW s D A)) (hA : ∀ q : Nat, s.heap.size ≤ q → A q) (hX : XB A sa s s.heap) (hN : NC s) (hM : ML l D cT sa y wy rm As wc post w1 mc ms) (cw : vx_CSW R s args own index y bytes maxL ret hh wy rm mc ms n) (wr : va_W) (hp : ws.Perm (wc ++ wr)) (ws2 : S → va_W) (hp2 : ∀ u, (w1 u ++ wr).Perm (ws2 u)) (hn : As.length = n) (hst : st0 = As.reverse ++ st) (hW : (st.map fun v => v.category).sum ≤ 8) (hcap : cells + mc ≤ R.cells ∧ slots + ms ≤ R.slots) (hd : decode cc pc = .ok (.invokestatic index, 3))
    (k : ∀ (r : Int32) (u : S), post r u → RW p l e R s m args below meth c (IW s D A) nL (cells + mc) (slots + ms) Q (ws2 u) (pc + 3) lv (.int r :: st)) : RW p l e R s m args below meth c (IW s D A) nL cells slots Q ws pc lv st0 := fun H locs ls hI0 hl => by
  have hI := IW_perm hp hI0
  exact va_calli (vx_runSW C.1 (hM H.size) cw ⟨fb_L D cT sa _ wc H.size, pre_L hA hX hN C.2.1 hI⟩ rfl hn hl.1 hst (lv_room hW) hd hcap) hI.2.2 (fun q _ h => free_l hA hI q h) (free_l hA hI) (fun r u t H1 locs ht hvm hw hB hz1 hk1 hS => k r u hw H1 locs ls (post_P hA hI (hp2 u) ht hB hk1 hS) hl)
/-- the script: its length, a place of it -/
theorem r_slen {L : Nat} {xs : Nat → Int32} (C : CX p s m args c cc nL own Ts D cT (IW s D A)) (hs : va_X b L xs s s.heap) (hb : b < s.heap.size) (hbA : ¬ A b) (hd : decode cc pc = .ok (.arraylength, 1)) (k : RW p l e R s m args below meth c (IW s D A) nL cells slots Q ws (pc + 1) lv (.int (nI L) :: st)) : RW p l e R s m args below meth c (IW s D A) nL cells slots Q ws pc lv (.ref b :: st) := fun H locs ls hI hl =>
  va_slen C.1.1 C.1.2.1 hs hb hbA hI.2.2 hd (k H locs ls hI hl)
theorem r_sld {L i : Nat} {xs : Nat → Int32} (C : CX p s m args c cc nL own Ts D cT (IW s D A)) (hs : va_X b L xs s s.heap) (hb : b < s.heap.size) (hbA : ¬ A b) (hi : i < L) (hL : L ≤ 2048) (hd : decode cc pc = .ok (.iaload, 1)) (k : RW p l e R s m args below meth c (IW s D A) nL cells slots Q ws (pc + 1) lv (.int (xs i) :: st)) : RW p l e R s m args below meth c (IW s D A) nL cells slots Q ws pc lv (.int (nI i) :: .ref b :: st) := fun H locs ls hI hl => by
  refine va_sld C.1.1 C.1.2.1 hs hb hbA hI.2.2 (i := nI i) (vp_in_nI hi (by omega)) hd ?_
  rw [nI_clamp (by omega)]
  exact k H locs ls hI hl
end LawRows
