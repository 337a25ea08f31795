/-! calls by another order of the world -/
theorem va_nd_of {l : List Nat} (h : l.Nodup) : va_nd l = true := by
  induction l with
  | nil => rfl
  | cons a l ih =>
    rw [List.nodup_cons] at h
    simp only [va_nd, Bool.and_eq_true, decide_eq_true_eq]
    exact ⟨h.1, ih h.2⟩
theorem idx_l (X Z : va_W) : (List.range X.length).map (fun i => (X ++ Z)[i]?) = X.map some := by
  apply List.ext_getElem (by simp)
  intro i h1 h2
  have hi : i < X.length := by simpa using h2
  simp [List.getElem?_append_left hi, hi]
theorem idx_r (X Z : va_W) : (List.range' X.length Z.length).map (fun i => (X ++ Z)[i]?) = Z.map some := by
  apply List.ext_getElem (by simp)
  intro i h1 h2
  have hi : i < Z.length := by simpa using h2
  simp [List.getElem?_append_right, hi]
theorem idx_dis (X Z : va_W) : ∀ i ∈ List.range' X.length Z.length, i ∉ List.range X.length := by
  intro i h1 h2
  rw [List.mem_range'_1] at h1
  rw [List.mem_range] at h2
  omega
theorem perm_idx {X X2 : va_W} (n : Nat) (is : List Nat) (hn : X.length = n) (h : is.map (fun i => X[i]?) = X2.map some) (hp : is.Perm (List.range n)) : X.Perm X2 := by
  have h1 := fm_of h
  have h2 : (List.range X.length).filterMap (fun i => X[i]?) = X := by
    have h9 := fm_of (idx_l X [])
    simp only [List.append_nil] at h9
    exact h9
  rw [hn] at h2
  have h3 := hp.filterMap (fun i => X[i]?)
  rw [h1, h2] at h3
  exact h3.symm
theorem perm_z {X Y Z Yr : va_W} (h : X.Perm (Y ++ Yr)) : (X ++ Z).Perm ((Y ++ Z) ++ Yr) := by
  have h1 : ((Y ++ Yr) ++ Z).Perm ((Y ++ Z) ++ Yr) := by
    rw [List.append_assoc, List.append_assoc]
    exact List.Perm.append_left Y List.perm_append_comm
  exact (h.append_right Z).trans h1
theorem perm_z2 {X Y Z Yr : va_W} (h : (Y ++ Yr).Perm X) : ((Y ++ Z) ++ Yr).Perm (X ++ Z) := (perm_z h.symm).symm
section CallsP
variable {p : Program} {l : Launch} {e : Env} {R : Room} {s : State} {m : MethodId} {args : Array Value} {below : List Frame} {meth : Method} {c : Code} {Q : State → Prop} {cells slots nL pc mc ms n maxL index : Nat} {cc bytes : ByteArray} {own Cn : String} {Ts wy : List Cond} {D : va_G} {cT : Nat → ClassId} {A : Nat → Prop} {ws wc wr : va_W} {lv : List (Nat × Value)} {st st0 : List Value} {S SX S2 : Type} {y : MethodName} {ret : Option FieldType} {rm : Room} {b : Nat} {As : List Value} {sa : Nat → Nat}
theorem free_l {H : Heap} {locs : List Loc} (hA : ∀ q : Nat, s.heap.size ≤ q → A q) (hI : IW s D A (wc ++ wr) H locs) : ∀ q, va_A wc H.size q → A q := va_free hI.2.1 hI.2.2 hA _ (idx_l wc wr)
theorem post_P {w1 ws2 : S → va_W} {u : S} {H H1 : Heap} {locs locs1 : List Loc} {t : State} (hA : ∀ q : Nat, s.heap.size ≤ q → A q) (hI : IW s D A (wc ++ wr) H locs) (hp2 : (w1 u ++ wr).Perm (ws2 u))
    (ht : t.heap = H1) (hB : BW D wc H.size w1 u t) (hk1 : ∀ q : Nat, q < H.size → ¬ va_A wc H.size q → H1[q]? = H[q]?) (hS : va_S A s.heap H1 locs1) : IW s D A (ws2 u) H1 locs1 := by
  obtain ⟨hP1, hD1⟩ := hB
  rw [ht] at hP1
  obtain ⟨hP, hD⟩ := va_join hI.1 hI.2.1 _ _ (idx_l wc wr) (idx_r wc wr) (va_nd_of (List.nodup_range' ..)) (idx_dis wc wr) hk1 (free_l hA hI) hP1 hD1
  exact ⟨va_P_perm (List.perm_append_comm.trans hp2) hP, va_D_perm (List.perm_append_comm.trans hp2) hD, hS⟩
theorem pre_P {H : Heap} {av : List Value} {locs : List Loc} (hK : va_K D vwCl (TY cT) s) (hI : IW s D A (wc ++ wr) H locs) : ∀ U : State, U.heap = H → s.WarmedH U.vm → PW D cT av wc H.size av.toArray U := pre_W hK hI _ (idx_l wc wr) (va_nd_of List.nodup_range)
theorem IW_perm {ws2 : va_W} {H : Heap} {locs : List Loc} (h : ws.Perm ws2) (hI : IW s D A ws H locs) : IW s D A ws2 H locs := ⟨va_P_perm h hI.1, va_D_perm h hI.2.1, hI.2.2⟩
theorem pre_X {H : Heap} {av : List Value} {locs : List Loc} (hA : ∀ q : Nat, s.heap.size ≤ q → A q) (hX : XB A sa s s.heap) (hK : va_K D vwCl (TY cT) s) (hI : IW s D A (wc ++ wr) H locs) : ∀ U : State, U.heap = H → s.WarmedH U.vm → PX D cT sa av wc H.size av.toArray U := fun U hU hW => by
  obtain ⟨h1, h2, h3, h4, h5⟩ := pre_P (av := av) hK hI U hU hW
  refine ⟨h1, h2, h3, h4, h5, ?_⟩
  rw [hU]
  exact XB.warm hW ((hX.kept (H1 := H) (fun q h1 h2 => hI.2.2.2.1 q h1 h2)).narrow (free_l hA hI))
theorem c_PVi {ci qr : Nat} {fs : List Value} {rc : u_T × Nat} {post : Int32 → S → Prop} {w1 : S → va_W} (C : CX p s m args c cc nL own Ts D cT (IW s D A)) (hA : ∀ q : Nat, s.heap.size ≤ q → A q) (hM : MWi l D cT y wy rm (.ref b :: As) wc post w1 mc ms) (cw : CallW R s args own Cn index y bytes maxL ret wy rm mc ms n) (hr : wc[qr]? = some (b, .inr (ci, fs))) (hc : vwCl[ci]? = some (Cn, rc)) (wr : va_W) (hp : ws.Perm (wc ++ wr)) (ws2 : S → va_W) (hp2 : ∀ u, (w1 u ++ wr).Perm (ws2 u)) (hn : As.length = n) (hst : st0 = As.reverse ++ .ref b :: st) (hW : (st.map fun v => v.category).sum ≤ 8) (hcap : cells + mc ≤ R.cells ∧ slots + ms ≤ R.slots) (hd : decode cc pc = .ok (.invokevirtual index, 3)) (k : ∀ (r : Int32) (u : S), post r u → RW p l e R s m args below meth c (IW s D A) nL (cells + mc) (slots + ms) Q (ws2 u) (pc + 3) lv (.int r :: st)) : RW p l e R s m args below meth c (IW s D A) nL cells slots Q ws pc lv st0 := fun H locs ls hI0 hl => by
  have hI := IW_perm hp hI0
  have hPc : va_P D vwCl wc H := hI.1.sub _ (fm_of (idx_l wc wr))
  have hV := va_recv C.2.1 hPc hc hr
  exact va_calli (va_runV C.1 (hM H.size) cw ⟨fb_W D cT _ wc H.size, hV, pre_P C.2.1 hI⟩ rfl hn hl.1 hst (lv_room hW) hd hcap) hI.2.2 (fun q _ h => free_l hA hI q h) (free_l hA hI) (fun r u t H1 locs ht hvm hw hB hz1 hk1 hS => k r u hw H1 locs ls (post_P hA hI (hp2 u) ht hB hk1 hS) hl)
theorem c_PVv {ci qr : Nat} {fs : List Value} {rc : u_T × Nat} {post : S → Prop} {w1 : S → va_W} (C : CX p s m args c cc nL own Ts D cT (IW s D A)) (hA : ∀ q : Nat, s.heap.size ≤ q → A q) (hM : MWv l D cT y wy rm (.ref b :: As) wc post w1 mc ms) (cw : CallW R s args own Cn index y bytes maxL ret wy rm mc ms n) (hr : wc[qr]? = some (b, .inr (ci, fs))) (hc : vwCl[ci]? = some (Cn, rc)) (wr : va_W) (hp : ws.Perm (wc ++ wr)) (ws2 : S → va_W) (hp2 : ∀ u, (w1 u ++ wr).Perm (ws2 u)) (hn : As.length = n) (hst : st0 = As.reverse ++ .ref b :: st) (hW : (st.map fun v => v.category).sum ≤ 8) (hcap : cells + mc ≤ R.cells ∧ slots + ms ≤ R.slots) (hd : decode cc pc = .ok (.invokevirtual index, 3)) (k : ∀ (u : S), post u → RW p l e R s m args below meth c (IW s D A) nL (cells + mc) (slots + ms) Q (ws2 u) (pc + 3) lv st) : RW p l e R s m args below meth c (IW s D A) nL cells slots Q ws pc lv st0 := fun H locs ls hI0 hl => by
  have hI := IW_perm hp hI0
  have hPc : va_P D vwCl wc H := hI.1.sub _ (fm_of (idx_l wc wr))
  have hV := va_recv C.2.1 hPc hc hr
  exact va_callv (va_runV C.1 (hM H.size) cw ⟨fb_W D cT _ wc H.size, hV, pre_P C.2.1 hI⟩ rfl hn hl.1 hst (lv_room hW) hd hcap) hI.2.2 (fun q _ h => free_l hA hI q h) (free_l hA hI) (fun u t H1 locs ht hvm hw hB hz1 hk1 hS => k u hw H1 locs ls (post_P hA hI (hp2 u) ht hB hk1 hS) hl)
/-- a call of a method that may throw; what it throws goes on -/
theorem c_XVi {Qc : Array Value → State → Outcome → State → Prop} {pX2 : String → S2 → Prop} {wx2 : S2 → va_W} {mc2 ms2 : Nat} {ci qr : Nat} {fs : List Value} {rc : u_T × Nat} {post : Int32 → S → Prop} {w1 : S → va_W} {pX : String → SX → Prop} {wx : SX → va_W} (C : CX p s m args c cc nL own Ts D cT (IW s D A)) (hA : ∀ q : Nat, s.heap.size ≤ q → A q) (hX : XB A sa s s.heap) (htab : ∀ x ∈ c.exceptionTable.toList, False) (hk : meth.locks = false) (hM : MX l D cT sa y wy rm (.ref b :: As) wc post w1 pX wx mc ms) (cw : CallW R s args own Cn index y bytes maxL ret wy rm mc ms n) (hr : wc[qr]? = some (b, .inr (ci, fs))) (hc : vwCl[ci]? = some (Cn, rc)) (wr : va_W) (hp : ws.Perm (wc ++ wr)) (ws2 : S → va_W) (hp2 : ∀ u, (w1 u ++ wr).Perm (ws2 u)) (hn : As.length = n) (hst : st0 = As.reverse ++ .ref b :: st) (hW : (st.map fun v => v.category).sum ≤ 8) (hcap : cells + mc ≤ R.cells ∧ slots + ms ≤ R.slots) (hd : decode cc pc = .ok (.invokevirtual index, 3)) (hmc : cells + mc ≤ mc2) (hms : slots + ms ≤ ms2) (hx : ∀ (E : String) (u : SX), pX E u → ∃ u2 : S2, pX2 E u2 ∧ (wx u ++ wr).Perm (wx2 u2)) (k : ∀ (r : Int32) (u : S), post r u → RW p l e R s m args below meth c (IW s D A) nL (cells + mc) (slots + ms) (vx_MQ below Qc (vx_X (fun _ => True) (fun E u t => pX2 E u ∧ va_P D vwCl (wx2 u) t.heap ∧ va_D A (wx2 u)) A) args s mc2 ms2 A) (ws2 u) (pc + 3) lv (.int r :: st)) : RW p l e R s m args below meth c (IW s D A) nL cells slots (vx_MQ below Qc (vx_X (fun _ => True) (fun E u t => pX2 E u ∧ va_P D vwCl (wx2 u) t.heap ∧ va_D A (wx2 u)) A) args s mc2 ms2 A) ws pc lv st0 := fun H locs ls hI0 hl => by
  have hI := IW_perm hp hI0
  have hPc : va_P D vwCl wc H := hI.1.sub _ (fm_of (idx_l wc wr))
  have hV := va_recv C.2.1 hPc hc hr
  refine vx_calli (vx_runV C.1 (hM H.size) cw ⟨fb_X D cT sa _ wc H.size, hV, pre_X hA hX C.2.1 hI⟩ rfl hn hl.1 hst (lv_room hW) hd hcap) hI.2.2 (fun q _ h => free_l hA hI q h) (free_l hA hI) (fun q _ h => free_l hA hI q h) (fun E ce q9 u t H1 locs1 ht hvm _ hB hz1 hk1 hS hce hcv hcl => ?_) (fun r u t H1 locs ht hvm hw hB hz1 hk1 hS => k r u hw H1 locs ls (post_P hA hI (hp2 u) ht hB hk1 hS) hl)
  obtain ⟨hpx, hP1, hD1⟩ := hB
  obtain ⟨u2, g1, g2⟩ := hx E u hpx
  have hI2 : IW s D A (wx2 u2) H1 locs1 := post_P (w1 := fun _ : Unit => wx u) (ws2 := fun _ => wx2 u2) (u := ()) hA hI g2 ht ⟨hP1, hD1⟩ hk1 hS
  exact vx_out (fun x hx => (htab x hx).elim) hk hce hcv hcl (fun t2 ht2 _ => ⟨u2, trivial, ⟨g1, by rw [ht2]; exact hI2.1, hI2.2.1⟩, hI2.2.2.F ht2⟩) hI2.2.2.2.2 hmc hms
end CallsP
