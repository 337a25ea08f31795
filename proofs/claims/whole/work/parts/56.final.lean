theorem law_known {s : State} {args : Array Value} (hts : ∀ w ∈ lw_tbl, w.before args s = true) : ∃ (D : va_G) (cT : Nat → ClassId), va_K D vwCl (TY cT) s := by
  obtain ⟨c0, i0, h0⟩ := u_known (C := RX0) (T := TX0) (N := 3) (n := 3) hts inX0 (hts (.instantiable RX0 3) (by decide +kernel))
  obtain ⟨c1, i1, h1⟩ := u_known (C := RX1) (T := TX1) (N := 13) (n := 13) hts inX1 (hts (.instantiable RX1 13) (by decide +kernel))
  obtain ⟨c2, i2, h2⟩ := u_known (C := RX2) (T := TX2) (N := 10) (n := 10) hts inX2 (hts (.instantiable RX2 10) (by decide +kernel))
  obtain ⟨c3, i3, h3⟩ := u_known (C := RX3) (T := TX3) (N := 14) (n := 14) hts inX3 (hts (.instantiable RX3 14) (by decide +kernel))
  obtain ⟨c4, i4, h4⟩ := u_known (C := RX4) (T := TX4) (N := 7) (n := 7) hts inX4 (hts (.instantiable RX4 7) (by decide +kernel))
  obtain ⟨c5, i5, h5⟩ := u_known (C := RX5) (T := TX5) (N := 14) (n := 14) hts inX5 (hts (.instantiable RX5 14) (by decide +kernel))
  obtain ⟨a0, k0, m0, f0, g0, e0⟩ := Cond.arrayClass_spec (hts (.arrayClass .int) (by decide +kernel))
  obtain ⟨a1, k1, m1, f1, g1, e1⟩ := Cond.arrayClass_spec (hts (.arrayClass .boolean) (by decide +kernel))
  obtain ⟨a2, k2, m2, f2, g2, e2⟩ := Cond.arrayClass_spec (hts (.arrayClass .char) (by decide +kernel))
  obtain ⟨a4, k4, m4, f4, g4, e4⟩ := Cond.arrayClass_spec (hts (.arrayClass .long) (by decide +kernel))
  obtain ⟨m3, a3, k3, q1, q2, q3, q4, q5⟩ := Cond.arrayOver_spec (hts (.arrayOver (.object "SwitchRows$State")) (by decide +kernel))
  refine ⟨(fun k => match k with | 0 => c0 | 1 => c1 | 2 => c2 | 3 => c3 | 4 => c4 | _ => c5, fun k => match k with | 0 => i0 | 1 => i1 | 2 => i2 | 3 => i3 | 4 => i4 | _ => i5), fun k => match k with | 0 => a0 | 1 => a1 | 2 => a2 | 3 => a3 | _ => a4, fun k q hq => ?_, fun k q hq => ?_⟩
  · rcases k with _ | _ | _ | _ | _ | _ | k
    · obtain rfl : (RX0, TX0, 3) = q := Option.some.inj hq
      exact h0
    · obtain rfl : (RX1, TX1, 13) = q := Option.some.inj hq
      exact h1
    · obtain rfl : (RX2, TX2, 10) = q := Option.some.inj hq
      exact h2
    · obtain rfl : (RX3, TX3, 14) = q := Option.some.inj hq
      exact h3
    · obtain rfl : (RX4, TX4, 7) = q := Option.some.inj hq
      exact h4
    · obtain rfl : (RX5, TX5, 14) = q := Option.some.inj hq
      exact h5
    · have h9 : (none : Option vw_C) = some q := hq
      cases h9
  · rcases k with _ | _ | _ | _ | _ | k
    · obtain rfl : (a0, FieldType.int) = q := Option.some.inj hq
      exact ⟨fun n z => ⟨fun k h => (by cases h), k0, g0, m0, e0⟩, f0⟩
    · obtain rfl : (a1, FieldType.boolean) = q := Option.some.inj hq
      exact ⟨fun n z => ⟨fun k h => (by cases h), k1, g1, m1, e1⟩, f1⟩
    · obtain rfl : (a2, FieldType.char) = q := Option.some.inj hq
      exact ⟨fun n z => ⟨fun k h => (by cases h), k2, g2, m2, e2⟩, f2⟩
    · obtain rfl : (a3, FieldType.object "SwitchRows$State") = q := Option.some.inj hq
      exact ⟨fun n z => ⟨fun k h => (by cases h), k3, q3, m3, q4⟩, k3, m3, q3, q4, q1, q5⟩
    · obtain rfl : (a4, FieldType.long) = q := Option.some.inj hq
      exact ⟨fun n z => ⟨fun k h => (by cases h), k4, g4, m4, e4⟩, f4⟩
    · have h9 : (none : Option (ClassId × FieldType)) = some q := hq
      cases h9
theorem law_str : ∀ q ∈ xStrs, Cond.stringRef RX4 q.1 q.2 ∈ lw_tbl := by decide +kernel
theorem law_cst : ∀ E ∈ xCast, Cond.castable E E ∈ lw_tbl := by decide +kernel
theorem law_dec : ∀ Y ∈ xChain, Cond.declares (Bundle.initS Y) ∈ lw_tbl := by decide +kernel
theorem law_x {s : State} {args : Array Value} (hts : ∀ w ∈ lw_tbl, w.before args s = true) (h1 : (Cond.isRef (.static Bundle.tN "UNASSIGNED_STACK" Bundle.steD)).before args s = true) (h2 : (Cond.isRef (.static Bundle.tN "SUPPRESSED_SENTINEL" Bundle.listD)).before args s = true) : ∃ sa : Nat → Nat, XB (fun q => s.heap.size ≤ q) sa s s.heap := by
  obtain ⟨c4, k4, hc4, -⟩ := Cond.instantiable_spec (hts (.instantiable RX4 7) (by decide +kernel))
  have key : ∀ q ∈ xStrs, ∃ a, vk_R RX4 q.1 q.2 a s := fun q hq => by
    have h := hts _ (law_str q hq)
    obtain ⟨k, cf, i, a, -, -, -, -, -, he⟩ := Cond.stringRef_spec hc4 h
    exact ⟨a, vk_R.of h he⟩
  refine ⟨fun i => @dite Nat (∃ a, (Term.string RX4 i).eval #[] s none [] s = some (.ref a)) (Classical.propDecidable _) (fun h => Classical.choose h) (fun _ => 0), vx_Zqof (hts (.laysStatic Bundle.tN "UNASSIGNED_STACK" Bundle.steD) (by decide +kernel)) (hts (.initialized Bundle.tN) (by decide +kernel)) h1 (fun a ha h => Nat.not_le_of_gt ha h), vx_Zqof (hts (.laysStatic Bundle.tN "SUPPRESSED_SENTINEL" Bundle.listD) (by decide +kernel)) (hts (.initialized Bundle.tN) (by decide +kernel)) h2 (fun a ha h => Nat.not_le_of_gt ha h), fun q hq => ?_, fun E hE => va_Nw.of rfl (hts _ (law_cst E hE)), fun Y hY => va_Nw.of rfl (hts _ (law_dec Y hY))⟩
  obtain ⟨a, g1, g2⟩ := key q hq
  refine ⟨g1, ?_⟩
  have h9 : ∃ a, (Term.string RX4 q.1).eval #[] s none [] s = some (.ref a) := ⟨a, g2⟩
  show (Term.string RX4 q.1).eval #[] s none [] s = some (.ref (@dite Nat (∃ a, (Term.string RX4 q.1).eval #[] s none [] s = some (.ref a)) (Classical.propDecidable _) (fun h => Classical.choose h) (fun _ => 0)))
  rw [dif_pos h9]
  exact Classical.choose_spec h9
theorem law_zn {s : State} {args : Array Value} (hts : ∀ w ∈ lw_tbl, w.before args s = true) : ZN s := ⟨va_AO.of (hts (.arrayOver (.object RX3)) (by decide +kernel)), va_Nw.of rfl (hts (.methodLinkNest RX0 17 yX3_init RX4) (by decide +kernel)), va_Nw.of rfl (hts (.methodLinkNest RX4 9 yX3_init RX4) (by decide +kernel)), va_Nw.of rfl (hts (.methodLinkNest RX4 36 yX1_init RX4) (by decide +kernel)), va_Nw.of rfl (hts (.methodLinkNest RX4 43 yX2_init RX4) (by decide +kernel))⟩
theorem whole_start {p : Program} {e : Env} {s : State} {m : MethodId} {below : List Frame} {meth : Method} {c : Code} (l : Launch) (hflags : l.flags = flags0) {b L : Nat} {xs : Nat → Int32} (hL : L ≤ 2048) (C0 : lw_At p s m meth c b L xs) : W p l e room_1 s m #[Value.ref b] below meth c s.heap [] 0 0 (lw_Z below #[Value.ref b] s) (entryFrame m ([Value.ref b] : List Value).toArray 7) := by
  obtain ⟨hexec, hcode, hret, hml, hown, hts, hXs, hbl, hlk, hgv⟩ := C0
  have hlt : l.stackTraces = false := by
    unfold Launch.stackTraces
    rw [hflags]
    decide +kernel
  have hfl := flat_of_before _ hgv
  obtain ⟨D, cT, hK⟩ := law_known hts
  obtain ⟨sa, hX⟩ := law_x hts (hfl _ (by decide +kernel)) (hfl _ (by decide +kernel))
  have n1 : va_Nc xIS xIA s := va_Nc.of (hfl (.not (.castable xIS xIA)) (by decide +kernel))
  have n2 : va_Nc xIA xIO s := va_Nc.of (hfl (.not (.castable xIA xIO)) (by decide +kernel))
  have n3 : va_Nc xIS xIO s := va_Nc.of (hfl (.not (.castable xIS xIO)) (by decide +kernel))
  have hN : NC s := fun q hq => by
    rcases List.mem_cons.mp hq with rfl | hq
    · exact n1
    · rcases List.mem_cons.mp hq with rfl | hq
      · exact n2
      · rcases List.mem_cons.mp hq with rfl | hq
        · exact n3
        · exact absurd hq List.not_mem_nil
  have C : CX p s m #[Value.ref b] c cL_law 7 RL wsL_law D cT (IW s D (fun q => s.heap.size ≤ q)) := ⟨⟨hexec, hcode, hml, hown, fun w hw => hts w (wsL_law_in w hw)⟩, hK, fun ws H locs h => h.1⟩
  have h := law_start (e := e) (below := below) sa hlt C hret hlk hX hN (law_zn hts) hXs hbl hL
  have hl := lv_entry [Value.ref b] (n := 7) (Nat.le_of_ble_eq_true rfl)
  have hlv : lv_args 0 [Value.ref b] = [(0, .ref b)] := rfl
  rw [hlv] at hl
  rw [lg_entry_eq]
  exact h s.heap [] _ ⟨fun k q hk => (by cases hk), ⟨fun i j p q hp => (by cases hp), fun k q hk => (by cases hk)⟩, va_S.rf⟩ hl
