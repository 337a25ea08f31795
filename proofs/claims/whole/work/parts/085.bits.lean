/-! counting bits, as the library does it, over 16 bits -/
theorem mw {L : List Cond} {w : Cond} (i : Nat) (h : L[i]? = some w) : w ∈ L := List.mem_of_getElem? h
def sumTo (f : Nat → Nat) : Nat → Nat
  | 0 => 0
  | k + 1 => sumTo f k + f k
def pcTo (n : Nat) : Nat → Nat := sumTo (fun k => (n.testBit k).toNat)
abbrev pcn (n : Nat) : Nat := pcTo n 16
def bk1 (x : Nat) : Nat := x - (x / 2 ^ 1 &&& 1431655765)
def bk2 (x : Nat) : Nat := (x &&& 858993459) + (x / 2 ^ 2 &&& 858993459)
def bk3 (x : Nat) : Nat := x + x / 2 ^ 4 &&& 252645135
def bk4 (x : Nat) : Nat := x + x / 2 ^ 8
def bk5 (x : Nat) : Nat := x + x / 2 ^ 16
abbrev bkf (x : Nat) : Nat := bk5 (bk4 (bk3 (bk2 (bk1 x)))) &&& 63
theorem bc_0 : ∀ u, u < 32 → ∀ v, v < 32 → bkf ((0 * 32 + u) * 32 + v) = pcn ((0 * 32 + u) * 32 + v) := by decide +kernel
theorem bc_1 : ∀ u, u < 32 → ∀ v, v < 32 → bkf ((1 * 32 + u) * 32 + v) = pcn ((1 * 32 + u) * 32 + v) := by decide +kernel
theorem bc_2 : ∀ u, u < 32 → ∀ v, v < 32 → bkf ((2 * 32 + u) * 32 + v) = pcn ((2 * 32 + u) * 32 + v) := by decide +kernel
theorem bc_3 : ∀ u, u < 32 → ∀ v, v < 32 → bkf ((3 * 32 + u) * 32 + v) = pcn ((3 * 32 + u) * 32 + v) := by decide +kernel
theorem bc_4 : ∀ u, u < 32 → ∀ v, v < 32 → bkf ((4 * 32 + u) * 32 + v) = pcn ((4 * 32 + u) * 32 + v) := by decide +kernel
theorem bc_5 : ∀ u, u < 32 → ∀ v, v < 32 → bkf ((5 * 32 + u) * 32 + v) = pcn ((5 * 32 + u) * 32 + v) := by decide +kernel
theorem bc_6 : ∀ u, u < 32 → ∀ v, v < 32 → bkf ((6 * 32 + u) * 32 + v) = pcn ((6 * 32 + u) * 32 + v) := by decide +kernel
theorem bc_7 : ∀ u, u < 32 → ∀ v, v < 32 → bkf ((7 * 32 + u) * 32 + v) = pcn ((7 * 32 + u) * 32 + v) := by decide +kernel
theorem bc_8 : ∀ u, u < 32 → ∀ v, v < 32 → bkf ((8 * 32 + u) * 32 + v) = pcn ((8 * 32 + u) * 32 + v) := by decide +kernel
theorem bc_9 : ∀ u, u < 32 → ∀ v, v < 32 → bkf ((9 * 32 + u) * 32 + v) = pcn ((9 * 32 + u) * 32 + v) := by decide +kernel
theorem bc_10 : ∀ u, u < 32 → ∀ v, v < 32 → bkf ((10 * 32 + u) * 32 + v) = pcn ((10 * 32 + u) * 32 + v) := by decide +kernel
theorem bc_11 : ∀ u, u < 32 → ∀ v, v < 32 → bkf ((11 * 32 + u) * 32 + v) = pcn ((11 * 32 + u) * 32 + v) := by decide +kernel
theorem bc_12 : ∀ u, u < 32 → ∀ v, v < 32 → bkf ((12 * 32 + u) * 32 + v) = pcn ((12 * 32 + u) * 32 + v) := by decide +kernel
theorem bc_13 : ∀ u, u < 32 → ∀ v, v < 32 → bkf ((13 * 32 + u) * 32 + v) = pcn ((13 * 32 + u) * 32 + v) := by decide +kernel
theorem bc_14 : ∀ u, u < 32 → ∀ v, v < 32 → bkf ((14 * 32 + u) * 32 + v) = pcn ((14 * 32 + u) * 32 + v) := by decide +kernel
theorem bc_15 : ∀ u, u < 32 → ∀ v, v < 32 → bkf ((15 * 32 + u) * 32 + v) = pcn ((15 * 32 + u) * 32 + v) := by decide +kernel
theorem bc_16 : ∀ u, u < 32 → ∀ v, v < 32 → bkf ((16 * 32 + u) * 32 + v) = pcn ((16 * 32 + u) * 32 + v) := by decide +kernel
theorem bc_17 : ∀ u, u < 32 → ∀ v, v < 32 → bkf ((17 * 32 + u) * 32 + v) = pcn ((17 * 32 + u) * 32 + v) := by decide +kernel
theorem bc_18 : ∀ u, u < 32 → ∀ v, v < 32 → bkf ((18 * 32 + u) * 32 + v) = pcn ((18 * 32 + u) * 32 + v) := by decide +kernel
theorem bc_19 : ∀ u, u < 32 → ∀ v, v < 32 → bkf ((19 * 32 + u) * 32 + v) = pcn ((19 * 32 + u) * 32 + v) := by decide +kernel
theorem bc_20 : ∀ u, u < 32 → ∀ v, v < 32 → bkf ((20 * 32 + u) * 32 + v) = pcn ((20 * 32 + u) * 32 + v) := by decide +kernel
theorem bc_21 : ∀ u, u < 32 → ∀ v, v < 32 → bkf ((21 * 32 + u) * 32 + v) = pcn ((21 * 32 + u) * 32 + v) := by decide +kernel
theorem bc_22 : ∀ u, u < 32 → ∀ v, v < 32 → bkf ((22 * 32 + u) * 32 + v) = pcn ((22 * 32 + u) * 32 + v) := by decide +kernel
theorem bc_23 : ∀ u, u < 32 → ∀ v, v < 32 → bkf ((23 * 32 + u) * 32 + v) = pcn ((23 * 32 + u) * 32 + v) := by decide +kernel
theorem bc_24 : ∀ u, u < 32 → ∀ v, v < 32 → bkf ((24 * 32 + u) * 32 + v) = pcn ((24 * 32 + u) * 32 + v) := by decide +kernel
theorem bc_25 : ∀ u, u < 32 → ∀ v, v < 32 → bkf ((25 * 32 + u) * 32 + v) = pcn ((25 * 32 + u) * 32 + v) := by decide +kernel
theorem bc_26 : ∀ u, u < 32 → ∀ v, v < 32 → bkf ((26 * 32 + u) * 32 + v) = pcn ((26 * 32 + u) * 32 + v) := by decide +kernel
theorem bc_27 : ∀ u, u < 32 → ∀ v, v < 32 → bkf ((27 * 32 + u) * 32 + v) = pcn ((27 * 32 + u) * 32 + v) := by decide +kernel
theorem bc_28 : ∀ u, u < 32 → ∀ v, v < 32 → bkf ((28 * 32 + u) * 32 + v) = pcn ((28 * 32 + u) * 32 + v) := by decide +kernel
theorem bc_29 : ∀ u, u < 32 → ∀ v, v < 32 → bkf ((29 * 32 + u) * 32 + v) = pcn ((29 * 32 + u) * 32 + v) := by decide +kernel
theorem bc_30 : ∀ u, u < 32 → ∀ v, v < 32 → bkf ((30 * 32 + u) * 32 + v) = pcn ((30 * 32 + u) * 32 + v) := by decide +kernel
theorem bc_31 : ∀ u, u < 32 → ∀ v, v < 32 → bkf ((31 * 32 + u) * 32 + v) = pcn ((31 * 32 + u) * 32 + v) := by decide +kernel
theorem bc_32 : ∀ u, u < 32 → ∀ v, v < 32 → bkf ((32 * 32 + u) * 32 + v) = pcn ((32 * 32 + u) * 32 + v) := by decide +kernel
theorem bc_33 : ∀ u, u < 32 → ∀ v, v < 32 → bkf ((33 * 32 + u) * 32 + v) = pcn ((33 * 32 + u) * 32 + v) := by decide +kernel
theorem bc_34 : ∀ u, u < 32 → ∀ v, v < 32 → bkf ((34 * 32 + u) * 32 + v) = pcn ((34 * 32 + u) * 32 + v) := by decide +kernel
theorem bc_35 : ∀ u, u < 32 → ∀ v, v < 32 → bkf ((35 * 32 + u) * 32 + v) = pcn ((35 * 32 + u) * 32 + v) := by decide +kernel
theorem bc_36 : ∀ u, u < 32 → ∀ v, v < 32 → bkf ((36 * 32 + u) * 32 + v) = pcn ((36 * 32 + u) * 32 + v) := by decide +kernel
theorem bc_37 : ∀ u, u < 32 → ∀ v, v < 32 → bkf ((37 * 32 + u) * 32 + v) = pcn ((37 * 32 + u) * 32 + v) := by decide +kernel
theorem bc_38 : ∀ u, u < 32 → ∀ v, v < 32 → bkf ((38 * 32 + u) * 32 + v) = pcn ((38 * 32 + u) * 32 + v) := by decide +kernel
theorem bc_39 : ∀ u, u < 32 → ∀ v, v < 32 → bkf ((39 * 32 + u) * 32 + v) = pcn ((39 * 32 + u) * 32 + v) := by decide +kernel
theorem bc_40 : ∀ u, u < 32 → ∀ v, v < 32 → bkf ((40 * 32 + u) * 32 + v) = pcn ((40 * 32 + u) * 32 + v) := by decide +kernel
theorem bc_41 : ∀ u, u < 32 → ∀ v, v < 32 → bkf ((41 * 32 + u) * 32 + v) = pcn ((41 * 32 + u) * 32 + v) := by decide +kernel
theorem bc_42 : ∀ u, u < 32 → ∀ v, v < 32 → bkf ((42 * 32 + u) * 32 + v) = pcn ((42 * 32 + u) * 32 + v) := by decide +kernel
theorem bc_43 : ∀ u, u < 32 → ∀ v, v < 32 → bkf ((43 * 32 + u) * 32 + v) = pcn ((43 * 32 + u) * 32 + v) := by decide +kernel
theorem bc_44 : ∀ u, u < 32 → ∀ v, v < 32 → bkf ((44 * 32 + u) * 32 + v) = pcn ((44 * 32 + u) * 32 + v) := by decide +kernel
theorem bc_45 : ∀ u, u < 32 → ∀ v, v < 32 → bkf ((45 * 32 + u) * 32 + v) = pcn ((45 * 32 + u) * 32 + v) := by decide +kernel
theorem bc_46 : ∀ u, u < 32 → ∀ v, v < 32 → bkf ((46 * 32 + u) * 32 + v) = pcn ((46 * 32 + u) * 32 + v) := by decide +kernel
theorem bc_47 : ∀ u, u < 32 → ∀ v, v < 32 → bkf ((47 * 32 + u) * 32 + v) = pcn ((47 * 32 + u) * 32 + v) := by decide +kernel
theorem bc_48 : ∀ u, u < 32 → ∀ v, v < 32 → bkf ((48 * 32 + u) * 32 + v) = pcn ((48 * 32 + u) * 32 + v) := by decide +kernel
theorem bc_49 : ∀ u, u < 32 → ∀ v, v < 32 → bkf ((49 * 32 + u) * 32 + v) = pcn ((49 * 32 + u) * 32 + v) := by decide +kernel
theorem bc_50 : ∀ u, u < 32 → ∀ v, v < 32 → bkf ((50 * 32 + u) * 32 + v) = pcn ((50 * 32 + u) * 32 + v) := by decide +kernel
theorem bc_51 : ∀ u, u < 32 → ∀ v, v < 32 → bkf ((51 * 32 + u) * 32 + v) = pcn ((51 * 32 + u) * 32 + v) := by decide +kernel
theorem bc_52 : ∀ u, u < 32 → ∀ v, v < 32 → bkf ((52 * 32 + u) * 32 + v) = pcn ((52 * 32 + u) * 32 + v) := by decide +kernel
theorem bc_53 : ∀ u, u < 32 → ∀ v, v < 32 → bkf ((53 * 32 + u) * 32 + v) = pcn ((53 * 32 + u) * 32 + v) := by decide +kernel
theorem bc_54 : ∀ u, u < 32 → ∀ v, v < 32 → bkf ((54 * 32 + u) * 32 + v) = pcn ((54 * 32 + u) * 32 + v) := by decide +kernel
theorem bc_55 : ∀ u, u < 32 → ∀ v, v < 32 → bkf ((55 * 32 + u) * 32 + v) = pcn ((55 * 32 + u) * 32 + v) := by decide +kernel
theorem bc_56 : ∀ u, u < 32 → ∀ v, v < 32 → bkf ((56 * 32 + u) * 32 + v) = pcn ((56 * 32 + u) * 32 + v) := by decide +kernel
theorem bc_57 : ∀ u, u < 32 → ∀ v, v < 32 → bkf ((57 * 32 + u) * 32 + v) = pcn ((57 * 32 + u) * 32 + v) := by decide +kernel
theorem bc_58 : ∀ u, u < 32 → ∀ v, v < 32 → bkf ((58 * 32 + u) * 32 + v) = pcn ((58 * 32 + u) * 32 + v) := by decide +kernel
theorem bc_59 : ∀ u, u < 32 → ∀ v, v < 32 → bkf ((59 * 32 + u) * 32 + v) = pcn ((59 * 32 + u) * 32 + v) := by decide +kernel
theorem bc_60 : ∀ u, u < 32 → ∀ v, v < 32 → bkf ((60 * 32 + u) * 32 + v) = pcn ((60 * 32 + u) * 32 + v) := by decide +kernel
theorem bc_61 : ∀ u, u < 32 → ∀ v, v < 32 → bkf ((61 * 32 + u) * 32 + v) = pcn ((61 * 32 + u) * 32 + v) := by decide +kernel
theorem bc_62 : ∀ u, u < 32 → ∀ v, v < 32 → bkf ((62 * 32 + u) * 32 + v) = pcn ((62 * 32 + u) * 32 + v) := by decide +kernel
theorem bc_63 : ∀ u, u < 32 → ∀ v, v < 32 → bkf ((63 * 32 + u) * 32 + v) = pcn ((63 * 32 + u) * 32 + v) := by decide +kernel
theorem bc_all : ∀ k, k < 64 → ∀ u, u < 32 → ∀ v, v < 32 → bkf ((k * 32 + u) * 32 + v) = pcn ((k * 32 + u) * 32 + v) := fun k hk => match k, hk with
  | 0, _ => bc_0
  | 1, _ => bc_1
  | 2, _ => bc_2
  | 3, _ => bc_3
  | 4, _ => bc_4
  | 5, _ => bc_5
  | 6, _ => bc_6
  | 7, _ => bc_7
  | 8, _ => bc_8
  | 9, _ => bc_9
  | 10, _ => bc_10
  | 11, _ => bc_11
  | 12, _ => bc_12
  | 13, _ => bc_13
  | 14, _ => bc_14
  | 15, _ => bc_15
  | 16, _ => bc_16
  | 17, _ => bc_17
  | 18, _ => bc_18
  | 19, _ => bc_19
  | 20, _ => bc_20
  | 21, _ => bc_21
  | 22, _ => bc_22
  | 23, _ => bc_23
  | 24, _ => bc_24
  | 25, _ => bc_25
  | 26, _ => bc_26
  | 27, _ => bc_27
  | 28, _ => bc_28
  | 29, _ => bc_29
  | 30, _ => bc_30
  | 31, _ => bc_31
  | 32, _ => bc_32
  | 33, _ => bc_33
  | 34, _ => bc_34
  | 35, _ => bc_35
  | 36, _ => bc_36
  | 37, _ => bc_37
  | 38, _ => bc_38
  | 39, _ => bc_39
  | 40, _ => bc_40
  | 41, _ => bc_41
  | 42, _ => bc_42
  | 43, _ => bc_43
  | 44, _ => bc_44
  | 45, _ => bc_45
  | 46, _ => bc_46
  | 47, _ => bc_47
  | 48, _ => bc_48
  | 49, _ => bc_49
  | 50, _ => bc_50
  | 51, _ => bc_51
  | 52, _ => bc_52
  | 53, _ => bc_53
  | 54, _ => bc_54
  | 55, _ => bc_55
  | 56, _ => bc_56
  | 57, _ => bc_57
  | 58, _ => bc_58
  | 59, _ => bc_59
  | 60, _ => bc_60
  | 61, _ => bc_61
  | 62, _ => bc_62
  | 63, _ => bc_63
  | k + 64, h => absurd h (by omega)
theorem bc_ok (x : Nat) (h : x < 65536) : nI (bk5 (bk4 (bk3 (bk2 (bk1 x)))) &&& 63) = nI (pcn x) := by
  have := bc_all (x / 1024) (by omega) (x / 32 % 32) (by omega) (x % 32) (by omega)
  rw [show (x / 1024 * 32 + x / 32 % 32) * 32 + x % 32 = x by omega] at this
  exact congrArg nI this
