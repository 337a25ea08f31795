/-! plain numbers: bits, sums, the boards of a set of outputs -/
theorem sumTo_congr {f g : Nat → Nat} : ∀ {n : Nat}, (∀ k, k < n → f k = g k) → sumTo f n = sumTo g n
  | 0, _ => rfl
  | n + 1, h => by
    show sumTo f n + f n = sumTo g n + g n
    rw [sumTo_congr (fun k hk => h k (Nat.lt_succ_of_lt hk)), h n (Nat.lt_succ_self n)]
theorem sumTo_le {f : Nat → Nat} {b : Nat} : ∀ {n : Nat}, (∀ k, k < n → f k ≤ b) → sumTo f n ≤ n * b
  | 0, _ => Nat.zero_le _
  | n + 1, h => by
    have h1 := sumTo_le (n := n) (fun k hk => h k (Nat.lt_succ_of_lt hk))
    have h2 := h n (Nat.lt_succ_self n)
    show sumTo f n + f n ≤ (n + 1) * b
    rw [Nat.succ_mul]; omega
theorem pcTo_le (n k : Nat) : pcTo n k ≤ k := by
  have := sumTo_le (f := fun k => (n.testBit k).toNat) (b := 1) (n := k) (fun j _ => by cases n.testBit j <;> decide)
  unfold pcTo; omega
/-- the boards (of so many places each) at which a set of places has some, as bits -/
def lbTo (wid o : Nat) : Nat → Nat
  | 0 => 0
  | y + 1 => if o.testBit y = true then lbTo wid o y ||| 2 ^ (y / wid) else lbTo wid o y
abbrev lbs (wid o : Nat) : Nat := lbTo wid o 16
theorem lt_2pow16_or {a b : Nat} (ha : a < 65536) (hb : b < 65536) : a ||| b < 65536 := Nat.or_lt_two_pow (n := 16) ha hb
theorem p2_lt {k : Nat} (h : k < 16) : 2 ^ k < 65536 := Nat.pow_lt_pow_right (by decide) h
theorem lbTo_lt (wid o : Nat) : ∀ y, y ≤ 16 → lbTo wid o y < 65536
  | 0, _ => by show 0 < 65536; decide
  | y + 1, h => by
    have h1 := lbTo_lt wid o y (by omega)
    have h2 : y / wid < 16 := Nat.lt_of_le_of_lt (Nat.div_le_self _ _) (by omega)
    unfold lbTo; split
    · exact lt_2pow16_or h1 (p2_lt h2)
    · exact h1
theorem lbTo_bit (wid o i : Nat) : ∀ y, (lbTo wid o y).testBit i = true ↔ ∃ k, k < y ∧ o.testBit k = true ∧ k / wid = i
  | 0 => by simp [lbTo]
  | y + 1 => by
    have ih := lbTo_bit wid o i y
    unfold lbTo
    by_cases hb : o.testBit y = true
    · rw [if_pos hb, Nat.testBit_or, Bool.or_eq_true, ih, Nat.testBit_two_pow]
      constructor
      · rintro (⟨k, h1, h2, h3⟩ | h)
        · exact ⟨k, by omega, h2, h3⟩
        · exact ⟨y, by omega, hb, by simpa using h⟩
      · rintro ⟨k, h1, h2, h3⟩
        by_cases hk : k = y
        · subst hk; right; simpa using h3
        · left; exact ⟨k, by omega, h2, h3⟩
    · rw [if_neg hb, ih]
      constructor
      · rintro ⟨k, h1, h2, h3⟩; exact ⟨k, by omega, h2, h3⟩
      · rintro ⟨k, h1, h2, h3⟩
        have : k ≠ y := fun e => hb (e ▸ h2)
        exact ⟨k, by omega, h2, h3⟩
/-- what always holds of the numbers of a board's state -/
def SB (fst wid mid las pat bro cnt : Nat) (inp outs brd : Nat → Nat) : Prop :=
  (1 ≤ fst ∧ fst ≤ 4) ∧ (1 ≤ wid ∧ wid ≤ 4) ∧ (1 ≤ mid ∧ mid ≤ 4) ∧ (1 ≤ las ∧ las ≤ 4) ∧ pat ≤ 3 ∧ bro < 16 ∧ cnt ≤ 16 ∧ fst * wid ≤ 16 ∧ las * wid ≤ 16 ∧ ∀ c, c < 16 → inp c < 16 ∧ outs c < 65536 ∧ brd c < 4
theorem m1_nI : (-1 : Int32) = nI 4294967295 := by decide
theorem nI_m1 {n : Nat} (h : n < 2147483648) : ¬ nI n = -1 := by
  intro e
  have h1 := nI_pos' (n := n) (by omega)
  rw [e] at h1
  exact absurd h1 (by decide)
theorem m1_lt0 : (-1 : Int32) < 0 := by decide
theorem bool_lt {b : Bool} : b.toNat < 2147483648 := by cases b <;> decide
theorem bool_0 {b : Bool} : b.toNat = 0 ↔ b = false := by cases b <;> decide
theorem bool_1 {b : Bool} : 0 < b.toNat ↔ b = true := by cases b <;> decide
theorem p2_lt31 {k : Nat} (h : k < 31) : 2 ^ k < 4294967296 := Nat.lt_trans (Nat.pow_lt_pow_right (by decide) h) (by decide)
def anyTo (p : Nat → Bool) : Nat → Bool
  | 0 => false
  | k + 1 => anyTo p k || p k
theorem anyTo_iff {p : Nat → Bool} : ∀ {n : Nat}, anyTo p n = true ↔ ∃ k, k < n ∧ p k = true
  | 0 => by simp [anyTo]
  | n + 1 => by
    show (anyTo p n || p n) = true ↔ _
    rw [Bool.or_eq_true, anyTo_iff (n := n)]
    constructor
    · rintro (⟨k, h1, h2⟩ | h)
      · exact ⟨k, by omega, h2⟩
      · exact ⟨n, by omega, h⟩
    · rintro ⟨k, h1, h2⟩
      by_cases e : k = n
      · subst e; exact Or.inr h2
      · exact Or.inl ⟨k, by omega, h2⟩
theorem any_no {P : Nat → Prop} [DecidablePred P] {n : Nat} (h : ∀ k, k < n → ¬ P k) : ¬ anyTo (fun c => decide (P c)) n = true := by
  rw [anyTo_iff]; rintro ⟨k, h1, h2⟩; exact h k h1 (by simpa using h2)
theorem any_yes {P : Nat → Prop} [DecidablePred P] {n k : Nat} (h : k < n) (h2 : P k) : anyTo (fun c => decide (P c)) n = true := anyTo_iff.mpr ⟨k, h, by simpa using h2⟩
theorem any_noB {p : Nat → Bool} {n : Nat} (h : ∀ k, k < n → ¬ p k = true) : ¬ anyTo p n = true := by
  rw [anyTo_iff]; rintro ⟨k, h1, h2⟩; exact h k h1 h2
theorem any_yesB {p : Nat → Bool} {n k : Nat} (h : k < n) (h2 : p k = true) : anyTo p n = true := anyTo_iff.mpr ⟨k, h, h2⟩
theorem mul_lt16 {n w i b : Nat} (h : n * w ≤ 16) (hi : i < w) (hb : b < n) : b * w + i < 16 := by
  have : (b + 1) * w ≤ n * w := Nat.mul_le_mul_right w hb
  rw [Nat.succ_mul] at this; omega
theorem bk1_le (x : Nat) : bk1 x ≤ x := Nat.sub_le _ _
theorem bk2_le (x : Nat) : bk2 x ≤ 1717986918 := Nat.add_le_add (a := _) (b := 858993459) (c := _) (d := 858993459) Nat.and_le_right Nat.and_le_right
theorem bk3_le (x : Nat) : bk3 x ≤ 252645135 := Nat.and_le_right
theorem bk4_le (x : Nat) : bk4 (bk3 x) ≤ 505290270 := by
  have h := bk3_le x
  have h2 := Nat.div_le_self (bk3 x) (2 ^ 8)
  unfold bk4; omega
theorem bk_sub (x : Nat) : (x / 2 ^ 1 &&& 1431655765) ≤ x := Nat.le_trans Nat.and_le_left (Nat.div_le_self _ _)
