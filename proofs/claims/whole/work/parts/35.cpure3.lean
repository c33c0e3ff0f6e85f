/-! who is at one's mile: the set and the count -/
def thN (sg : Nat → Int32) (q : Int32) : Nat → Nat → Nat → Nat
  | 0, _, a => a
  | n + 1, j, a => thN sg q n (j + 1) (if sg (5 + 8 * j + 1) = q then a + 2 ^ j else a)
theorem shl_nI : ∀ j, j < 9 → nI 1 <<< (nI j &&& 31) = nI (2 ^ j) := by decide
theorem nI_or (a b : Nat) : nI a ||| nI b = nI (a ||| b) := by
  apply Int32.toBitVec_inj.mp
  show BitVec.ofNat 32 a ||| BitVec.ofNat 32 b = BitVec.ofNat 32 (a ||| b)
  exact BitVec.ofNat_or.symm
theorem or_pow {a j : Nat} (h : a < 2 ^ j) : a ||| 2 ^ j = a + 2 ^ j := by
  have := Nat.two_pow_add_eq_or_of_lt h 1
  rw [Nat.mul_one] at this
  rw [Nat.or_comm, ← this, Nat.add_comm]
theorem those_nI {sg : Nat → Int32} {q : Int32} : ∀ (n j a : Nat), a < 2 ^ j → j + n ≤ 8 → thoseL sg q n j (nI a) = nI (thN sg q n j a) ∧ thN sg q n j a < 2 ^ (j + n)
  | 0, j, a, h, _ => ⟨rfl, h⟩
  | n + 1, j, a, h, h8 => by
    have h2 : 2 ^ (j + 1) = 2 ^ j + 2 ^ j := by rw [Nat.pow_succ]; omega
    have key : (nI a ||| (if sg (5 + 8 * j + 1) = q then nI 1 <<< (nI j &&& 31) else nI 0)) = nI (if sg (5 + 8 * j + 1) = q then a + 2 ^ j else a) := by
      by_cases c : sg (5 + 8 * j + 1) = q
      · rw [if_pos c, if_pos c, shl_nI j (by omega), nI_or, or_pow h]
      · rw [if_neg c, if_neg c, or_0]
    show thoseL sg q n (j + 1) (nI a ||| _) = nI (thN sg q n (j + 1) _) ∧ thN sg q n (j + 1) _ < 2 ^ (j + (n + 1))
    rw [key]
    have := those_nI (sg := sg) (q := q) n (j + 1) (if sg (5 + 8 * j + 1) = q then a + 2 ^ j else a) (by split <;> omega) (by omega)
    rw [show j + (n + 1) = j + 1 + n by omega]
    exact this
theorem comp_A {sg : Nat → Int32} {q : Int32} : ∀ (n j a c : Nat), a ≤ thN sg q n j a ∧ c ≤ compL sg q n j c ∧ (thN sg q n j a = a ↔ compL sg q n j c = c)
  | 0, _, _, _ => ⟨Nat.le_refl _, Nat.le_refl _, ⟨fun _ => rfl, fun _ => rfl⟩⟩
  | n + 1, j, a, c => by
    unfold thN compL
    have hp : 0 < 2 ^ j := Nat.pow_pos (by decide)
    by_cases h : sg (5 + 8 * j + 1) = q
    · rw [if_pos h, if_pos h]
      have := comp_A (sg := sg) (q := q) n (j + 1) (a + 2 ^ j) (c + 1)
      omega
    · rw [if_neg h, if_neg h]
      exact comp_A n (j + 1) a c
theorem comp_B {sg : Nat → Int32} {q : Int32} {i : Nat} (hi : sg (5 + 8 * i + 1) = q) : ∀ (n j a c : Nat), j ≤ i → i < j + n → a + 2 ^ i ≤ thN sg q n j a ∧ c + 1 ≤ compL sg q n j c ∧ (thN sg q n j a = a + 2 ^ i ↔ compL sg q n j c = c + 1)
  | 0, j, _, _, h1, h2 => by omega
  | n + 1, j, a, c, h1, h2 => by
    unfold thN compL
    have hp : 0 < 2 ^ j := Nat.pow_pos (by decide)
    by_cases e : j = i
    · subst e
      rw [if_pos hi, if_pos hi]
      exact comp_A n (j + 1) (a + 2 ^ j) (c + 1)
    · by_cases h : sg (5 + 8 * j + 1) = q
      · rw [if_pos h, if_pos h]
        have := comp_B hi n (j + 1) (a + 2 ^ j) (c + 1) (by omega) (by omega)
        omega
      · rw [if_neg h, if_neg h]
        exact comp_B hi n (j + 1) a c (by omega) (by omega)
theorem comp_those {sg : Nat → Int32} {N i : Nat} (hi : i < N) (h8 : N ≤ 8) : (thoseL sg (sg (5 + 8 * i + 1)) N 0 (nI 0) = nI 1 <<< (nI i &&& 31)) ↔ ¬ 1 < compL sg (sg (5 + 8 * i + 1)) N 0 0 := by
  have h1 := those_nI (sg := sg) (q := sg (5 + 8 * i + 1)) N 0 0 (by decide) (by omega)
  have h2 := comp_B (sg := sg) (i := i) rfl N 0 0 0 (by omega) (by omega)
  have p1 : 2 ^ (0 + N) ≤ 2 ^ 8 := Nat.pow_le_pow_right (by decide) (by omega)
  have p2 : 2 ^ i ≤ 2 ^ 8 := Nat.pow_le_pow_right (by decide) (by omega)
  rw [h1.1, shl_nI i (by omega), nI_eq (by omega) (by omega)]
  omega
