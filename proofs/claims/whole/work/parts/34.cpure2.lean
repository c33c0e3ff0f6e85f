/-! more words of the class's road -/
theorem joinF_eq {sg : Nat → Int32} {N : Nat} {kd ml : Int32} : addF sg N kd ml = upd (startF sg N kd ml) 0 (nI (N + 1)) := by
  funext k
  unfold addF startF
  unfold upd zrn
  by_cases h0 : k = 0
  · rw [if_pos h0, if_pos h0]
  · rw [if_neg h0, if_neg h0]
    by_cases h1 : k < 5 + 8 * N ∨ 5 + 8 * N + 8 ≤ k
    · simp only [show ¬ k = 5 + 8 * N + 0 by omega, show ¬ k = 5 + 8 * N + 1 by omega, show ¬ k = 5 + 8 * N + 2 by omega, show ¬ k = 5 + 8 * N + 3 by omega, show ¬ k = 5 + 8 * N + 4 by omega, show ¬ k = 5 + 8 * N + 5 by omega, show ¬ k = 5 + 8 * N + 6 by omega, show ¬ k = 5 + 8 * N + 7 by omega, show ¬ (5 + 8 * N ≤ k ∧ k < 5 + 8 * N + 8) by omega, if_false]
    · rcases (show k = 5 + 8 * N + 0 ∨ k = 5 + 8 * N + 1 ∨ k = 5 + 8 * N + 2 ∨ k = 5 + 8 * N + 3 ∨ k = 5 + 8 * N + 4 ∨ k = 5 + 8 * N + 5 ∨ k = 5 + 8 * N + 6 ∨ k = 5 + 8 * N + 7 by omega) with rfl | rfl | rfl | rfl | rfl | rfl | rfl | rfl <;> simp
theorem trait_k {sg : Nat → Int32} {j k : Nat} (h1 : 1 ≤ k) (h7 : k ≤ 7) : traitF sg j (nI k) = sg (5 + 8 * j + k) := by
  rcases (show k = 1 ∨ k = 2 ∨ k = 3 ∨ k = 4 ∨ k = 5 ∨ k = 6 ∨ k = 7 by omega) with rfl | rfl | rfl | rfl | rfl | rfl | rfl <;> rfl
theorem or_0 (a : Int32) : a ||| nI 0 = a := by
  show a ||| 0 = a
  exact Int32.or_zero
theorem or_if {c : Prop} [Decidable c] {a b : Int32} : (if c then a else a ||| b) = a ||| (if c then nI 0 else b) := by
  by_cases h : c
  · rw [if_pos h, if_pos h, or_0]
  · rw [if_neg h, if_neg h]
theorem take_0 {sg o : Nat → Int32} : upd (upd (upd (upd (upd sg 1 (o 1)) 2 (o 2)) 3 (o 3)) 4 (o 4)) 0 (o 0) = cpn (5 + 8 * 0) o sg := by
  funext k
  unfold upd cpn
  by_cases h : k < 5 + 8 * 0
  · rw [if_pos h]
    rcases (show k = 0 ∨ k = 1 ∨ k = 2 ∨ k = 3 ∨ k = 4 by omega) with rfl | rfl | rfl | rfl | rfl <;> rfl
  · rw [if_neg h, if_neg (by omega), if_neg (by omega), if_neg (by omega), if_neg (by omega), if_neg (by omega)]
theorem take_s {sg o : Nat → Int32} {j : Nat} : likeF (cpn (5 + 8 * j) o sg) o j = cpn (5 + 8 * (j + 1)) o sg := by
  funext k
  unfold likeF
  unfold upd cpn
  by_cases h1 : k < 5 + 8 * j ∨ 5 + 8 * j + 8 ≤ k
  · simp only [show ¬ k = 5 + 8 * j + 0 by omega, show ¬ k = 5 + 8 * j + 1 by omega, show ¬ k = 5 + 8 * j + 2 by omega, show ¬ k = 5 + 8 * j + 3 by omega, show ¬ k = 5 + 8 * j + 4 by omega, show ¬ k = 5 + 8 * j + 5 by omega, show ¬ k = 5 + 8 * j + 6 by omega, show ¬ k = 5 + 8 * j + 7 by omega, if_false]
    by_cases h2 : k < 5 + 8 * j
    · rw [if_pos h2, if_pos (by omega)]
    · rw [if_neg h2, if_neg (by omega)]
  · rcases (show k = 5 + 8 * j + 0 ∨ k = 5 + 8 * j + 1 ∨ k = 5 + 8 * j + 2 ∨ k = 5 + 8 * j + 3 ∨ k = 5 + 8 * j + 4 ∨ k = 5 + 8 * j + 5 ∨ k = 5 + 8 * j + 6 ∨ k = 5 + 8 * j + 7 by omega) with rfl | rfl | rfl | rfl | rfl | rfl | rfl | rfl <;> rw [if_pos (show _ < 5 + 8 * (j + 1) by omega)] <;> simp
theorem cpn_0' {j : Nat} {o sg : Nat → Int32} : cpn (5 + 8 * j) o sg 0 = o 0 := if_pos (by omega)
