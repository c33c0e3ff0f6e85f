/-! ranges -/
theorem fund_le {p f : Int32} (hp : 0 ≤ p) (hf : 0 ≤ f) : 0 ≤ f - hTo p f ∧ f - hTo p f ≤ f := by
  have hp : (0 : Int) ≤ p.toInt := Int32.le_iff_toInt_le.mp hp
  have hf : (0 : Int) ≤ f.toInt := Int32.le_iff_toInt_le.mp hf
  have hm : f.toInt < 2 ^ 31 := Int32.toInt_lt f
  unfold hTo
  by_cases c : p ≤ f
  · rw [if_pos c]
    have c := Int32.le_iff_toInt_le.mp c
    have e : (f - p).toInt = f.toInt - p.toInt := by
      rw [Int32.toInt_sub]
      apply Int.bmod_eq_of_le <;> omega
    constructor
    · apply Int32.le_iff_toInt_le.mpr
      rw [e]
      show (0 : Int) ≤ _
      omega
    · apply Int32.le_iff_toInt_le.mpr
      rw [e]
      omega
  · rw [if_neg c, Int32.sub_self]
    exact ⟨Int32.le_refl _, Int32.le_iff_toInt_le.mpr hf⟩
theorem half_12 : ∀ w, w < 13 → nI w / nI 2 = nI (w / 2) := by decide
theorem pay_nn {s : Nat → Int32} {i w p r : Nat} (hw : s (5 + 8 * i + 5) = nI w) (hp : s 3 = nI p) (hr : s 4 = nI r) (h1 : w ≤ 12) (h2 : p ≤ 20) (h3 : r ≤ 1) : 0 ≤ payF s i := by
  have e : payP s i = nI (w * p + w * r) := by
    unfold payP
    rw [hw, hp, hr, ← nI_add, pk_mul, pk_mul]
  have hb : w * p + w * r ≤ 252 := by
    have a := Nat.mul_le_mul h1 h2
    have b := Nat.mul_le_mul h1 h3
    omega
  unfold payF
  rw [e, hw, half_12 w (by omega)]
  generalize w * p + w * r = k at hb
  rw [nI_add, nI_add, pk_mul]
  repeat' split
  all_goals exact pos_le (by omega)
