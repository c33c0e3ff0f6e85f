/-! ranges -/
theorem fund_le {p f : Int32} (hp : 0 ≤ p) (hf : 0 ≤ f) : 0 ≤ f - hTo p f ∧ f - hTo p f ≤ f := by
  have hp : (0 : Int) ≤ p.toInt := Int32.le_iff_toInt_le.mp hp
  have hf : (0 : Int) ≤ f.toInt := Int32.le_iff_toInt_le.mp hf
  have hm : f.toInt < 2 ^ 31 := Int32.toInt_lt f
  unfold hTo
  by_cases c : p ≤ f
  · rw [if_pos c]
    have c := Int32.le_iff_toInt_le.mp c
    have e : (f - p).toInt = f.toInt - p.toInt := by
      rw [Int32.toInt_sub]
      apply Int.bmod_eq_of_le <;> omega
    constructor
    · apply Int32.le_iff_toInt_le.mpr
      rw [e]
      show (0 : Int) ≤ _
      omega
    · apply Int32.le_iff_toInt_le.mpr
      rw [e]
      omega
  · rw [if_neg c, Int32.sub_self]
    exact ⟨Int32.le_refl _, Int32.le_iff_toInt_le.mpr hf⟩
