/-! the class's own bounds -/
theorem wi_1 {v lo hi : Int32} (h : v < lo) : z (rg lo.toInt hi.toInt v) = nI 0 := z_f (fun q => absurd (Int32.le_iff_toInt_le.mpr (rg_iff.mp q).1) (Int32.not_le.mpr h))
theorem wi_2 {v lo hi : Int32} (h : hi < v) : z (rg lo.toInt hi.toInt v) = nI 0 := z_f (fun q => absurd (Int32.le_iff_toInt_le.mpr (rg_iff.mp q).2) (Int32.not_le.mpr h))
theorem wi_3 {v lo hi : Int32} (h : ¬ v < lo) (h2 : ¬ hi < v) : z (rg lo.toInt hi.toInt v) = nI 1 := z_t (rg_iff.mpr ⟨Int32.le_iff_toInt_le.mp (Int32.not_lt.mp h), Int32.le_iff_toInt_le.mp (Int32.not_lt.mp h2)⟩)
theorem many_2 {N : Nat} (h : N ≤ 1000) : (nI N - nI 1).toInt = (N : Int) - 1 := by
  rw [pk_sub_toInt (by omega) (by omega)]
  rfl
def mostR (q : Int32) : Int32 := if q = 0 then nI 999999 else if q = nI 1 then nI 20 else nI 1
