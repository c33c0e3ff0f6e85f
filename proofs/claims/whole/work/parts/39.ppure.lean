/-! the class's own bounds -/
theorem wi_1 {v lo hi : Int32} (h : v < lo) : z (rg lo.toInt hi.toInt v) = nI 0 := z_f (fun q => absurd (Int32.le_iff_toInt_le.mpr (rg_iff.mp q).1) (Int32.not_le.mpr h))
theorem wi_2 {v lo hi : Int32} (h : hi < v) : z (rg lo.toInt hi.toInt v) = nI 0 := z_f (fun q => absurd (Int32.le_iff_toInt_le.mpr (rg_iff.mp q).2) (Int32.not_le.mpr h))
theorem wi_3 {v lo hi : Int32} (h : ¬ v < lo) (h2 : ¬ hi < v) : z (rg lo.toInt hi.toInt v) = nI 1 := z_t (rg_iff.mpr ⟨Int32.le_iff_toInt_le.mp (Int32.not_lt.mp h), Int32.le_iff_toInt_le.mp (Int32.not_lt.mp h2)⟩)
theorem many_2 {N : Nat} (h : N ≤ 1000) : (nI N - nI 1).toInt = (N : Int) - 1 := by
  rw [pk_sub_toInt (by omega) (by omega)]
  rfl
def mostR (q : Int32) : Int32 := if q = 0 then nI 999999 else if q = nI 1 then nI 20 else nI 1
theorem trait_k' {sg : Nat → Int32} {j k : Nat} (h7 : k ≤ 7) : traitF sg j (nI k) = sg (5 + 8 * j + k) := by
  rcases (show k = 0 ∨ k = 1 ∨ k = 2 ∨ k = 3 ∨ k = 4 ∨ k = 5 ∨ k = 6 ∨ k = 7 by omega) with rfl | rfl | rfl | rfl | rfl | rfl | rfl | rfl <;> rfl
theorem give_k {sg : Nat → Int32} {j k : Nat} {v : Int32} (h1 : 1 ≤ k) (h7 : k ≤ 7) : giveF sg j (nI k) v = upd sg (5 + 8 * j + k) v := by
  rcases (show k = 1 ∨ k = 2 ∨ k = 3 ∨ k = 4 ∨ k = 5 ∨ k = 6 ∨ k = 7 by omega) with rfl | rfl | rfl | rfl | rfl | rfl | rfl <;> rfl
theorem nI_s1 (n : Nat) : nI (n + 1) - nI 1 = nI n := by rw [← nI_add, Int32.add_sub_cancel]
theorem hrs_l {N q k : Nat} {a b : Nat → Int32} (hk : k < 5 + 8 * N) : hrsF N q (cpn (5 + 8 * N) a b) k = hrsF N q a k := hrs_c q _ _ agr_cp k hk
theorem first_l {N wh m n : Nat} {v : Int32} {a b : Nat → Int32} (hw : wh < 5 + 8 * N) : firstL N wh v m n (cpn (5 + 8 * N) a b) = firstL N wh v m n a := first_c hw m n _ _ agr_cp
theorem meet_l {N i k m n : Nat} {a b : Nat → Int32} (hi : i < N) (hk : k < N) : meetL N i k m n (cpn (5 + 8 * N) a b) = meetL N i k m n a := meet_c hi hk m n _ _ agr_cp
theorem rg_2 {q : Int32} (h : rg 0 2 q = true) (h0 : ¬ q = 0) (h1 : ¬ q = nI 1) : q = nI 2 := by
  have h := rg_iff.mp h
  have e0 : q.toInt ≠ 0 := ne_int h0
  have e1 : q.toInt ≠ 1 := ne_int h1
  exact Int32.toInt_inj.mp (by rw [nI_toInt (by decide)]; show q.toInt = 2; omega)
