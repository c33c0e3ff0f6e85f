/-! the class's own bounds -/
theorem wi_1 {v lo hi : Int32} (h : v < lo) : z (rg lo.toInt hi.toInt v) = nI 0 := z_f (fun q => absurd (Int32.le_iff_toInt_le.mpr (rg_iff.mp q).1) (Int32.not_le.mpr h))
theorem wi_2 {v lo hi : Int32} (h : hi < v) : z (rg lo.toInt hi.toInt v) = nI 0 := z_f (fun q => absurd (Int32.le_iff_toInt_le.mpr (rg_iff.mp q).2) (Int32.not_le.mpr h))
theorem wi_3 {v lo hi : Int32} (h : ¬ v < lo) (h2 : ¬ hi < v) : z (rg lo.toInt hi.toInt v) = nI 1 := z_t (rg_iff.mpr ⟨Int32.le_iff_toInt_le.mp (Int32.not_lt.mp h), Int32.le_iff_toInt_le.mp (Int32.not_lt.mp h2)⟩)
theorem many_2 {N : Nat} (h : N ≤ 1000) : (nI N - nI 1).toInt = (N : Int) - 1 := by
  rw [pk_sub_toInt (by omega) (by omega)]
  rfl
def mostR (q : Int32) : Int32 := if q = 0 then nI 999999 else if q = nI 1 then nI 20 else nI 1
theorem trait_k' {sg : Nat → Int32} {j k : Nat} (h7 : k ≤ 7) : traitF sg j (nI k) = sg (5 + 8 * j + k) := by
  rcases (show k = 0 ∨ k = 1 ∨ k = 2 ∨ k = 3 ∨ k = 4 ∨ k = 5 ∨ k = 6 ∨ k = 7 by omega) with rfl | rfl | rfl | rfl | rfl | rfl | rfl | rfl <;> rfl
theorem give_k {sg : Nat → Int32} {j k : Nat} {v : Int32} (h1 : 1 ≤ k) (h7 : k ≤ 7) : giveF sg j (nI k) v = upd sg (5 + 8 * j + k) v := by
  rcases (show k = 1 ∨ k = 2 ∨ k = 3 ∨ k = 4 ∨ k = 5 ∨ k = 6 ∨ k = 7 by omega) with rfl | rfl | rfl | rfl | rfl | rfl | rfl <;> rfl
theorem nI_s1 (n : Nat) : nI (n + 1) - nI 1 = nI n := by rw [← nI_add, Int32.add_sub_cancel]
theorem hrs_l {N q k : Nat} {a b : Nat → Int32} (hk : k < 5 + 8 * N) : hrsF N q (cpn (5 + 8 * N) a b) k = hrsF N q a k := hrs_c q _ _ agr_cp k hk
theorem first_l {N wh m n : Nat} {v : Int32} {a b : Nat → Int32} (hw : wh < 5 + 8 * N) : firstL N wh v m n (cpn (5 + 8 * N) a b) = firstL N wh v m n a := first_c hw m n _ _ agr_cp
theorem meet_l {N i k m n : Nat} {a b : Nat → Int32} (hi : i < N) (hk : k < N) : meetL N i k m n (cpn (5 + 8 * N) a b) = meetL N i k m n a := meet_c hi hk m n _ _ agr_cp
theorem rg_2 {q : Int32} (h : rg 0 2 q = true) (h0 : ¬ q = 0) (h1 : ¬ q = nI 1) : q = nI 2 := by
  have h := rg_iff.mp h
  have e0 : q.toInt ≠ 0 := ne_int h0
  have e1 : q.toInt ≠ 1 := ne_int h1
  exact Int32.toInt_inj.mp (by rw [nI_toInt (by decide)]; show q.toInt = 2; omega)
theorem hrsu_l {N q k w : Nat} {x : Int32} {a b : Nat → Int32} (hk : k < 5 + 8 * N) : hrsF N q (upd (cpn (5 + 8 * N) a b) w x) k = hrsF N q (upd a w x) k := hrs_c q _ _ (agr_cp.up rfl) k hk
theorem upd_sw {f : Nat → Int32} {w w' : Nat} {x y : Int32} (h : w ≠ w') : upd (upd f w x) w' y = upd (upd f w' y) w x := by
  funext j
  unfold upd
  by_cases c : j = w
  · rw [if_neg (by omega), if_pos c, if_pos c]
  · rw [if_neg c, if_neg c]
theorem hrsv_l {N q k w w' : Nat} {x y : Int32} {a b : Nat → Int32} (hk : k < 5 + 8 * N) (hw : w ≠ w') : hrsF N q (upd (upd (cpn (5 + 8 * N) a b) w x) w' y) k = hrsF N q (upd (upd a w' y) w x) k := by
  rw [← upd_sw hw]
  exact hrs_c q _ _ ((agr_cp.up rfl).up rfl) k hk
theorem rich_l {N q : Nat} {a b : Nat → Int32} : richL (hrsF N q (cpn (5 + 8 * N) a b)) N 0 0 = richL (hrsF N q a) N 0 0 := rich_c (hrs_c q _ _ agr_cp) N 0 0 (by omega) (by omega)
theorem rich_1 {N n : Nat} {a : Nat → Int32} (h : 1 + n = N) : richL a N 0 0 = richL a n 1 1 := by
  subst h
  rw [Nat.add_comm 1 n]
  rfl
theorem st_ix {q : Int32} (h : rg (-1) 6 q = true) (h0 : ¬ q < 0) : ∃ i : Nat, i ≤ 6 ∧ q = nI i := by
  have h := rg_iff.mp h
  have h0 := Int32.le_iff_toInt_le.mp (Int32.not_lt.mp h0)
  have h0 : 0 ≤ q.toInt := h0
  refine ⟨q.toInt.toNat, by omega, ?_⟩
  apply Int32.toInt_inj.mp
  rw [nI_toInt (by omega)]
  omega
theorem z_add (a : Int32) : nI 0 + a = a := by show 0 + a = a; exact Int32.zero_add a
theorem add_z (a : Int32) : a + nI 0 = a := by show a + 0 = a; exact Int32.add_zero a
theorem stat_i {f : Nat → Int32} {i : Nat} (h : i ≤ 6) : statL f (nI i) 7 0 (nI 0) = f i := by
  have hn : ¬ nI i < 0 := nI_pos (by omega)
  rcases (show i = 0 ∨ i = 1 ∨ i = 2 ∨ i = 3 ∨ i = 4 ∨ i = 5 ∨ i = 6 by omega) with rfl | rfl | rfl | rfl | rfl | rfl | rfl <;>
    (simp only [statL, if_neg hn]; simp (decide := true) only [if_true, if_false, reduceIte, z_add, add_z])
theorem pos_le {n : Nat} (h : n < 2 ^ 31) : (0 : Int32) ≤ nI n := Int32.not_lt.mp (nI_pos h)
theorem or_if2 {c : Prop} [Decidable c] {a b : Int32} : (if c then a ||| b else a) = a ||| (if c then b else nI 0) := by
  by_cases h : c
  · rw [if_pos h, if_pos h]
  · rw [if_neg h, if_neg h, or_0]
/-! sheets of the class -/
def zrS (f : Nat → Int64) (j : Nat) : Nat → Int64 := fun k => if k < j then 0 else f k
theorem zrS_0 {sw : Nat → Nat → Int64} {i : Nat} : va_up sw i (zrS (sw i) 0) = sw := by
  funext a k
  unfold va_up zrS
  by_cases h : a = i
  · rw [if_pos h, if_neg (by omega), h]
  · rw [if_neg h]
theorem zrS_s {sw : Nat → Nat → Int64} {i j : Nat} : va_up (va_up sw i (zrS (sw i) j)) i (vp_updL ((va_up sw i (zrS (sw i) j)) i) j 0) = va_up sw i (zrS (sw i) (j + 1)) := by
  funext a k
  unfold va_up vp_updL zrS
  by_cases h : a = i
  · rw [if_pos h, if_pos h, if_pos rfl]
    by_cases h2 : k = j
    · rw [if_pos h2, if_pos (by omega)]
    · rw [if_neg h2]
      by_cases h3 : k < j
      · rw [if_pos h3, if_pos (by omega)]
      · rw [if_neg h3, if_neg (by omega)]
  · rw [if_neg h, if_neg h, if_neg h]
def hpP (x b n : Int32) : Bool := !decide (b < 0) && (!decide (n < 0) && (!decide (x < n) && !decide (x - n < b)))
theorem rgsn {o : Int32} {z : Nat} (hz : z ≤ 40) (h : rg 0 ((nI z) - (nI 1)).toInt o = true) : ∃ j : Nat, j < z ∧ o = nI j := by
  rw [many_2 (by omega)] at h
  have h := rg_iff.mp h
  refine ⟨o.toInt.toNat, by omega, ?_⟩
  apply Int32.toInt_inj.mp
  rw [nI_toInt (by omega)]
  omega
