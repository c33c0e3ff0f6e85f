/-! the law's start: what is known, what is made -/
theorem nestW_in : ∀ w ∈ nestW, w ∈ lw_tbl := by decide +kernel
theorem law_K {s : State} {args : Array Value} (hts : ∀ w ∈ lw_tbl, w.before args s = true) : ∃ (D : va_G) (cy : Nat → ClassId), nK D cy s := by
  obtain ⟨c0, i0, k0⟩ := u_known (C := RX0) (T := TX0) (N := 6) (n := 6) hts inX0 (hts (.instantiable RX0 6) (wsL_in_1 _ (by decide +kernel)))
  obtain ⟨c1, i1, k1⟩ := u_known (C := RX1) (T := TX1) (N := 3) (n := 3) hts inX1 (hts (.instantiable RX1 3) (wsL_in_2 _ (by decide +kernel)))
  obtain ⟨c2, i2, k2⟩ := u_known (C := RX2) (T := TX2) (N := 6) (n := 6) hts inX2 (hts (.instantiable RX2 6) (wsL_in_1 _ (by decide +kernel)))
  obtain ⟨c3, i3, k3⟩ := u_known (C := RX3) (T := TX3) (N := 8) (n := 8) hts inX3 (hts (.instantiable RX3 8) (wsL_in_2 _ (by decide +kernel)))
  obtain ⟨c4, i4, k4⟩ := u_known (C := RX4) (T := TX4) (N := 7) (n := 7) hts inX4 (hts (.instantiable RX4 7) (wsL_in_1 _ (by decide +kernel)))
  obtain ⟨c5, i5, k5⟩ := u_known (C := RX5) (T := TX5) (N := 16) (n := 16) hts inX5 (hts (.instantiable RX5 16) (wsL_in_1 _ (by decide +kernel)))
  obtain ⟨aI, kI, mI, fI, gI, hI⟩ := Cond.arrayClass_spec (hts (.arrayClass .int) (wsL_in_2 _ (by decide +kernel)))
  obtain ⟨aJ, kJ, mJ, fJ, gJ, hJ⟩ := Cond.arrayClass_spec (hts (.arrayClass .long) (wsL_in_3 _ (by decide +kernel)))
  obtain ⟨aB, kB, mB, fB, gB, hB⟩ := Cond.arrayClass_spec (hts (.arrayClass .byte) (wsL_in_3 _ (by decide +kernel)))
  have oW : (Cond.arrayOver (.object RX3)).before args s = true := hts (.arrayOver (.object RX3)) (by decide +kernel)
  have oS : (Cond.arrayOver (.object RX1)).before args s = true := hts (.arrayOver (.object RX1)) (by decide +kernel)
  obtain ⟨mW, aW, kW, fW, -, gW, hW, eW⟩ := Cond.arrayOver_spec oW
  obtain ⟨mS, aS, kS, fS, -, gS, hS, eS⟩ := Cond.arrayOver_spec oS
  refine ⟨(fun k => if k = 0 then c0 else if k = 1 then c1 else if k = 2 then c2 else if k = 3 then c3 else if k = 4 then c4 else c5, fun k => if k = 0 then i0 else if k = 1 then i1 else if k = 2 then i2 else if k = 3 then i3 else if k = 4 then i4 else i5), fun k => if k = 0 then aI else if k = 1 then aJ else if k = 2 then aW else if k = 3 then aB else aS, ⟨fun k q hq => ?_, fun k q hq => ?_⟩, fun w hw => ?_, va_AO.of oW, va_AO.of oS⟩
  · match k, hq with
    | 0, hq => cases hq; exact k0
    | 1, hq => cases hq; exact k1
    | 2, hq => cases hq; exact k2
    | 3, hq => cases hq; exact k3
    | 4, hq => cases hq; exact k4
    | 5, hq => cases hq; exact k5
    | k + 6, hq => simp [vwCl] at hq
  · match k, hq with
    | 0, hq => cases hq; exact ⟨fun n z => ⟨fun k h => (by cases h), kI, gI, mI, hI⟩, fI⟩
    | 1, hq => cases hq; exact ⟨fun n z => ⟨fun k h => (by cases h), kJ, gJ, mJ, hJ⟩, fJ⟩
    | 2, hq => cases hq; exact ⟨fun n z => ⟨fun k h => (by cases h), kW, gW, mW, hW⟩, kW, mW, gW, hW, fW, eW⟩
    | 3, hq => cases hq; exact ⟨fun n z => ⟨fun k h => (by cases h), kB, gB, mB, hB⟩, fB⟩
    | 4, hq => cases hq; exact ⟨fun n z => ⟨fun k h => (by cases h), kS, gS, mS, hS⟩, kS, mS, gS, hS, fS, eS⟩
    | k + 5, hq => simp [ctys] at hq
  · have h1 := hts w (nestW_in w hw)
    rcases nestW_warm w hw with ⟨a, i, b, n, d, h9, rfl⟩ | ⟨a, i, x, h9, rfl⟩
    · exact va_Nw.of rfl h1
    · exact va_Nw.of rfl h1
def tgM (i : Nat) : Term := Term.string RX2 (tgX.getD i 0)
def lwF : List Cond := flatC (Jvm.Cond.and given_1 narrow_1)
theorem tg_ex : ∀ i, i < 13 → Cond.exactly (tgM i) "java/lang/String" ∈ lwF := by decide +kernel
theorem tg_co : ∀ i, i < 13 → Cond.eq (.field (tgM i) "java/lang/String" "coder" "B") (.int 0) ∈ lwF := by decide +kernel
theorem tg_ar : ∀ i, i < 13 → Cond.arrayOf (.field (tgM i) "java/lang/String" "value" "[B") .byte ∈ lwF := by decide +kernel
theorem tg_le : ∀ i, i < 13 → Cond.eq (.length (.field (tgM i) "java/lang/String" "value" "[B")) (.int (Int32.ofNat (tgL.getD i 0))) ∈ lwF := by decide +kernel
theorem tg_el : ∀ i, i < 13 → ∀ j, j < tgL.getD i 0 → Cond.eq (.elem (.field (tgM i) "java/lang/String" "value" "[B") (.int (Int32.ofNat j))) (.int ((tgB.getD i []).getD j 0)) ∈ lwF := by decide +kernel
def tgTb : List (Nat × Nat × Nat) := [(1, 2, 40), (1, 3, 49), (2, 3, 50), (1, 4, 60), (2, 4, 61), (3, 4, 62), (1, 5, 74), (2, 5, 75), (3, 5, 76), (4, 5, 77), (1, 0, 88), (2, 0, 89), (3, 0, 90), (4, 0, 91), (5, 0, 92), (1, 6, 99), (2, 6, 100), (3, 6, 101), (4, 6, 102), (5, 6, 103), (0, 6, 104), (1, 7, 113), (2, 7, 114), (3, 7, 115), (4, 7, 116), (5, 7, 117), (0, 7, 118), (6, 7, 119), (1, 8, 130), (2, 8, 131), (3, 8, 132), (4, 8, 133), (5, 8, 134), (0, 8, 135), (6, 8, 136), (7, 8, 137), (1, 9, 146), (2, 9, 147), (3, 9, 148), (4, 9, 149), (5, 9, 150), (0, 9, 151), (6, 9, 152), (7, 9, 153), (8, 9, 154), (1, 10, 164), (2, 10, 165), (3, 10, 166), (4, 10, 167), (5, 10, 168), (0, 10, 169), (6, 10, 170), (7, 10, 171), (8, 10, 172), (9, 10, 173), (1, 11, 182), (2, 11, 183), (3, 11, 184), (4, 11, 185), (5, 11, 186), (0, 11, 187), (6, 11, 188), (7, 11, 189), (8, 11, 190), (9, 11, 191), (10, 11, 192), (1, 12, 200), (2, 12, 201), (3, 12, 202), (4, 12, 203), (5, 12, 204), (0, 12, 205), (6, 12, 206), (7, 12, 207), (8, 12, 208), (9, 12, 209), (10, 12, 210), (11, 12, 211)]
theorem tg_tb : ∀ t ∈ tgTb, lwF[t.2.2]? = some (Cond.not (Cond.eq (tgM t.1) (tgM t.2.1))) := by decide +kernel
theorem tg_any : ∀ i, i < 13 → ∀ j, j < 13 → i ≠ j → (tgTb.any (fun t => decide (t.1 = i) && decide (t.2.1 = j)) = true ∨ tgTb.any (fun t => decide (t.1 = j) && decide (t.2.1 = i)) = true) := by decide +kernel
theorem tg_mem {i j : Nat} (h : tgTb.any (fun t => decide (t.1 = i) && decide (t.2.1 = j)) = true) : Cond.not (Cond.eq (tgM i) (tgM j)) ∈ lwF := by
  obtain ⟨t, ht, h2⟩ := List.any_eq_true.mp h
  rw [Bool.and_eq_true, decide_eq_true_eq, decide_eq_true_eq] at h2
  have h3 := tg_tb t ht
  rw [h2.1, h2.2] at h3
  exact List.mem_of_getElem? h3
theorem tg_ne (i : Nat) (hi : i < 13) (j : Nat) (hj : j < 13) (hij : i ≠ j) : (Cond.not (Cond.eq (tgM i) (tgM j)) ∈ lwF ∨ Cond.not (Cond.eq (tgM j) (tgM i)) ∈ lwF) := by
  rcases tg_any i hi j hj hij with h | h
  · exact Or.inl (tg_mem h)
  · exact Or.inr (tg_mem h)
theorem tg_sr : ∀ i, i < 13 → Cond.stringRef RX2 (tgX.getD i 0) (tgT.getD i "") ∈ lw_tbl := by decide +kernel
theorem tg_n : ∀ i, i < 13 → tgL.getD i 0 < 2 ^ 31 := by decide +kernel
theorem law_T {s : State} {args : Array Value} (hts : ∀ w ∈ lw_tbl, w.before args s = true) (hgv : (Jvm.Cond.and given_1 narrow_1).before args s = true) : ∃ kq vq : Nat → Nat, tG (fun q => s.heap.size ≤ q) kq vq s := by
  have hs : ∀ w ∈ lwF, w.before args s = true := flat_of_before _ hgv
  have hA : ∀ a : Nat, a < s.heap.size → ¬ (fun q => s.heap.size ≤ q) a := fun a h => Nat.not_le.mpr h
  obtain ⟨kq, vq, h1, h2⟩ := vk_Sof (args := args) (s := s) (N := 13) (tm := tgM) (len := tgL) (byt := tgB) (A := fun q => s.heap.size ≤ q) tg_n (fun i hi => hs _ (tg_ex i hi)) (fun i hi => hs _ (tg_co i hi)) (fun i hi => hs _ (tg_ar i hi)) (fun i hi => hs _ (tg_le i hi)) (fun i hi j hj => hs _ (tg_el i hi j hj)) (fun i j hi hj hij => by
    rcases tg_ne i hi j hj hij with h | h
    · exact Or.inl (hs _ h)
    · exact Or.inr (hs _ h)) hA
  refine ⟨kq, vq, h1, ?_, ?_, fun i hi => vk_R.of (hts _ (tg_sr i hi)) (h2 i hi)⟩
  · exact va_Zof (hts (.laysStatic "java/lang/String" "COMPACT_STRINGS" "Z") (by decide +kernel)) (hts (.initialized "java/lang/String") (by decide +kernel)) (va_eqi (hs (Cond.eq (.static "java/lang/String" "COMPACT_STRINGS" "Z") (.int 1)) (by decide +kernel))) hA
  · exact va_Zqof (hts (.laysStatic "jdk/internal/util/Preconditions" "SIOOBE_FORMATTER" "Ljava/util/function/BiFunction;") (by decide +kernel)) (hts (.initialized "jdk/internal/util/Preconditions") (by decide +kernel)) (hs (Cond.isRef (.static "jdk/internal/util/Preconditions" "SIOOBE_FORMATTER" "Ljava/util/function/BiFunction;")) (by decide +kernel)) hA
