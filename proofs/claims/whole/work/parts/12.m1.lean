set_option maxHeartbeats 4000000 in
set_option maxRecDepth 100000 in
theorem c_X5_in {l : Launch} {v : Int64} {lo : Int64} {hi : Int64} : Met l yX5_in wsX5_in (rmz 0 0) (sPre [.long (v), .long (lo), .long (hi)]) (sPost (some (.int (z (inL v lo hi))))) 0 0 (fun _ => False) := by
  refine sq_entry rfl rfl (Nat.le_of_ble_eq_true rfl) ?_
  intro p e s0 m args below meth c S hr hlocks ls hl
  have S : CallFix p m c cX5_in 6 s0 args wsX5_in RX5 := S
  obtain ⟨hx, hb, hml, hown, hts⟩ := id S
  have hl : lv_has ls 6 [(0, .long (v)), (2, .long (lo)), (4, .long (hi))] := hl
  generalize hQ : MQ below (sPost (some (.int (z (inL v lo hi))))) args s0 0 0 (fun _ => False) = Q
  refine lv_lload_n hx hb dX5_in_0 rfl (lv_at hl 0 rfl) ?_
  refine lv_lload_n hx hb dX5_in_1 rfl (lv_at hl 1 rfl) ?_
  refine W.lcmp hx hb dX5_in_2 ?_
  refine lv_if_lt (tgt := 17) hx hb dX5_in_3 (by decide) (fun c_3 => ?_) (fun c_3 => ?_)
  · skip
    rw [lg_cmp_lt] at c_3
    refine lv_iconst (v := nI 0) hx hb dX5_in_17 (by decide) ?_
    subst hQ
    exact sq_rz hx hb hr hlocks dX5_in_18 (by subst_vars; first | (left; rfl) | (right; rfl) | (split <;> simp)) (by first | exact rvI (inL_1 c_3) | exact rvI (inL_2 c_10) | exact rvI (inL_3 c_3 c_10))
  · skip
    rw [lg_cmp_lt] at c_3
    refine lv_lload_n hx hb dX5_in_6 rfl (lv_at hl 0 rfl) ?_
    refine lv_lload hx hb dX5_in_7 (lv_at hl 2 rfl) ?_
    refine W.lcmp hx hb dX5_in_9 ?_
    refine lv_if_gt (tgt := 17) hx hb dX5_in_10 (by decide) (fun c_10 => ?_) (fun c_10 => ?_)
    · skip
      rw [lg_cmp_gt] at c_10
      refine lv_iconst (v := nI 0) hx hb dX5_in_17 (by decide) ?_
      subst hQ
      exact sq_rz hx hb hr hlocks dX5_in_18 (by subst_vars; first | (left; rfl) | (right; rfl) | (split <;> simp)) (by first | exact rvI (inL_1 c_3) | exact rvI (inL_2 c_10) | exact rvI (inL_3 c_3 c_10))
    · skip
      rw [lg_cmp_gt] at c_10
      refine lv_iconst (v := nI 1) hx hb dX5_in_13 (by decide) ?_
      refine lv_goto (tgt := 18) hx hb dX5_in_14 (by decide) ?_
      subst hQ
      exact sq_rz hx hb hr hlocks dX5_in_18 (by subst_vars; first | (left; rfl) | (right; rfl) | (split <;> simp)) (by first | exact rvI (inL_1 c_3) | exact rvI (inL_2 c_10) | exact rvI (inL_3 c_3 c_10))
theorem i_X5_in : ciOk yX5_in cX5_in 6 (some .boolean) wsX5_in 3 := ⟨⟨_, rfl⟩, by decide +kernel⟩
theorem c_X5_inY {l : Launch} {q : Int32} {lo h : Int64} : Met l yX5_in wsX5_in (rmz 0 0) (sPre [.long (q.toInt64), .long lo, .long h]) (sPost (some (.int (z (rg lo.toInt h.toInt q))))) 0 0 (fun _ => False) := by
  have c := c_X5_in (l := l) (v := q.toInt64) (lo := lo) (hi := h)
  rw [z_iff (inL_rg (q := q) (lo := lo) (hi := h))] at c
  exact c
set_option maxHeartbeats 4000000 in
set_option maxRecDepth 100000 in
theorem c_X5_isMile {l : Launch} {q : Int32} : Met l yX5_isMile wsX5_isMile (rmz 1 25) (sPre [.int (q)]) (sPost (some (.int (z (rg 0 12 q))))) 0 0 (fun _ => False) := by
  refine sq_entry rfl rfl (Nat.le_of_ble_eq_true rfl) ?_
  intro p e s0 m args below meth c S hr hlocks ls hl
  have S : CallFix p m c cX5_isMile 1 s0 args wsX5_isMile RX5 := S
  obtain ⟨hx, hb, hml, hown, hts⟩ := id S
  have hl : lv_has ls 1 [(0, .int (q))] := hl
  generalize hQ : MQ below (sPost (some (.int (z (rg 0 12 q))))) args s0 0 0 (fun _ => False) = Q
  refine lv_iload_n hx hb dX5_isMile_0 rfl (lv_at hl 0 rfl) ?_
  refine lv_i2l (v := (q).toInt64) hx hb dX5_isMile_1 rfl ?_
  refine lv_lconst (v := 0) hx hb dX5_isMile_2 (by decide) ?_
  refine lv_ldc2 (v := 12) hx hb hown (hts (.constantLong RX5 42 (12)) (by decide +kernel)) dX5_isMile_3 ?_
  refine sq_S S (c_X5_inY) gX5_isMile_X5_in i_X5_in ⟨Nat.le_of_ble_eq_true rfl, Nat.le_of_ble_eq_true rfl⟩ rfl hl.1 (As := [.long ((q).toInt64), .long (0), .long (12)]) (rest := []) (st1 := [.int (z (rg 0 12 (q)))]) rfl rfl (Nat.le_of_ble_eq_true rfl) ⟨Nat.le_of_ble_eq_true rfl, Nat.le_of_ble_eq_true rfl⟩ dX5_isMile_6 ?_
  subst hQ
  exact sq_rz hx hb hr hlocks dX5_isMile_9 z_01 (by first | rfl | (subst_vars; first | rfl | (simp only [and_true, true_and, false_and, and_false, and_self, not_true_eq_false, not_false_eq_true, if_true, if_false, reduceIte, or_false, false_or, true_or, or_true]; done)))
theorem i_X5_isMile : ciOk yX5_isMile cX5_isMile 1 (some .boolean) wsX5_isMile 1 := ⟨⟨_, rfl⟩, by decide +kernel⟩
set_option maxHeartbeats 4000000 in
set_option maxRecDepth 100000 in
theorem c_X5_isKind {l : Launch} {q : Int32} : Met l yX5_isKind wsX5_isKind (rmz 1 25) (sPre [.int (q)]) (sPost (some (.int (z (rg 0 5 q))))) 0 0 (fun _ => False) := by
  refine sq_entry rfl rfl (Nat.le_of_ble_eq_true rfl) ?_
  intro p e s0 m args below meth c S hr hlocks ls hl
  have S : CallFix p m c cX5_isKind 1 s0 args wsX5_isKind RX5 := S
  obtain ⟨hx, hb, hml, hown, hts⟩ := id S
  have hl : lv_has ls 1 [(0, .int (q))] := hl
  generalize hQ : MQ below (sPost (some (.int (z (rg 0 5 q))))) args s0 0 0 (fun _ => False) = Q
  refine lv_iload_n hx hb dX5_isKind_0 rfl (lv_at hl 0 rfl) ?_
  refine lv_i2l (v := (q).toInt64) hx hb dX5_isKind_1 rfl ?_
  refine lv_lconst (v := 0) hx hb dX5_isKind_2 (by decide) ?_
  refine lv_ldc2 (v := 5) hx hb hown (hts (.constantLong RX5 52 (5)) (by decide +kernel)) dX5_isKind_3 ?_
  refine sq_S S (c_X5_inY) gX5_isKind_X5_in i_X5_in ⟨Nat.le_of_ble_eq_true rfl, Nat.le_of_ble_eq_true rfl⟩ rfl hl.1 (As := [.long ((q).toInt64), .long (0), .long (5)]) (rest := []) (st1 := [.int (z (rg 0 5 (q)))]) rfl rfl (Nat.le_of_ble_eq_true rfl) ⟨Nat.le_of_ble_eq_true rfl, Nat.le_of_ble_eq_true rfl⟩ dX5_isKind_6 ?_
  subst hQ
  exact sq_rz hx hb hr hlocks dX5_isKind_9 z_01 (by first | rfl | (subst_vars; first | rfl | (simp only [and_true, true_and, false_and, and_false, and_self, not_true_eq_false, not_false_eq_true, if_true, if_false, reduceIte, or_false, false_or, true_or, or_true]; done)))
theorem i_X5_isKind : ciOk yX5_isKind cX5_isKind 1 (some .boolean) wsX5_isKind 1 := ⟨⟨_, rfl⟩, by decide +kernel⟩
set_option maxHeartbeats 4000000 in
set_option maxRecDepth 100000 in
theorem c_X5_isFar {l : Launch} {q : Int32} : Met l yX5_isFar wsX5_isFar (rmz 1 25) (sPre [.int (q)]) (sPost (some (.int (z (rg 1 100 q))))) 0 0 (fun _ => False) := by
  refine sq_entry rfl rfl (Nat.le_of_ble_eq_true rfl) ?_
  intro p e s0 m args below meth c S hr hlocks ls hl
  have S : CallFix p m c cX5_isFar 1 s0 args wsX5_isFar RX5 := S
  obtain ⟨hx, hb, hml, hown, hts⟩ := id S
  have hl : lv_has ls 1 [(0, .int (q))] := hl
  generalize hQ : MQ below (sPost (some (.int (z (rg 1 100 q))))) args s0 0 0 (fun _ => False) = Q
  refine lv_iload_n hx hb dX5_isFar_0 rfl (lv_at hl 0 rfl) ?_
  refine lv_i2l (v := (q).toInt64) hx hb dX5_isFar_1 rfl ?_
  refine lv_lconst (v := 1) hx hb dX5_isFar_2 (by decide) ?_
  refine lv_ldc2 (v := 100) hx hb hown (hts (.constantLong RX5 156 (100)) (by decide +kernel)) dX5_isFar_3 ?_
  refine sq_S S (c_X5_inY) gX5_isFar_X5_in i_X5_in ⟨Nat.le_of_ble_eq_true rfl, Nat.le_of_ble_eq_true rfl⟩ rfl hl.1 (As := [.long ((q).toInt64), .long (1), .long (100)]) (rest := []) (st1 := [.int (z (rg 1 100 (q)))]) rfl rfl (Nat.le_of_ble_eq_true rfl) ⟨Nat.le_of_ble_eq_true rfl, Nat.le_of_ble_eq_true rfl⟩ dX5_isFar_6 ?_
  subst hQ
  exact sq_rz hx hb hr hlocks dX5_isFar_9 z_01 (by first | rfl | (subst_vars; first | rfl | (simp only [and_true, true_and, false_and, and_false, and_self, not_true_eq_false, not_false_eq_true, if_true, if_false, reduceIte, or_false, false_or, true_or, or_true]; done)))
theorem i_X5_isFar : ciOk yX5_isFar cX5_isFar 1 (some .boolean) wsX5_isFar 1 := ⟨⟨_, rfl⟩, by decide +kernel⟩
set_option maxHeartbeats 4000000 in
set_option maxRecDepth 100000 in
theorem c_X5_isOne {l : Launch} {q : Int32} : Met l yX5_isOne wsX5_isOne (rmz 1 25) (sPre [.int (q)]) (sPost (some (.int (z (rg 0 3 q))))) 0 0 (fun _ => False) := by
  refine sq_entry rfl rfl (Nat.le_of_ble_eq_true rfl) ?_
  intro p e s0 m args below meth c S hr hlocks ls hl
  have S : CallFix p m c cX5_isOne 1 s0 args wsX5_isOne RX5 := S
  obtain ⟨hx, hb, hml, hown, hts⟩ := id S
  have hl : lv_has ls 1 [(0, .int (q))] := hl
  generalize hQ : MQ below (sPost (some (.int (z (rg 0 3 q))))) args s0 0 0 (fun _ => False) = Q
  refine lv_iload_n hx hb dX5_isOne_0 rfl (lv_at hl 0 rfl) ?_
  refine lv_i2l (v := (q).toInt64) hx hb dX5_isOne_1 rfl ?_
  refine lv_lconst (v := 0) hx hb dX5_isOne_2 (by decide) ?_
  refine lv_ldc2 (v := 3) hx hb hown (hts (.constantLong RX5 266 (3)) (by decide +kernel)) dX5_isOne_3 ?_
  refine sq_S S (c_X5_inY) gX5_isOne_X5_in i_X5_in ⟨Nat.le_of_ble_eq_true rfl, Nat.le_of_ble_eq_true rfl⟩ rfl hl.1 (As := [.long ((q).toInt64), .long (0), .long (3)]) (rest := []) (st1 := [.int (z (rg 0 3 (q)))]) rfl rfl (Nat.le_of_ble_eq_true rfl) ⟨Nat.le_of_ble_eq_true rfl, Nat.le_of_ble_eq_true rfl⟩ dX5_isOne_6 ?_
  subst hQ
  exact sq_rz hx hb hr hlocks dX5_isOne_9 z_01 (by first | rfl | (subst_vars; first | rfl | (simp only [and_true, true_and, false_and, and_false, and_self, not_true_eq_false, not_false_eq_true, if_true, if_false, reduceIte, or_false, false_or, true_or, or_true]; done)))
theorem i_X5_isOne : ciOk yX5_isOne cX5_isOne 1 (some .boolean) wsX5_isOne 1 := ⟨⟨_, rfl⟩, by decide +kernel⟩
set_option maxHeartbeats 4000000 in
set_option maxRecDepth 100000 in
theorem c_X5_isLetter {l : Launch} {q : Int32} : Met l yX5_isLetter wsX5_isLetter (rmz 1 25) (sPre [.int (q)]) (sPost (some (.int (z (rg 97 122 q))))) 0 0 (fun _ => False) := by
  refine sq_entry rfl rfl (Nat.le_of_ble_eq_true rfl) ?_
  intro p e s0 m args below meth c S hr hlocks ls hl
  have S : CallFix p m c cX5_isLetter 1 s0 args wsX5_isLetter RX5 := S
  obtain ⟨hx, hb, hml, hown, hts⟩ := id S
  have hl : lv_has ls 1 [(0, .int (q))] := hl
  generalize hQ : MQ below (sPost (some (.int (z (rg 97 122 q))))) args s0 0 0 (fun _ => False) = Q
  refine lv_iload_n hx hb dX5_isLetter_0 rfl (lv_at hl 0 rfl) ?_
  refine lv_i2l (v := (q).toInt64) hx hb dX5_isLetter_1 rfl ?_
  refine lv_ldc2 (v := 97) hx hb hown (hts (.constantLong RX5 171 (97)) (by decide +kernel)) dX5_isLetter_2 ?_
  refine lv_ldc2 (v := 122) hx hb hown (hts (.constantLong RX5 173 (122)) (by decide +kernel)) dX5_isLetter_5 ?_
  refine sq_S S (c_X5_inY) gX5_isLetter_X5_in i_X5_in ⟨Nat.le_of_ble_eq_true rfl, Nat.le_of_ble_eq_true rfl⟩ rfl hl.1 (As := [.long ((q).toInt64), .long (97), .long (122)]) (rest := []) (st1 := [.int (z (rg 97 122 (q)))]) rfl rfl (Nat.le_of_ble_eq_true rfl) ⟨Nat.le_of_ble_eq_true rfl, Nat.le_of_ble_eq_true rfl⟩ dX5_isLetter_8 ?_
  subst hQ
  exact sq_rz hx hb hr hlocks dX5_isLetter_11 z_01 (by first | rfl | (subst_vars; first | rfl | (simp only [and_true, true_and, false_and, and_false, and_self, not_true_eq_false, not_false_eq_true, if_true, if_false, reduceIte, or_false, false_or, true_or, or_true]; done)))
theorem i_X5_isLetter : ciOk yX5_isLetter cX5_isLetter 1 (some .boolean) wsX5_isLetter 1 := ⟨⟨_, rfl⟩, by decide +kernel⟩
set_option maxHeartbeats 4000000 in
set_option maxRecDepth 100000 in
theorem c_X5_isDigit {l : Launch} {q : Int32} : Met l yX5_isDigit wsX5_isDigit (rmz 1 25) (sPre [.int (q)]) (sPost (some (.int (z (rg 48 57 q))))) 0 0 (fun _ => False) := by
  refine sq_entry rfl rfl (Nat.le_of_ble_eq_true rfl) ?_
  intro p e s0 m args below meth c S hr hlocks ls hl
  have S : CallFix p m c cX5_isDigit 1 s0 args wsX5_isDigit RX5 := S
  obtain ⟨hx, hb, hml, hown, hts⟩ := id S
  have hl : lv_has ls 1 [(0, .int (q))] := hl
  generalize hQ : MQ below (sPost (some (.int (z (rg 48 57 q))))) args s0 0 0 (fun _ => False) = Q
  refine lv_iload_n hx hb dX5_isDigit_0 rfl (lv_at hl 0 rfl) ?_
  refine lv_i2l (v := (q).toInt64) hx hb dX5_isDigit_1 rfl ?_
  refine lv_ldc2 (v := 48) hx hb hown (hts (.constantLong RX5 175 (48)) (by decide +kernel)) dX5_isDigit_2 ?_
  refine lv_ldc2 (v := 57) hx hb hown (hts (.constantLong RX5 177 (57)) (by decide +kernel)) dX5_isDigit_5 ?_
  refine sq_S S (c_X5_inY) gX5_isDigit_X5_in i_X5_in ⟨Nat.le_of_ble_eq_true rfl, Nat.le_of_ble_eq_true rfl⟩ rfl hl.1 (As := [.long ((q).toInt64), .long (48), .long (57)]) (rest := []) (st1 := [.int (z (rg 48 57 (q)))]) rfl rfl (Nat.le_of_ble_eq_true rfl) ⟨Nat.le_of_ble_eq_true rfl, Nat.le_of_ble_eq_true rfl⟩ dX5_isDigit_8 ?_
  subst hQ
  exact sq_rz hx hb hr hlocks dX5_isDigit_11 z_01 (by first | rfl | (subst_vars; first | rfl | (simp only [and_true, true_and, false_and, and_false, and_self, not_true_eq_false, not_false_eq_true, if_true, if_false, reduceIte, or_false, false_or, true_or, or_true]; done)))
theorem i_X5_isDigit : ciOk yX5_isDigit cX5_isDigit 1 (some .boolean) wsX5_isDigit 1 := ⟨⟨_, rfl⟩, by decide +kernel⟩
set_option maxHeartbeats 4000000 in
set_option maxRecDepth 100000 in
theorem c_X5_spotOf {l : Launch} {i : Nat} {k : Nat} : Met l yX5_spotOf wsX5_spotOf (rmz 0 0) (sPre [.int (nI i), .int (nI k)]) (sPost (some (.int (nI (5 + 8 * i + k))))) 0 0 (fun _ => False) := by
  refine sq_entry rfl rfl (Nat.le_of_ble_eq_true rfl) ?_
  intro p e s0 m args below meth c S hr hlocks ls hl
  have S : CallFix p m c cX5_spotOf 2 s0 args wsX5_spotOf RX5 := S
  obtain ⟨hx, hb, hml, hown, hts⟩ := id S
  have hl : lv_has ls 2 [(0, .int (nI i)), (1, .int (nI k))] := hl
  generalize hQ : MQ below (sPost (some (.int (nI (5 + 8 * i + k))))) args s0 0 0 (fun _ => False) = Q
  refine lv_iconst (v := nI 5) hx hb dX5_spotOf_0 (by decide) ?_
  refine lv_bipush (v := nI 8) hx hb dX5_spotOf_1 (by decide) ?_
  refine lv_iload_n hx hb dX5_spotOf_3 rfl (lv_at hl 0 rfl) ?_
  refine lvn_imul hx hb dX5_spotOf_4 ?_
  refine lvn_iadd hx hb dX5_spotOf_5 ?_
  refine lv_iload_n hx hb dX5_spotOf_6 rfl (lv_at hl 1 rfl) ?_
  refine lvn_iadd hx hb dX5_spotOf_7 ?_
  subst hQ
  exact sq_ri hx hb hr hlocks dX5_spotOf_8 (by first | rfl | (subst_vars; first | rfl | (simp only [and_true, true_and, false_and, and_false, and_self, not_true_eq_false, not_false_eq_true, if_true, if_false, reduceIte, or_false, false_or, true_or, or_true]; done)))
theorem i_X5_spotOf : ciOk yX5_spotOf cX5_spotOf 2 (some .int) wsX5_spotOf 2 := ⟨⟨_, rfl⟩, by decide +kernel⟩
set_option maxHeartbeats 4000000 in
set_option maxRecDepth 100000 in
theorem c_X5_heldTo {l : Launch} {v : Int32} {hi : Int32} : Met l yX5_heldTo wsX5_heldTo (rmz 0 0) (sPre [.int (v), .int (hi)]) (sPost (some (.int (hTo v hi)))) 0 0 (fun _ => False) := by
  refine sq_entry rfl rfl (Nat.le_of_ble_eq_true rfl) ?_
  intro p e s0 m args below meth c S hr hlocks ls hl
  have S : CallFix p m c cX5_heldTo 2 s0 args wsX5_heldTo RX5 := S
  obtain ⟨hx, hb, hml, hown, hts⟩ := id S
  have hl : lv_has ls 2 [(0, .int (v)), (1, .int (hi))] := hl
  generalize hQ : MQ below (sPost (some (.int (hTo v hi)))) args s0 0 0 (fun _ => False) = Q
  refine lv_iload_n hx hb dX5_heldTo_0 rfl (lv_at hl 0 rfl) ?_
  refine lv_iload_n hx hb dX5_heldTo_1 rfl (lv_at hl 1 rfl) ?_
  have K_1 : ∀ (x_2 : Int32) (ls : Array Slot), x_2 = (if (v) ≤ (hi) then v else hi) → lv_has ls 2 [(0, .int (v)), (1, .int (hi))] → W p l e (rmz 0 0) s0 m args below meth c s0.heap [] 0 0 Q (F0 m 10 ls [.int (x_2)]) := by
    intro x_2 ls ex_2 hl
    subst hQ
    exact sq_ri hx hb hr hlocks dX5_heldTo_10 (by first | rfl | (simp only [hTo]; done) | (subst_vars; first | rfl | (simp only [hTo]; done) | (simp only [hTo, and_true, true_and, false_and, and_false, and_self, not_true_eq_false, not_false_eq_true, if_true, if_false, reduceIte, or_false, false_or, true_or, or_true]; done)))
  refine lv_icmp_le (tgt := 9) hx hb dX5_heldTo_2 (by decide) (fun c_2 => ?_) (fun c_2 => ?_)
  · skip
    refine lv_iload_n hx hb dX5_heldTo_9 rfl (lv_at hl 0 rfl) ?_
    exact K_1 (v) ls (by simp only [if_pos c_2]) hl
  · skip
    refine lv_iload_n hx hb dX5_heldTo_5 rfl (lv_at hl 1 rfl) ?_
    refine lv_goto (tgt := 10) hx hb dX5_heldTo_6 (by decide) ?_
    exact K_1 (hi) ls (by simp only [if_neg c_2]) hl
theorem i_X5_heldTo : ciOk yX5_heldTo cX5_heldTo 2 (some .int) wsX5_heldTo 2 := ⟨⟨_, rfl⟩, by decide +kernel⟩
set_option maxHeartbeats 4000000 in
set_option maxRecDepth 100000 in
theorem c_X5_mostOf {l : Launch} {q : Int32} : Met l yX5_mostOf wsX5_mostOf (rmz 0 0) (sPre [.int (q)]) (sPost (some (.int (mostF q)))) 0 0 (fun _ => False) := by
  refine sq_entry rfl rfl (Nat.le_of_ble_eq_true rfl) ?_
  intro p e s0 m args below meth c S hr hlocks ls hl
  have S : CallFix p m c cX5_mostOf 1 s0 args wsX5_mostOf RX5 := S
  obtain ⟨hx, hb, hml, hown, hts⟩ := id S
  have hl : lv_has ls 1 [(0, .int (q))] := hl
  generalize hQ : MQ below (sPost (some (.int (mostF q)))) args s0 0 0 (fun _ => False) = Q
  refine lv_iload_n hx hb dX5_mostOf_0 rfl (lv_at hl 0 rfl) ?_
  by_cases c_1_1 : q = nI 1
  · skip
    refine lv_tableIn (tgt := 40) hx hb dX5_mostOf_1 (by rw [c_1_1]; decide) (by rw [c_1_1]; decide) (by rw [c_1_1]; rfl) (by decide) ?_
    refine lv_bipush (v := nI 12) hx hb dX5_mostOf_40 (by decide) ?_
    subst hQ
    exact sq_ri hx hb hr hlocks dX5_mostOf_42 (by first | rfl | (simp only [mostF, if_pos c_1_1]; done) | (subst_vars; first | rfl | (simp only [mostF, if_pos c_1_1]; done) | (simp only [mostF, c_1_1, and_true, true_and, false_and, and_false, and_self, not_true_eq_false, not_false_eq_true, if_true, if_false, reduceIte, or_false, false_or, true_or, or_true]; done)))
  by_cases c_1_2 : q = nI 2
  · skip
    refine lv_tableIn (tgt := 52) hx hb dX5_mostOf_1 (by rw [c_1_2]; decide) (by rw [c_1_2]; decide) (by rw [c_1_2]; rfl) (by decide) ?_
    refine lv_iconst (v := nI 1) hx hb dX5_mostOf_52 (by decide) ?_
    subst hQ
    exact sq_ri hx hb hr hlocks dX5_mostOf_53 (by first | rfl | (simp only [mostF, if_neg c_1_1, if_pos c_1_2]; done) | (subst_vars; first | rfl | (simp only [mostF, if_neg c_1_1, if_pos c_1_2]; done) | (simp only [mostF, c_1_1, c_1_2, and_true, true_and, false_and, and_false, and_self, not_true_eq_false, not_false_eq_true, if_true, if_false, reduceIte, or_false, false_or, true_or, or_true]; done)))
  by_cases c_1_3 : q = nI 3
  · skip
    refine lv_tableIn (tgt := 43) hx hb dX5_mostOf_1 (by rw [c_1_3]; decide) (by rw [c_1_3]; decide) (by rw [c_1_3]; rfl) (by decide) ?_
    refine lv_bipush (v := nI 9) hx hb dX5_mostOf_43 (by decide) ?_
    subst hQ
    exact sq_ri hx hb hr hlocks dX5_mostOf_45 (by first | rfl | (simp only [mostF, if_neg c_1_1, if_neg c_1_2, if_pos c_1_3]; done) | (subst_vars; first | rfl | (simp only [mostF, if_neg c_1_1, if_neg c_1_2, if_pos c_1_3]; done) | (simp only [mostF, c_1_1, c_1_2, c_1_3, and_true, true_and, false_and, and_false, and_self, not_true_eq_false, not_false_eq_true, if_true, if_false, reduceIte, or_false, false_or, true_or, or_true]; done)))
  by_cases c_1_4 : q = nI 4
  · skip
    refine lv_tableIn (tgt := 46) hx hb dX5_mostOf_1 (by rw [c_1_4]; decide) (by rw [c_1_4]; decide) (by rw [c_1_4]; rfl) (by decide) ?_
    refine lv_bipush (v := nI 99) hx hb dX5_mostOf_46 (by decide) ?_
    subst hQ
    exact sq_ri hx hb hr hlocks dX5_mostOf_48 (by first | rfl | (simp only [mostF, if_neg c_1_1, if_neg c_1_2, if_neg c_1_3, if_pos c_1_4]; done) | (subst_vars; first | rfl | (simp only [mostF, if_neg c_1_1, if_neg c_1_2, if_neg c_1_3, if_pos c_1_4]; done) | (simp only [mostF, c_1_1, c_1_2, c_1_3, c_1_4, and_true, true_and, false_and, and_false, and_self, not_true_eq_false, not_false_eq_true, if_true, if_false, reduceIte, or_false, false_or, true_or, or_true]; done)))
  by_cases c_1_5 : q = nI 5
  · skip
    refine lv_tableIn (tgt := 40) hx hb dX5_mostOf_1 (by rw [c_1_5]; decide) (by rw [c_1_5]; decide) (by rw [c_1_5]; rfl) (by decide) ?_
    refine lv_bipush (v := nI 12) hx hb dX5_mostOf_40 (by decide) ?_
    subst hQ
    exact sq_ri hx hb hr hlocks dX5_mostOf_42 (by first | rfl | (simp only [mostF, if_neg c_1_1, if_neg c_1_2, if_neg c_1_3, if_neg c_1_4, if_pos c_1_5]; done) | (subst_vars; first | rfl | (simp only [mostF, if_neg c_1_1, if_neg c_1_2, if_neg c_1_3, if_neg c_1_4, if_pos c_1_5]; done) | (simp only [mostF, c_1_1, c_1_2, c_1_3, c_1_4, c_1_5, and_true, true_and, false_and, and_false, and_self, not_true_eq_false, not_false_eq_true, if_true, if_false, reduceIte, or_false, false_or, true_or, or_true]; done)))
  by_cases c_1_6 : q = nI 6
  · skip
    refine lv_tableIn (tgt := 49) hx hb dX5_mostOf_1 (by rw [c_1_6]; decide) (by rw [c_1_6]; decide) (by rw [c_1_6]; rfl) (by decide) ?_
    refine lv_ldc (v := nI 999999) hx hb hown (hts (.constant RX5 95 (nI 999999)) (by decide +kernel)) dX5_mostOf_49 ?_
    subst hQ
    exact sq_ri hx hb hr hlocks dX5_mostOf_51 (by first | rfl | (simp only [mostF, if_neg c_1_1, if_neg c_1_2, if_neg c_1_3, if_neg c_1_4, if_neg c_1_5, if_pos c_1_6]; done) | (subst_vars; first | rfl | (simp only [mostF, if_neg c_1_1, if_neg c_1_2, if_neg c_1_3, if_neg c_1_4, if_neg c_1_5, if_pos c_1_6]; done) | (simp only [mostF, c_1_1, c_1_2, c_1_3, c_1_4, c_1_5, c_1_6, and_true, true_and, false_and, and_false, and_self, not_true_eq_false, not_false_eq_true, if_true, if_false, reduceIte, or_false, false_or, true_or, or_true]; done)))
  refine lv_tableOut (tgt := 52) hx hb dX5_mostOf_1 (by have h0 : (q).toInt ≠ 1 := ne_int c_1_1; have h1 : (q).toInt ≠ 2 := ne_int c_1_2; have h2 : (q).toInt ≠ 3 := ne_int c_1_3; have h3 : (q).toInt ≠ 4 := ne_int c_1_4; have h4 : (q).toInt ≠ 5 := ne_int c_1_5; have h5 : (q).toInt ≠ 6 := ne_int c_1_6; omega) (by decide) ?_
  refine lv_iconst (v := nI 1) hx hb dX5_mostOf_52 (by decide) ?_
  subst hQ
  exact sq_ri hx hb hr hlocks dX5_mostOf_53 (by first | rfl | (simp only [mostF, if_neg c_1_1, if_neg c_1_2, if_neg c_1_3, if_neg c_1_4, if_neg c_1_5, if_neg c_1_6]; done) | (subst_vars; first | rfl | (simp only [mostF, if_neg c_1_1, if_neg c_1_2, if_neg c_1_3, if_neg c_1_4, if_neg c_1_5, if_neg c_1_6]; done) | (simp only [mostF, c_1_1, c_1_2, c_1_3, c_1_4, c_1_5, c_1_6, and_true, true_and, false_and, and_false, and_self, not_true_eq_false, not_false_eq_true, if_true, if_false, reduceIte, or_false, false_or, true_or, or_true]; done)))
theorem i_X5_mostOf : ciOk yX5_mostOf cX5_mostOf 1 (some .int) wsX5_mostOf 1 := ⟨⟨_, rfl⟩, by decide +kernel⟩
set_option maxHeartbeats 4000000 in
set_option maxRecDepth 100000 in
theorem c_X5_isUnder {l : Launch} {kd : Int32} {o : Int32} : Met l yX5_isUnder wsX5_isUnder (rmz 0 0) (sPre [.int (kd), .int (o)]) (sPost (some (.int (z (undP kd o))))) 0 0 (fun _ => False) := by
  refine sq_entry rfl rfl (Nat.le_of_ble_eq_true rfl) ?_
  intro p e s0 m args below meth c S hr hlocks ls hl
  have S : CallFix p m c cX5_isUnder 2 s0 args wsX5_isUnder RX5 := S
  obtain ⟨hx, hb, hml, hown, hts⟩ := id S
  have hl : lv_has ls 2 [(0, .int (kd)), (1, .int (o))] := hl
  generalize hQ : MQ below (sPost (some (.int (z (undP kd o))))) args s0 0 0 (fun _ => False) = Q
  refine lv_iload_n hx hb dX5_isUnder_0 rfl (lv_at hl 1 rfl) ?_
  refine lv_if_eq (tgt := 29) hx hb dX5_isUnder_1 (by decide) (fun c_1 => ?_) (fun c_1 => ?_)
  · skip
    refine lv_iconst (v := nI 1) hx hb dX5_isUnder_29 (by decide) ?_
    refine lv_goto (tgt := 34) hx hb dX5_isUnder_30 (by decide) ?_
    subst hQ
    exact sq_rz hx hb hr hlocks dX5_isUnder_34 (by subst_vars; first | (left; rfl) | (right; rfl) | (split <;> simp)) (by refine rvI ?_; simp only [z, undP, decide_eq_true c_1, Bool.true_and, Bool.false_and, Bool.true_or, Bool.or_true, Bool.false_or, Bool.or_false, Bool.and_true, Bool.and_false, if_true, if_false, reduceIte, Bool.false_eq_true, Bool.or_self, Bool.and_self])
  · skip
    refine lv_iload_n hx hb dX5_isUnder_4 rfl (lv_at hl 0 rfl) ?_
    refine lv_iload_n hx hb dX5_isUnder_5 rfl (lv_at hl 1 rfl) ?_
    refine lv_icmp_eq (tgt := 29) hx hb dX5_isUnder_6 (by decide) (fun c_6 => ?_) (fun c_6 => ?_)
    · skip
      refine lv_iconst (v := nI 1) hx hb dX5_isUnder_29 (by decide) ?_
      refine lv_goto (tgt := 34) hx hb dX5_isUnder_30 (by decide) ?_
      subst hQ
      exact sq_rz hx hb hr hlocks dX5_isUnder_34 (by subst_vars; first | (left; rfl) | (right; rfl) | (split <;> simp)) (by refine rvI ?_; simp only [z, undP, decide_eq_false c_1, decide_eq_true c_6, Bool.true_and, Bool.false_and, Bool.true_or, Bool.or_true, Bool.false_or, Bool.or_false, Bool.and_true, Bool.and_false, if_true, if_false, reduceIte, Bool.false_eq_true, Bool.or_self, Bool.and_self])
    · skip
      refine lv_iload_n hx hb dX5_isUnder_9 rfl (lv_at hl 0 rfl) ?_
      refine lv_iconst (v := nI 4) hx hb dX5_isUnder_10 (by decide) ?_
      refine lv_icmp_ne (tgt := 19) hx hb dX5_isUnder_11 (by decide) (fun c_11 => ?_) (fun c_11 => ?_)
      · skip
        refine lv_iload_n hx hb dX5_isUnder_19 rfl (lv_at hl 0 rfl) ?_
        refine lv_iconst (v := nI 5) hx hb dX5_isUnder_20 (by decide) ?_
        refine lv_icmp_ne (tgt := 33) hx hb dX5_isUnder_21 (by decide) (fun c_21 => ?_) (fun c_21 => ?_)
        · skip
          refine lv_iconst (v := nI 0) hx hb dX5_isUnder_33 (by decide) ?_
          subst hQ
          exact sq_rz hx hb hr hlocks dX5_isUnder_34 (by subst_vars; first | (left; rfl) | (right; rfl) | (split <;> simp)) (by refine rvI ?_; simp only [z, undP, decide_eq_false c_1, decide_eq_false c_6, decide_eq_false c_11, decide_eq_false c_21, Bool.true_and, Bool.false_and, Bool.true_or, Bool.or_true, Bool.false_or, Bool.or_false, Bool.and_true, Bool.and_false, if_true, if_false, reduceIte, Bool.false_eq_true, Bool.or_self, Bool.and_self])
        · skip
          refine lv_iload_n hx hb dX5_isUnder_24 rfl (lv_at hl 1 rfl) ?_
          refine lv_iconst (v := nI 3) hx hb dX5_isUnder_25 (by decide) ?_
          refine lv_icmp_ne (tgt := 33) hx hb dX5_isUnder_26 (by decide) (fun c_26 => ?_) (fun c_26 => ?_)
          · skip
            refine lv_iconst (v := nI 0) hx hb dX5_isUnder_33 (by decide) ?_
            subst hQ
            exact sq_rz hx hb hr hlocks dX5_isUnder_34 (by subst_vars; first | (left; rfl) | (right; rfl) | (split <;> simp)) (by refine rvI ?_; simp only [z, undP, decide_eq_false c_1, decide_eq_false c_6, decide_eq_false c_11, decide_eq_true c_21, decide_eq_false c_26, Bool.true_and, Bool.false_and, Bool.true_or, Bool.or_true, Bool.false_or, Bool.or_false, Bool.and_true, Bool.and_false, if_true, if_false, reduceIte, Bool.false_eq_true, Bool.or_self, Bool.and_self])
          · skip
            refine lv_iconst (v := nI 1) hx hb dX5_isUnder_29 (by decide) ?_
            refine lv_goto (tgt := 34) hx hb dX5_isUnder_30 (by decide) ?_
            subst hQ
            exact sq_rz hx hb hr hlocks dX5_isUnder_34 (by subst_vars; first | (left; rfl) | (right; rfl) | (split <;> simp)) (by refine rvI ?_; simp only [z, undP, decide_eq_false c_1, decide_eq_false c_6, decide_eq_false c_11, decide_eq_true c_21, decide_eq_true c_26, Bool.true_and, Bool.false_and, Bool.true_or, Bool.or_true, Bool.false_or, Bool.or_false, Bool.and_true, Bool.and_false, if_true, if_false, reduceIte, Bool.false_eq_true, Bool.or_self, Bool.and_self])
      · skip
        refine lv_iload_n hx hb dX5_isUnder_14 rfl (lv_at hl 1 rfl) ?_
        refine lv_iconst (v := nI 1) hx hb dX5_isUnder_15 (by decide) ?_
        refine lv_icmp_eq (tgt := 29) hx hb dX5_isUnder_16 (by decide) (fun c_16 => ?_) (fun c_16 => ?_)
        · skip
          refine lv_iconst (v := nI 1) hx hb dX5_isUnder_29 (by decide) ?_
          refine lv_goto (tgt := 34) hx hb dX5_isUnder_30 (by decide) ?_
          subst hQ
          exact sq_rz hx hb hr hlocks dX5_isUnder_34 (by subst_vars; first | (left; rfl) | (right; rfl) | (split <;> simp)) (by refine rvI ?_; simp only [z, undP, decide_eq_false c_1, decide_eq_false c_6, decide_eq_true c_11, decide_eq_true c_16, Bool.true_and, Bool.false_and, Bool.true_or, Bool.or_true, Bool.false_or, Bool.or_false, Bool.and_true, Bool.and_false, if_true, if_false, reduceIte, Bool.false_eq_true, Bool.or_self, Bool.and_self])
        · skip
          refine lv_iload_n hx hb dX5_isUnder_19 rfl (lv_at hl 0 rfl) ?_
          refine lv_iconst (v := nI 5) hx hb dX5_isUnder_20 (by decide) ?_
          refine lv_icmp_ne (tgt := 33) hx hb dX5_isUnder_21 (by decide) (fun c_21 => ?_) (fun c_21 => ?_)
          · skip
            refine lv_iconst (v := nI 0) hx hb dX5_isUnder_33 (by decide) ?_
            subst hQ
            exact sq_rz hx hb hr hlocks dX5_isUnder_34 (by subst_vars; first | (left; rfl) | (right; rfl) | (split <;> simp)) (by refine rvI ?_; simp only [z, undP, decide_eq_false c_1, decide_eq_false c_6, decide_eq_true c_11, decide_eq_false c_16, decide_eq_false c_21, Bool.true_and, Bool.false_and, Bool.true_or, Bool.or_true, Bool.false_or, Bool.or_false, Bool.and_true, Bool.and_false, if_true, if_false, reduceIte, Bool.false_eq_true, Bool.or_self, Bool.and_self])
          · skip
            refine lv_iload_n hx hb dX5_isUnder_24 rfl (lv_at hl 1 rfl) ?_
            refine lv_iconst (v := nI 3) hx hb dX5_isUnder_25 (by decide) ?_
            refine lv_icmp_ne (tgt := 33) hx hb dX5_isUnder_26 (by decide) (fun c_26 => ?_) (fun c_26 => ?_)
            · skip
              refine lv_iconst (v := nI 0) hx hb dX5_isUnder_33 (by decide) ?_
              subst hQ
              exact sq_rz hx hb hr hlocks dX5_isUnder_34 (by subst_vars; first | (left; rfl) | (right; rfl) | (split <;> simp)) (by refine rvI ?_; simp only [z, undP, decide_eq_false c_1, decide_eq_false c_6, decide_eq_true c_11, decide_eq_false c_16, decide_eq_true c_21, decide_eq_false c_26, Bool.true_and, Bool.false_and, Bool.true_or, Bool.or_true, Bool.false_or, Bool.or_false, Bool.and_true, Bool.and_false, if_true, if_false, reduceIte, Bool.false_eq_true, Bool.or_self, Bool.and_self])
            · skip
              refine lv_iconst (v := nI 1) hx hb dX5_isUnder_29 (by decide) ?_
              refine lv_goto (tgt := 34) hx hb dX5_isUnder_30 (by decide) ?_
              subst hQ
              exact sq_rz hx hb hr hlocks dX5_isUnder_34 (by subst_vars; first | (left; rfl) | (right; rfl) | (split <;> simp)) (by refine rvI ?_; simp only [z, undP, decide_eq_false c_1, decide_eq_false c_6, decide_eq_true c_11, decide_eq_false c_16, decide_eq_true c_21, decide_eq_true c_26, Bool.true_and, Bool.false_and, Bool.true_or, Bool.or_true, Bool.false_or, Bool.or_false, Bool.and_true, Bool.and_false, if_true, if_false, reduceIte, Bool.false_eq_true, Bool.or_self, Bool.and_self])
theorem i_X5_isUnder : ciOk yX5_isUnder cX5_isUnder 2 (some .boolean) wsX5_isUnder 2 := ⟨⟨_, rfl⟩, by decide +kernel⟩
set_option maxHeartbeats 4000000 in
set_option maxRecDepth 100000 in
theorem c_X5_finds {l : Launch} {D : va_G} {cy : Nat → ClassId} {ad : Nat → Nat} {sr kS ot asd stt : Nat → Int32} {ik : Int32} {tp : Nat → Int32} {td fr tt vl wr : Int32} {bo so : Nat → Int32} {nu mv : Nat → Int64} {t : Nat} (ht : t < 7) : Met l yX5_finds wsX5_finds (rmz 0 0) (wPre D (mK D cy ad) (mw cy ad sr kS ot asd stt ik tp td fr tt vl wr bo so nu mv) [.ref (ad 0), .int (-1000000001 - nI t)]) (wPost D (mw cy ad sr kS ot asd (upd stt t (stt t + nI 1)) ik tp td fr tt vl wr bo so nu mv) (some (.int (-1000000001 - nI t))) (mA ad)) 0 0 (mA ad) := by
  refine wq_entry rfl rfl (Nat.le_of_ble_eq_true rfl) ?_
  intro p e s0 m args below meth c S hr hlocks hK hP ls hl
  have S : CallFix p m c cX5_finds 2 s0 args wsX5_finds RX5 := S
  obtain ⟨hx, hb, hml, hown, hts⟩ := id S
  have hin : ∀ w ∈ wsX50, w ∈ wsX5_finds := fun w h => List.mem_cons_of_mem _ (List.mem_append_right _ h)
  have hS : va_S (mA ad) s0.heap s0.heap [] := va_S.rf
  have hl : lv_has ls 2 [(0, .ref (ad 0)), (1, .int (-1000000001 - nI t))] := hl
  generalize hQ : MQ below (wPost D (mw cy ad sr kS ot asd (upd stt t (stt t + nI 1)) ik tp td fr tt vl wr bo so nu mv) (some (.int (-1000000001 - nI t))) (mA ad)) args s0 0 0 (mA ad) = Q
  refine lv_aload_n hx hb dX5_finds_0 rfl (lv_at hl 0 rfl) ?_
  refine m_get hx hb hts hin hown hK hP 4 (by decide) (hts (.fieldLink RX5 22 "PennyRoadModel" "statuses" "[I") (by decide +kernel)) rfl dX5_finds_1 ?_
  refine lv_ldc (v := (-1000000001)) hx hb hown (hts (.constant RX5 41 ((-1000000001))) (by decide +kernel)) dX5_finds_4 ?_
  refine lv_iload_n hx hb dX5_finds_6 rfl (lv_at hl 1 rfl) ?_
  refine lv_isub hx hb dX5_finds_7 ?_
  refine lv_top (fnd_ix t) ?_
  refine lv_dup2_11 hx hb dX5_finds_8 rfl rfl ?_
  refine m_ald hx hb hK hP 5 rfl (by decide) (by omega) dX5_finds_9 ?_
  refine lv_iconst (v := nI 1) hx hb dX5_finds_10 (by decide) ?_
  refine lv_iadd hx hb dX5_finds_11 ?_
  refine m_ast (w' := (mw cy ad sr kS ot asd (upd stt t ((stt t) + (nI 1))) ik tp td fr tt vl wr bo so nu mv)) hx hb hK hP hS 5 rfl (by decide) (by omega) rfl dX5_finds_12 (fun H locs hP hS => ?_)
  refine lv_iload_n hx hb dX5_finds_13 rfl (lv_at hl 1 rfl) ?_
  subst hQ
  exact wq_ri hx hb hr hlocks hP hS dX5_finds_14 (by first | rfl | (subst_vars; first | rfl | (simp only [and_true, true_and, false_and, and_false, and_self, not_true_eq_false, not_false_eq_true, if_true, if_false, reduceIte, or_false, false_or, true_or, or_true]; done))) (by first | rfl | (subst_vars; first | rfl | (simp only [and_true, true_and, false_and, and_false, and_self, not_true_eq_false, not_false_eq_true, if_true, if_false, reduceIte, or_false, false_or, true_or, or_true]; done)))
theorem i_X5_finds : ciOk yX5_finds cX5_finds 2 (some .int) wsX5_finds 1 := ⟨⟨_, rfl⟩, by decide +kernel⟩
set_option maxHeartbeats 4000000 in
set_option maxRecDepth 100000 in
theorem c_X5_its {l : Launch} {D : va_G} {cy : Nat → ClassId} {ad : Nat → Nat} {sr kS ot asd stt : Nat → Int32} {ik : Int32} {tp : Nat → Int32} {td fr tt vl wr : Int32} {bo so : Nat → Int32} {nu mv : Nat → Int64} {i : Nat} {k : Nat} (hi : i < 8) (hk : k < 8) : Met l yX5_its wsX5_its (rmz 1 21) (wPre D (mK D cy ad) (mw cy ad sr kS ot asd stt ik tp td fr tt vl wr bo so nu mv) [.ref (ad 0), .int (nI i), .int (nI k)]) (wPost D (mw cy ad sr kS ot asd stt ik tp td fr tt vl wr bo so nu mv) (some (.int (sr (5 + 8 * i + k)))) (mA ad)) 0 0 (mA ad) := by
  refine wq_entry rfl rfl (Nat.le_of_ble_eq_true rfl) ?_
  intro p e s0 m args below meth c S hr hlocks hK hP ls hl
  have S : CallFix p m c cX5_its 3 s0 args wsX5_its RX5 := S
  obtain ⟨hx, hb, hml, hown, hts⟩ := id S
  have hin : ∀ w ∈ wsX50, w ∈ wsX5_its := fun w h => List.mem_cons_of_mem _ (List.mem_append_right _ h)
  have hS : va_S (mA ad) s0.heap s0.heap [] := va_S.rf
  have hl : lv_has ls 3 [(0, .ref (ad 0)), (1, .int (nI i)), (2, .int (nI k))] := hl
  generalize hQ : MQ below (wPost D (mw cy ad sr kS ot asd stt ik tp td fr tt vl wr bo so nu mv) (some (.int (sr (5 + 8 * i + k)))) (mA ad)) args s0 0 0 (mA ad) = Q
  refine lv_aload_n hx hb dX5_its_0 rfl (lv_at hl 0 rfl) ?_
  refine m_get hx hb hts hin hown hK hP 0 (by decide) (hts (.fieldLink RX5 7 "PennyRoadModel" "s" "[I") (by decide +kernel)) rfl dX5_its_1 ?_
  refine lv_iload_n hx hb dX5_its_4 rfl (lv_at hl 1 rfl) ?_
  refine lv_iload_n hx hb dX5_its_5 rfl (lv_at hl 2 rfl) ?_
  refine sq_S S (c_X5_spotOf) gX5_its_X5_spotOf i_X5_spotOf ⟨Nat.le_of_ble_eq_true rfl, Nat.le_of_ble_eq_true rfl⟩ rfl hl.1 (As := [.int (nI i), .int (nI k)]) (rest := [.ref (ad 1)]) (st1 := [.int (nI (5 + 8 * i + k)), .ref (ad 1)]) rfl rfl (Nat.le_of_ble_eq_true rfl) ⟨Nat.le_of_ble_eq_true rfl, Nat.le_of_ble_eq_true rfl⟩ dX5_its_6 ?_
  refine m_ald hx hb hK hP 1 rfl (by decide) (by omega) dX5_its_9 ?_
  subst hQ
  exact wq_ri hx hb hr hlocks hP hS dX5_its_10 (by first | rfl | (subst_vars; first | rfl | (simp only [and_true, true_and, false_and, and_false, and_self, not_true_eq_false, not_false_eq_true, if_true, if_false, reduceIte, or_false, false_or, true_or, or_true]; done))) rfl
theorem i_X5_its : ciOk yX5_its cX5_its 3 (some .int) wsX5_its 2 := ⟨⟨_, rfl⟩, by decide +kernel⟩
set_option maxHeartbeats 4000000 in
set_option maxRecDepth 100000 in
theorem c_X5_isWalker {l : Launch} {D : va_G} {cy : Nat → ClassId} {ad : Nat → Nat} {sr kS ot asd stt : Nat → Int32} {ik : Int32} {tp : Nat → Int32} {td fr tt vl wr : Int32} {bo so : Nat → Int32} {nu mv : Nat → Int64} {q : Int32} {N : Nat} (hN : sr 0 = nI N) (h8 : N ≤ 8) : Met l yX5_isWalker wsX5_isWalker (rmz 1 25) (wPre D (mK D cy ad) (mw cy ad sr kS ot asd stt ik tp td fr tt vl wr bo so nu mv) [.ref (ad 0), .int (q)]) (wPost D (mw cy ad sr kS ot asd stt ik tp td fr tt vl wr bo so nu mv) (some (.int (z (isN N q)))) (mA ad)) 0 0 (mA ad) := by
  refine wq_entry rfl rfl (Nat.le_of_ble_eq_true rfl) ?_
  intro p e s0 m args below meth c S hr hlocks hK hP ls hl
  have S : CallFix p m c cX5_isWalker 2 s0 args wsX5_isWalker RX5 := S
  obtain ⟨hx, hb, hml, hown, hts⟩ := id S
  have hin : ∀ w ∈ wsX50, w ∈ wsX5_isWalker := fun w h => List.mem_cons_of_mem _ (List.mem_append_right _ h)
  have hS : va_S (mA ad) s0.heap s0.heap [] := va_S.rf
  have hl : lv_has ls 2 [(0, .ref (ad 0)), (1, .int (q))] := hl
  generalize hQ : MQ below (wPost D (mw cy ad sr kS ot asd stt ik tp td fr tt vl wr bo so nu mv) (some (.int (z (isN N q)))) (mA ad)) args s0 0 0 (mA ad) = Q
  refine lv_iload_n hx hb dX5_isWalker_0 rfl (lv_at hl 1 rfl) ?_
  refine lv_i2l (v := (q).toInt64) hx hb dX5_isWalker_1 rfl ?_
  refine lv_lconst (v := 0) hx hb dX5_isWalker_2 (by decide) ?_
  refine lv_aload_n hx hb dX5_isWalker_3 rfl (lv_at hl 0 rfl) ?_
  refine m_get hx hb hts hin hown hK hP 0 (by decide) (hts (.fieldLink RX5 7 "PennyRoadModel" "s" "[I") (by decide +kernel)) rfl dX5_isWalker_4 ?_
  refine lv_iconst (v := nI 0) hx hb dX5_isWalker_7 (by decide) ?_
  refine m_ald hx hb hK hP 1 rfl (by decide) (by omega) dX5_isWalker_8 ?_
  refine lv_top hN ?_
  refine lv_iconst (v := nI 1) hx hb dX5_isWalker_9 (by decide) ?_
  refine lv_isub hx hb dX5_isWalker_10 ?_
  refine lv_i2l (v := ((nI N) - (nI 1)).toInt64) hx hb dX5_isWalker_11 rfl ?_
  refine sq_S S (c_X5_inY) gX5_isWalker_X5_in i_X5_in ⟨Nat.le_of_ble_eq_true rfl, Nat.le_of_ble_eq_true rfl⟩ rfl hl.1 (As := [.long ((q).toInt64), .long (0), .long (((nI N) - (nI 1)).toInt64)]) (rest := []) (st1 := [.int (z (rg 0 (((nI N) - (nI 1)).toInt64).toInt (q)))]) rfl rfl (Nat.le_of_ble_eq_true rfl) ⟨Nat.le_of_ble_eq_true rfl, Nat.le_of_ble_eq_true rfl⟩ dX5_isWalker_12 ?_
  subst hQ
  exact wq_rz hx hb hr hlocks hP hS dX5_isWalker_15 z_01 (by rw [show (((nI N) - (nI 1)).toInt64).toInt = (N : Int) - 1 from many_1 h8]; rfl) rfl
theorem i_X5_isWalker : ciOk yX5_isWalker cX5_isWalker 2 (some .boolean) wsX5_isWalker 1 := ⟨⟨_, rfl⟩, by decide +kernel⟩
set_option maxHeartbeats 4000000 in
set_option maxRecDepth 100000 in
theorem c_X5_becomes {l : Launch} {D : va_G} {cy : Nat → ClassId} {ad : Nat → Nat} {sr kS ot asd stt : Nat → Int32} {ik : Int32} {tp : Nat → Int32} {td fr tt vl wr : Int32} {bo so : Nat → Int32} {nu mv : Nat → Int64} {i : Nat} {v : Int32} (hi : i < 69) : Met l yX5_becomes wsX5_becomes (rmz 0 0) (wPre D (mK D cy ad) (mw cy ad sr kS ot asd stt ik tp td fr tt vl wr bo so nu mv) [.ref (ad 0), .int (nI i), .int (v)]) (wPost D (mw cy ad (upd sr i v) kS ot asd stt ik tp td fr tt vl wr bo so nu mv) (some (.int (sr i))) (mA ad)) 0 0 (mA ad) := by
  refine wq_entry rfl rfl (Nat.le_of_ble_eq_true rfl) ?_
  intro p e s0 m args below meth c S hr hlocks hK hP ls hl
  have S : CallFix p m c cX5_becomes 4 s0 args wsX5_becomes RX5 := S
  obtain ⟨hx, hb, hml, hown, hts⟩ := id S
  have hin : ∀ w ∈ wsX50, w ∈ wsX5_becomes := fun w h => List.mem_cons_of_mem _ (List.mem_append_right _ h)
  have hS : va_S (mA ad) s0.heap s0.heap [] := va_S.rf
  have hl : lv_has ls 4 [(0, .ref (ad 0)), (1, .int (nI i)), (2, .int (v))] := hl
  generalize hQ : MQ below (wPost D (mw cy ad (upd sr i v) kS ot asd stt ik tp td fr tt vl wr bo so nu mv) (some (.int (sr i))) (mA ad)) args s0 0 0 (mA ad) = Q
  refine lv_aload_n hx hb dX5_becomes_0 rfl (lv_at hl 0 rfl) ?_
  refine m_get hx hb hts hin hown hK hP 0 (by decide) (hts (.fieldLink RX5 7 "PennyRoadModel" "s" "[I") (by decide +kernel)) rfl dX5_becomes_1 ?_
  refine lv_iload_n hx hb dX5_becomes_4 rfl (lv_at hl 1 rfl) ?_
  refine m_ald hx hb hK hP 1 rfl (by decide) (by omega) dX5_becomes_5 ?_
  refine lv_istore_n (lv' := [(3, .int (sr i)), (0, .ref (ad 0)), (1, .int (nI i)), (2, .int (v))]) hx hb dX5_becomes_6 rfl hl (by decide) rfl (fun ls hl => ?_)
  refine lv_aload_n hx hb dX5_becomes_7 rfl (lv_at hl 1 rfl) ?_
  refine m_get hx hb hts hin hown hK hP 0 (by decide) (hts (.fieldLink RX5 7 "PennyRoadModel" "s" "[I") (by decide +kernel)) rfl dX5_becomes_8 ?_
  refine lv_iload_n hx hb dX5_becomes_11 rfl (lv_at hl 2 rfl) ?_
  refine lv_iload_n hx hb dX5_becomes_12 rfl (lv_at hl 3 rfl) ?_
  refine m_ast (w' := (mw cy ad (upd sr i v) kS ot asd stt ik tp td fr tt vl wr bo so nu mv)) hx hb hK hP hS 1 rfl (by decide) (by omega) rfl dX5_becomes_13 (fun H locs hP hS => ?_)
  refine lv_iload_n hx hb dX5_becomes_14 rfl (lv_at hl 0 rfl) ?_
  subst hQ
  exact wq_ri hx hb hr hlocks hP hS dX5_becomes_15 (by first | rfl | (subst_vars; first | rfl | (simp only [and_true, true_and, false_and, and_false, and_self, not_true_eq_false, not_false_eq_true, if_true, if_false, reduceIte, or_false, false_or, true_or, or_true]; done))) (by first | rfl | (subst_vars; first | rfl | (simp only [and_true, true_and, false_and, and_false, and_self, not_true_eq_false, not_false_eq_true, if_true, if_false, reduceIte, or_false, false_or, true_or, or_true]; done)))
theorem i_X5_becomes : ciOk yX5_becomes cX5_becomes 4 (some .int) wsX5_becomes 2 := ⟨⟨_, rfl⟩, by decide +kernel⟩
set_option maxHeartbeats 4000000 in
set_option maxRecDepth 100000 in
theorem c_X5_areTwo {l : Launch} {D : va_G} {cy : Nat → ClassId} {ad : Nat → Nat} {sr kS ot asd stt : Nat → Int32} {ik : Int32} {tp : Nat → Int32} {td fr tt vl wr : Int32} {bo so : Nat → Int32} {nu mv : Nat → Int64} {q : Int32} {o : Int32} {N : Nat} (hN : sr 0 = nI N) (h8 : N ≤ 8) : Met l yX5_areTwo wsX5_areTwo (rmz 2 46) (wPre D (mK D cy ad) (mw cy ad sr kS ot asd stt ik tp td fr tt vl wr bo so nu mv) [.ref (ad 0), .int (q), .int (o)]) (wPost D (mw cy ad sr kS ot asd stt ik tp td fr tt vl wr bo so nu mv) (some (.int (z (twoP N q o)))) (mA ad)) 0 0 (mA ad) := by
  refine wq_entry rfl rfl (Nat.le_of_ble_eq_true rfl) ?_
  intro p e s0 m args below meth c S hr hlocks hK hP ls hl
  have S : CallFix p m c cX5_areTwo 3 s0 args wsX5_areTwo RX5 := S
  obtain ⟨hx, hb, hml, hown, hts⟩ := id S
  have hin : ∀ w ∈ wsX50, w ∈ wsX5_areTwo := fun w h => List.mem_cons_of_mem _ (List.mem_append_right _ h)
  have hS : va_S (mA ad) s0.heap s0.heap [] := va_S.rf
  have hl : lv_has ls 3 [(0, .ref (ad 0)), (1, .int (q)), (2, .int (o))] := hl
  generalize hQ : MQ below (wPost D (mw cy ad sr kS ot asd stt ik tp td fr tt vl wr bo so nu mv) (some (.int (z (twoP N q o)))) (mA ad)) args s0 0 0 (mA ad) = Q
  refine lv_aload_n hx hb dX5_areTwo_0 rfl (lv_at hl 0 rfl) ?_
  refine lv_iload_n hx hb dX5_areTwo_1 rfl (lv_at hl 1 rfl) ?_
  refine wq_V S mK_ok hK hP hS (c_X5_isWalker hN h8) gX5_areTwo_X5_isWalker i_X5_isWalker rfl (m_rec hK hP) ⟨Nat.le_of_ble_eq_true rfl, Nat.le_of_ble_eq_true rfl⟩ rfl hl.1 (As := [.int (q)]) (rest := []) (st1 := [.int (z (isN N (q)))]) rfl rfl (Nat.le_of_ble_eq_true rfl) ⟨Nat.le_of_ble_eq_true rfl, Nat.le_of_ble_eq_true rfl⟩ dX5_areTwo_2 (fun H locs hP hS => ?_)
  refine lvz_if_eq (tgt := 25) hx hb dX5_areTwo_5 (by decide) (fun c_5 => ?_) (fun c_5 => ?_)
  · skip
    refine lv_iconst (v := nI 0) hx hb dX5_areTwo_25 (by decide) ?_
    subst hQ
    exact wq_rz hx hb hr hlocks hP hS dX5_areTwo_26 (by subst_vars; first | (left; rfl) | (right; rfl) | (split <;> simp)) (by refine rvI ?_; simp [z, twoP, *]) rfl
  · skip
    refine lv_aload_n hx hb dX5_areTwo_8 rfl (lv_at hl 0 rfl) ?_
    refine lv_iload_n hx hb dX5_areTwo_9 rfl (lv_at hl 2 rfl) ?_
    refine wq_V S mK_ok hK hP hS (c_X5_isWalker hN h8) gX5_areTwo_X5_isWalker i_X5_isWalker rfl (m_rec hK hP) ⟨Nat.le_of_ble_eq_true rfl, Nat.le_of_ble_eq_true rfl⟩ rfl hl.1 (As := [.int (o)]) (rest := []) (st1 := [.int (z (isN N (o)))]) rfl rfl (Nat.le_of_ble_eq_true rfl) ⟨Nat.le_of_ble_eq_true rfl, Nat.le_of_ble_eq_true rfl⟩ dX5_areTwo_10 (fun H locs hP hS => ?_)
    refine lvz_if_eq (tgt := 25) hx hb dX5_areTwo_13 (by decide) (fun c_13 => ?_) (fun c_13 => ?_)
    · skip
      refine lv_iconst (v := nI 0) hx hb dX5_areTwo_25 (by decide) ?_
      subst hQ
      exact wq_rz hx hb hr hlocks hP hS dX5_areTwo_26 (by subst_vars; first | (left; rfl) | (right; rfl) | (split <;> simp)) (by refine rvI ?_; simp [z, twoP, *]) rfl
    · skip
      refine lv_iload_n hx hb dX5_areTwo_16 rfl (lv_at hl 1 rfl) ?_
      refine lv_iload_n hx hb dX5_areTwo_17 rfl (lv_at hl 2 rfl) ?_
      refine lv_icmp_eq (tgt := 25) hx hb dX5_areTwo_18 (by decide) (fun c_18 => ?_) (fun c_18 => ?_)
      · skip
        refine lv_iconst (v := nI 0) hx hb dX5_areTwo_25 (by decide) ?_
        subst hQ
        exact wq_rz hx hb hr hlocks hP hS dX5_areTwo_26 (by subst_vars; first | (left; rfl) | (right; rfl) | (split <;> simp)) (by refine rvI ?_; simp [z, twoP, *]) rfl
      · skip
        refine lv_iconst (v := nI 1) hx hb dX5_areTwo_21 (by decide) ?_
        refine lv_goto (tgt := 26) hx hb dX5_areTwo_22 (by decide) ?_
        subst hQ
        exact wq_rz hx hb hr hlocks hP hS dX5_areTwo_26 (by subst_vars; first | (left; rfl) | (right; rfl) | (split <;> simp)) (by refine rvI ?_; simp [z, twoP, *]) rfl
theorem i_X5_areTwo : ciOk yX5_areTwo cX5_areTwo 3 (some .boolean) wsX5_areTwo 2 := ⟨⟨_, rfl⟩, by decide +kernel⟩
set_option maxHeartbeats 4000000 in
set_option maxRecDepth 100000 in
theorem c_X5_saves {l : Launch} {D : va_G} {cy : Nat → ClassId} {ad : Nat → Nat} {sr kS ot asd stt : Nat → Int32} {ik : Int32} {tp : Nat → Int32} {td fr tt vl wr : Int32} {bo so : Nat → Int32} {nu mv : Nat → Int64} : Met l yX5_saves wsX5_saves (rmz 0 0) (wPre D (mK D cy ad) (mw cy ad sr kS ot asd stt ik tp td fr tt vl wr bo so nu mv) [.ref (ad 0)]) (wPost D (mw cy ad sr kS sr asd stt ik tp td fr tt vl wr bo so nu mv) none (mA ad)) 0 0 (mA ad) := by
  refine wq_entry rfl rfl (Nat.le_of_ble_eq_true rfl) ?_
  intro p e s0 m args below meth c S hr hlocks hK hP ls hl
  have S : CallFix p m c cX5_saves 2 s0 args wsX5_saves RX5 := S
  obtain ⟨hx, hb, hml, hown, hts⟩ := id S
  have hin : ∀ w ∈ wsX50, w ∈ wsX5_saves := fun w h => List.mem_cons_of_mem _ (List.mem_append_right _ h)
  have hS : va_S (mA ad) s0.heap s0.heap [] := va_S.rf
  have hl : lv_has ls 2 [(0, .ref (ad 0))] := hl
  generalize hQ : MQ below (wPost D (mw cy ad sr kS sr asd stt ik tp td fr tt vl wr bo so nu mv) none (mA ad)) args s0 0 0 (mA ad) = Q
  refine lv_iconst (v := nI 0) hx hb dX5_saves_0 (by decide) ?_
  refine lv_istore_n (lv' := [(1, .int (nI 0)), (0, .ref (ad 0))]) hx hb dX5_saves_1 rfl hl (by decide) rfl (fun ls hl => ?_)
  have L_2 : ∀ (n : Nat) (j : Nat) (H : Heap) (locs : List Loc) (ls : Array Slot), j + n = 69 → va_P D vwCl (mw cy ad sr kS (cpn j sr ot) asd stt ik tp td fr tt vl wr bo so nu mv) H → va_S (mA ad) s0.heap H locs → lv_has ls 2 [(1, .int (nI j)), (0, .ref (ad 0))] → W p l e (rmz 0 0) s0 m args below meth c H locs 0 0 Q (F0 m 2 ls []) := by
    intro n
    induction n with
    | zero =>
      intro j H locs ls hj hP hS hl
      refine lv_iload_n hx hb dX5_saves_2 rfl (lv_at hl 0 rfl) ?_
      refine lv_bipush (v := nI 69) hx hb dX5_saves_3 (by decide) ?_
      refine lvn_icmp_ge (tgt := 26) hx hb dX5_saves_5 (by decide) (by omega) (by omega) (fun c_5 => ?_) (fun c_5 => ?_)
      · skip
        have hj9 : j = 69 := by omega
        subst hj9
        have hP := m_ext hP (fun _ _ => rfl) (fun _ _ => rfl) (fun k h => cpn_in h) (fun _ _ => rfl)
        subst hQ
        exact wq_rv hx hb hr hlocks hP hS dX5_saves_26 rfl rfl
      · skip
        exfalso; omega
    | succ n ih_2 =>
      intro j H locs ls hj hP hS hl
      refine lv_iload_n hx hb dX5_saves_2 rfl (lv_at hl 0 rfl) ?_
      refine lv_bipush (v := nI 69) hx hb dX5_saves_3 (by decide) ?_
      refine lvn_icmp_ge (tgt := 26) hx hb dX5_saves_5 (by decide) (by omega) (by omega) (fun c_5 => ?_) (fun c_5 => ?_)
      · skip
        exfalso; omega
      · skip
        refine lv_aload_n hx hb dX5_saves_8 rfl (lv_at hl 1 rfl) ?_
        refine m_get hx hb hts hin hown hK hP 2 (by decide) (hts (.fieldLink RX5 16 "PennyRoadModel" "other" "[I") (by decide +kernel)) rfl dX5_saves_9 ?_
        refine lv_iload_n hx hb dX5_saves_12 rfl (lv_at hl 0 rfl) ?_
        refine lv_aload_n hx hb dX5_saves_13 rfl (lv_at hl 1 rfl) ?_
        refine m_get hx hb hts hin hown hK hP 0 (by decide) (hts (.fieldLink RX5 7 "PennyRoadModel" "s" "[I") (by decide +kernel)) rfl dX5_saves_14 ?_
        refine lv_iload_n hx hb dX5_saves_17 rfl (lv_at hl 0 rfl) ?_
        refine m_ald hx hb hK hP 1 rfl (by decide) (by omega) dX5_saves_18 ?_
        refine m_ast (w' := (mw cy ad sr kS (upd (cpn j sr ot) j (sr j)) asd stt ik tp td fr tt vl wr bo so nu mv)) hx hb hK hP hS 3 rfl (by decide) (by omega) rfl dX5_saves_19 (fun H locs hP hS => ?_)
        refine lv_iinc (v := nI (j + 1)) (lv' := [(1, .int (nI (j + 1))), (0, .ref (ad 0))]) hx hb dX5_saves_20 hl (k := 0) rfl (nI_add _ _) (by decide) rfl (fun ls hl => ?_)
        refine lv_goto (tgt := 2) hx hb dX5_saves_23 (by decide) ?_
        exact ih_2 (j + 1) _ _ ls (by omega) (by rw [cpn_s] at hP; exact hP) hS hl
  exact L_2 69 0 _ _ ls (by omega) (by rw [cpn_0]; exact hP) hS hl
theorem i_X5_saves : ciOk yX5_saves cX5_saves 2 none wsX5_saves 0 := ⟨⟨_, rfl⟩, by decide +kernel⟩
set_option maxHeartbeats 4000000 in
set_option maxRecDepth 100000 in
theorem c_X5_putsBack {l : Launch} {D : va_G} {cy : Nat → ClassId} {ad : Nat → Nat} {sr kS ot asd stt : Nat → Int32} {ik : Int32} {tp : Nat → Int32} {td fr tt vl wr : Int32} {bo so : Nat → Int32} {nu mv : Nat → Int64} : Met l yX5_putsBack wsX5_putsBack (rmz 0 0) (wPre D (mK D cy ad) (mw cy ad sr kS ot asd stt ik tp td fr tt vl wr bo so nu mv) [.ref (ad 0)]) (wPost D (mw cy ad ot kS ot asd stt ik tp td fr tt vl wr bo so nu mv) none (mA ad)) 0 0 (mA ad) := by
  refine wq_entry rfl rfl (Nat.le_of_ble_eq_true rfl) ?_
  intro p e s0 m args below meth c S hr hlocks hK hP ls hl
  have S : CallFix p m c cX5_putsBack 2 s0 args wsX5_putsBack RX5 := S
  obtain ⟨hx, hb, hml, hown, hts⟩ := id S
  have hin : ∀ w ∈ wsX50, w ∈ wsX5_putsBack := fun w h => List.mem_cons_of_mem _ (List.mem_append_right _ h)
  have hS : va_S (mA ad) s0.heap s0.heap [] := va_S.rf
  have hl : lv_has ls 2 [(0, .ref (ad 0))] := hl
  generalize hQ : MQ below (wPost D (mw cy ad ot kS ot asd stt ik tp td fr tt vl wr bo so nu mv) none (mA ad)) args s0 0 0 (mA ad) = Q
  refine lv_iconst (v := nI 0) hx hb dX5_putsBack_0 (by decide) ?_
  refine lv_istore_n (lv' := [(1, .int (nI 0)), (0, .ref (ad 0))]) hx hb dX5_putsBack_1 rfl hl (by decide) rfl (fun ls hl => ?_)
  have L_2 : ∀ (n : Nat) (j : Nat) (H : Heap) (locs : List Loc) (ls : Array Slot), j + n = 69 → va_P D vwCl (mw cy ad (cpn j ot sr) kS ot asd stt ik tp td fr tt vl wr bo so nu mv) H → va_S (mA ad) s0.heap H locs → lv_has ls 2 [(1, .int (nI j)), (0, .ref (ad 0))] → W p l e (rmz 0 0) s0 m args below meth c H locs 0 0 Q (F0 m 2 ls []) := by
    intro n
    induction n with
    | zero =>
      intro j H locs ls hj hP hS hl
      refine lv_iload_n hx hb dX5_putsBack_2 rfl (lv_at hl 0 rfl) ?_
      refine lv_bipush (v := nI 69) hx hb dX5_putsBack_3 (by decide) ?_
      refine lvn_icmp_ge (tgt := 26) hx hb dX5_putsBack_5 (by decide) (by omega) (by omega) (fun c_5 => ?_) (fun c_5 => ?_)
      · skip
        have hj9 : j = 69 := by omega
        subst hj9
        have hP := m_ext hP (fun k h => cpn_in h) (fun _ _ => rfl) (fun _ _ => rfl) (fun _ _ => rfl)
        subst hQ
        exact wq_rv hx hb hr hlocks hP hS dX5_putsBack_26 rfl rfl
      · skip
        exfalso; omega
    | succ n ih_2 =>
      intro j H locs ls hj hP hS hl
      refine lv_iload_n hx hb dX5_putsBack_2 rfl (lv_at hl 0 rfl) ?_
      refine lv_bipush (v := nI 69) hx hb dX5_putsBack_3 (by decide) ?_
      refine lvn_icmp_ge (tgt := 26) hx hb dX5_putsBack_5 (by decide) (by omega) (by omega) (fun c_5 => ?_) (fun c_5 => ?_)
      · skip
        exfalso; omega
      · skip
        refine lv_aload_n hx hb dX5_putsBack_8 rfl (lv_at hl 1 rfl) ?_
        refine m_get hx hb hts hin hown hK hP 0 (by decide) (hts (.fieldLink RX5 7 "PennyRoadModel" "s" "[I") (by decide +kernel)) rfl dX5_putsBack_9 ?_
        refine lv_iload_n hx hb dX5_putsBack_12 rfl (lv_at hl 0 rfl) ?_
        refine lv_aload_n hx hb dX5_putsBack_13 rfl (lv_at hl 1 rfl) ?_
        refine m_get hx hb hts hin hown hK hP 2 (by decide) (hts (.fieldLink RX5 16 "PennyRoadModel" "other" "[I") (by decide +kernel)) rfl dX5_putsBack_14 ?_
        refine lv_iload_n hx hb dX5_putsBack_17 rfl (lv_at hl 0 rfl) ?_
        refine m_ald hx hb hK hP 3 rfl (by decide) (by omega) dX5_putsBack_18 ?_
        refine m_ast (w' := (mw cy ad (upd (cpn j ot sr) j (ot j)) kS ot asd stt ik tp td fr tt vl wr bo so nu mv)) hx hb hK hP hS 1 rfl (by decide) (by omega) rfl dX5_putsBack_19 (fun H locs hP hS => ?_)
        refine lv_iinc (v := nI (j + 1)) (lv' := [(1, .int (nI (j + 1))), (0, .ref (ad 0))]) hx hb dX5_putsBack_20 hl (k := 0) rfl (nI_add _ _) (by decide) rfl (fun ls hl => ?_)
        refine lv_goto (tgt := 2) hx hb dX5_putsBack_23 (by decide) ?_
        exact ih_2 (j + 1) _ _ ls (by omega) (by rw [cpn_s] at hP; exact hP) hS hl
  exact L_2 69 0 _ _ ls (by omega) (by rw [cpn_0]; exact hP) hS hl
theorem i_X5_putsBack : ciOk yX5_putsBack cX5_putsBack 2 none wsX5_putsBack 0 := ⟨⟨_, rfl⟩, by decide +kernel⟩
set_option maxHeartbeats 4000000 in
set_option maxRecDepth 100000 in
theorem c_X5_laysAside {l : Launch} {D : va_G} {cy : Nat → ClassId} {ad : Nat → Nat} {sr kS ot asd stt : Nat → Int32} {ik : Int32} {tp : Nat → Int32} {td fr tt vl wr : Int32} {bo so : Nat → Int32} {nu mv : Nat → Int64} : Met l yX5_laysAside wsX5_laysAside (rmz 0 0) (wPre D (mK D cy ad) (mw cy ad sr kS ot asd stt ik tp td fr tt vl wr bo so nu mv) [.ref (ad 0)]) (wPost D (mw cy ad sr kS ot sr stt ik tp td fr tt vl wr bo so nu mv) none (mA ad)) 0 0 (mA ad) := by
  refine wq_entry rfl rfl (Nat.le_of_ble_eq_true rfl) ?_
  intro p e s0 m args below meth c S hr hlocks hK hP ls hl
  have S : CallFix p m c cX5_laysAside 2 s0 args wsX5_laysAside RX5 := S
  obtain ⟨hx, hb, hml, hown, hts⟩ := id S
  have hin : ∀ w ∈ wsX50, w ∈ wsX5_laysAside := fun w h => List.mem_cons_of_mem _ (List.mem_append_right _ h)
  have hS : va_S (mA ad) s0.heap s0.heap [] := va_S.rf
  have hl : lv_has ls 2 [(0, .ref (ad 0))] := hl
  generalize hQ : MQ below (wPost D (mw cy ad sr kS ot sr stt ik tp td fr tt vl wr bo so nu mv) none (mA ad)) args s0 0 0 (mA ad) = Q
  refine lv_iconst (v := nI 0) hx hb dX5_laysAside_0 (by decide) ?_
  refine lv_istore_n (lv' := [(1, .int (nI 0)), (0, .ref (ad 0))]) hx hb dX5_laysAside_1 rfl hl (by decide) rfl (fun ls hl => ?_)
  have L_2 : ∀ (n : Nat) (j : Nat) (H : Heap) (locs : List Loc) (ls : Array Slot), j + n = 69 → va_P D vwCl (mw cy ad sr kS ot (cpn j sr asd) stt ik tp td fr tt vl wr bo so nu mv) H → va_S (mA ad) s0.heap H locs → lv_has ls 2 [(1, .int (nI j)), (0, .ref (ad 0))] → W p l e (rmz 0 0) s0 m args below meth c H locs 0 0 Q (F0 m 2 ls []) := by
    intro n
    induction n with
    | zero =>
      intro j H locs ls hj hP hS hl
      refine lv_iload_n hx hb dX5_laysAside_2 rfl (lv_at hl 0 rfl) ?_
      refine lv_bipush (v := nI 69) hx hb dX5_laysAside_3 (by decide) ?_
      refine lvn_icmp_ge (tgt := 26) hx hb dX5_laysAside_5 (by decide) (by omega) (by omega) (fun c_5 => ?_) (fun c_5 => ?_)
      · skip
        have hj9 : j = 69 := by omega
        subst hj9
        have hP := m_ext hP (fun _ _ => rfl) (fun _ _ => rfl) (fun _ _ => rfl) (fun k h => cpn_in h)
        subst hQ
        exact wq_rv hx hb hr hlocks hP hS dX5_laysAside_26 rfl rfl
      · skip
        exfalso; omega
    | succ n ih_2 =>
      intro j H locs ls hj hP hS hl
      refine lv_iload_n hx hb dX5_laysAside_2 rfl (lv_at hl 0 rfl) ?_
      refine lv_bipush (v := nI 69) hx hb dX5_laysAside_3 (by decide) ?_
      refine lvn_icmp_ge (tgt := 26) hx hb dX5_laysAside_5 (by decide) (by omega) (by omega) (fun c_5 => ?_) (fun c_5 => ?_)
      · skip
        exfalso; omega
      · skip
        refine lv_aload_n hx hb dX5_laysAside_8 rfl (lv_at hl 1 rfl) ?_
        refine m_get hx hb hts hin hown hK hP 3 (by decide) (hts (.fieldLink RX5 19 "PennyRoadModel" "aside" "[I") (by decide +kernel)) rfl dX5_laysAside_9 ?_
        refine lv_iload_n hx hb dX5_laysAside_12 rfl (lv_at hl 0 rfl) ?_
        refine lv_aload_n hx hb dX5_laysAside_13 rfl (lv_at hl 1 rfl) ?_
        refine m_get hx hb hts hin hown hK hP 0 (by decide) (hts (.fieldLink RX5 7 "PennyRoadModel" "s" "[I") (by decide +kernel)) rfl dX5_laysAside_14 ?_
        refine lv_iload_n hx hb dX5_laysAside_17 rfl (lv_at hl 0 rfl) ?_
        refine m_ald hx hb hK hP 1 rfl (by decide) (by omega) dX5_laysAside_18 ?_
        refine m_ast (w' := (mw cy ad sr kS ot (upd (cpn j sr asd) j (sr j)) stt ik tp td fr tt vl wr bo so nu mv)) hx hb hK hP hS 4 rfl (by decide) (by omega) rfl dX5_laysAside_19 (fun H locs hP hS => ?_)
        refine lv_iinc (v := nI (j + 1)) (lv' := [(1, .int (nI (j + 1))), (0, .ref (ad 0))]) hx hb dX5_laysAside_20 hl (k := 0) rfl (nI_add _ _) (by decide) rfl (fun ls hl => ?_)
        refine lv_goto (tgt := 2) hx hb dX5_laysAside_23 (by decide) ?_
        exact ih_2 (j + 1) _ _ ls (by omega) (by rw [cpn_s] at hP; exact hP) hS hl
  exact L_2 69 0 _ _ ls (by omega) (by rw [cpn_0]; exact hP) hS hl
theorem i_X5_laysAside : ciOk yX5_laysAside cX5_laysAside 2 none wsX5_laysAside 0 := ⟨⟨_, rfl⟩, by decide +kernel⟩
set_option maxHeartbeats 4000000 in
set_option maxRecDepth 100000 in
theorem c_X5_takesBack {l : Launch} {D : va_G} {cy : Nat → ClassId} {ad : Nat → Nat} {sr kS ot asd stt : Nat → Int32} {ik : Int32} {tp : Nat → Int32} {td fr tt vl wr : Int32} {bo so : Nat → Int32} {nu mv : Nat → Int64} {v : Int32} : Met l yX5_takesBack wsX5_takesBack (rmz 0 0) (wPre D (mK D cy ad) (mw cy ad sr kS ot asd stt ik tp td fr tt vl wr bo so nu mv) [.ref (ad 0), .int (v)]) (wPost D (mw cy ad asd kS ot asd stt ik tp td fr tt vl wr bo so nu mv) (some (.int (v))) (mA ad)) 0 0 (mA ad) := by
  refine wq_entry rfl rfl (Nat.le_of_ble_eq_true rfl) ?_
  intro p e s0 m args below meth c S hr hlocks hK hP ls hl
  have S : CallFix p m c cX5_takesBack 3 s0 args wsX5_takesBack RX5 := S
  obtain ⟨hx, hb, hml, hown, hts⟩ := id S
  have hin : ∀ w ∈ wsX50, w ∈ wsX5_takesBack := fun w h => List.mem_cons_of_mem _ (List.mem_append_right _ h)
  have hS : va_S (mA ad) s0.heap s0.heap [] := va_S.rf
  have hl : lv_has ls 3 [(0, .ref (ad 0)), (1, .int (v))] := hl
  generalize hQ : MQ below (wPost D (mw cy ad asd kS ot asd stt ik tp td fr tt vl wr bo so nu mv) (some (.int (v))) (mA ad)) args s0 0 0 (mA ad) = Q
  refine lv_iconst (v := nI 0) hx hb dX5_takesBack_0 (by decide) ?_
  refine lv_istore_n (lv' := [(2, .int (nI 0)), (0, .ref (ad 0)), (1, .int (v))]) hx hb dX5_takesBack_1 rfl hl (by decide) rfl (fun ls hl => ?_)
  have L_2 : ∀ (n : Nat) (j : Nat) (H : Heap) (locs : List Loc) (ls : Array Slot), j + n = 69 → va_P D vwCl (mw cy ad (cpn j asd sr) kS ot asd stt ik tp td fr tt vl wr bo so nu mv) H → va_S (mA ad) s0.heap H locs → lv_has ls 3 [(2, .int (nI j)), (0, .ref (ad 0)), (1, .int (v))] → W p l e (rmz 0 0) s0 m args below meth c H locs 0 0 Q (F0 m 2 ls []) := by
    intro n
    induction n with
    | zero =>
      intro j H locs ls hj hP hS hl
      refine lv_iload_n hx hb dX5_takesBack_2 rfl (lv_at hl 0 rfl) ?_
      refine lv_bipush (v := nI 69) hx hb dX5_takesBack_3 (by decide) ?_
      refine lvn_icmp_ge (tgt := 26) hx hb dX5_takesBack_5 (by decide) (by omega) (by omega) (fun c_5 => ?_) (fun c_5 => ?_)
      · skip
        have hj9 : j = 69 := by omega
        subst hj9
        have hP := m_ext hP (fun k h => cpn_in h) (fun _ _ => rfl) (fun _ _ => rfl) (fun _ _ => rfl)
        refine lv_iload_n hx hb dX5_takesBack_26 rfl (lv_at hl 2 rfl) ?_
        subst hQ
        exact wq_ri hx hb hr hlocks hP hS dX5_takesBack_27 rfl rfl
      · skip
        exfalso; omega
    | succ n ih_2 =>
      intro j H locs ls hj hP hS hl
      refine lv_iload_n hx hb dX5_takesBack_2 rfl (lv_at hl 0 rfl) ?_
      refine lv_bipush (v := nI 69) hx hb dX5_takesBack_3 (by decide) ?_
      refine lvn_icmp_ge (tgt := 26) hx hb dX5_takesBack_5 (by decide) (by omega) (by omega) (fun c_5 => ?_) (fun c_5 => ?_)
      · skip
        exfalso; omega
      · skip
        refine lv_aload_n hx hb dX5_takesBack_8 rfl (lv_at hl 1 rfl) ?_
        refine m_get hx hb hts hin hown hK hP 0 (by decide) (hts (.fieldLink RX5 7 "PennyRoadModel" "s" "[I") (by decide +kernel)) rfl dX5_takesBack_9 ?_
        refine lv_iload_n hx hb dX5_takesBack_12 rfl (lv_at hl 0 rfl) ?_
        refine lv_aload_n hx hb dX5_takesBack_13 rfl (lv_at hl 1 rfl) ?_
        refine m_get hx hb hts hin hown hK hP 3 (by decide) (hts (.fieldLink RX5 19 "PennyRoadModel" "aside" "[I") (by decide +kernel)) rfl dX5_takesBack_14 ?_
        refine lv_iload_n hx hb dX5_takesBack_17 rfl (lv_at hl 0 rfl) ?_
        refine m_ald hx hb hK hP 4 rfl (by decide) (by omega) dX5_takesBack_18 ?_
        refine m_ast (w' := (mw cy ad (upd (cpn j asd sr) j (asd j)) kS ot asd stt ik tp td fr tt vl wr bo so nu mv)) hx hb hK hP hS 1 rfl (by decide) (by omega) rfl dX5_takesBack_19 (fun H locs hP hS => ?_)
        refine lv_iinc (v := nI (j + 1)) (lv' := [(2, .int (nI (j + 1))), (0, .ref (ad 0)), (1, .int (v))]) hx hb dX5_takesBack_20 hl (k := 0) rfl (nI_add _ _) (by decide) rfl (fun ls hl => ?_)
        refine lv_goto (tgt := 2) hx hb dX5_takesBack_23 (by decide) ?_
        exact ih_2 (j + 1) _ _ ls (by omega) (by rw [cpn_s] at hP; exact hP) hS hl
  exact L_2 69 0 _ _ ls (by omega) (by rw [cpn_0]; exact hP) hS hl
theorem i_X5_takesBack : ciOk yX5_takesBack cX5_takesBack 3 (some .int) wsX5_takesBack 1 := ⟨⟨_, rfl⟩, by decide +kernel⟩
set_option maxHeartbeats 4000000 in
set_option maxRecDepth 100000 in
theorem c_X5_thoseAt {l : Launch} {D : va_G} {cy : Nat → ClassId} {ad : Nat → Nat} {sr kS ot asd stt : Nat → Int32} {ik : Int32} {tp : Nat → Int32} {td fr tt vl wr : Int32} {bo so : Nat → Int32} {nu mv : Nat → Int64} {q : Int32} {N : Nat} (hN : sr 0 = nI N) (h8 : N ≤ 8) : Met l yX5_thoseAt wsX5_thoseAt (rmz 2 43) (wPre D (mK D cy ad) (mw cy ad sr kS ot asd stt ik tp td fr tt vl wr bo so nu mv) [.ref (ad 0), .int (q)]) (wPost D (mw cy ad sr kS ot asd stt ik tp td fr tt vl wr bo so nu mv) (some (.int (thoseL sr q N 0 (nI 0)))) (mA ad)) 0 0 (mA ad) := by
  refine wq_entry rfl rfl (Nat.le_of_ble_eq_true rfl) ?_
  intro p e s0 m args below meth c S hr hlocks hK hP ls hl
  have S : CallFix p m c cX5_thoseAt 4 s0 args wsX5_thoseAt RX5 := S
  obtain ⟨hx, hb, hml, hown, hts⟩ := id S
  have hin : ∀ w ∈ wsX50, w ∈ wsX5_thoseAt := fun w h => List.mem_cons_of_mem _ (List.mem_append_right _ h)
  have hS : va_S (mA ad) s0.heap s0.heap [] := va_S.rf
  have hl : lv_has ls 4 [(0, .ref (ad 0)), (1, .int (q))] := hl
  generalize hQ : MQ below (wPost D (mw cy ad sr kS ot asd stt ik tp td fr tt vl wr bo so nu mv) (some (.int (thoseL sr q N 0 (nI 0)))) (mA ad)) args s0 0 0 (mA ad) = Q
  refine lv_iconst (v := nI 0) hx hb dX5_thoseAt_0 (by decide) ?_
  refine lv_istore_n (lv' := [(2, .int (nI 0)), (0, .ref (ad 0)), (1, .int (q))]) hx hb dX5_thoseAt_1 rfl hl (by decide) rfl (fun ls hl => ?_)
  refine lv_iconst (v := nI 0) hx hb dX5_thoseAt_2 (by decide) ?_
  refine lv_istore_n (lv' := [(3, .int (nI 0)), (2, .int (nI 0)), (0, .ref (ad 0)), (1, .int (q))]) hx hb dX5_thoseAt_3 rfl hl (by decide) rfl (fun ls hl => ?_)
  have L_4 : ∀ (n : Nat) (j : Nat) (acc : Int32) (H : Heap) (locs : List Loc) (ls : Array Slot), j + n = N → thoseL sr q N 0 (nI 0) = thoseL sr q n j acc → va_P D vwCl (mw cy ad sr kS ot asd stt ik tp td fr tt vl wr bo so nu mv) H → va_S (mA ad) s0.heap H locs → lv_has ls 4 [(3, .int (nI j)), (2, .int (acc)), (0, .ref (ad 0)), (1, .int (q))] → W p l e (rmz 2 43) s0 m args below meth c H locs 0 0 Q (F0 m 4 ls []) := by
    intro n
    induction n with
    | zero =>
      intro j acc H locs ls hj hF hP hS hl
      refine lv_iload_n hx hb dX5_thoseAt_4 rfl (lv_at hl 0 rfl) ?_
      refine lv_aload_n hx hb dX5_thoseAt_5 rfl (lv_at hl 2 rfl) ?_
      refine m_get hx hb hts hin hown hK hP 0 (by decide) (hts (.fieldLink RX5 7 "PennyRoadModel" "s" "[I") (by decide +kernel)) rfl dX5_thoseAt_6 ?_
      refine lv_iconst (v := nI 0) hx hb dX5_thoseAt_9 (by decide) ?_
      refine m_ald hx hb hK hP 1 rfl (by decide) (by omega) dX5_thoseAt_10 ?_
      refine lv_top hN ?_
      refine lvn_icmp_ge (tgt := 40) hx hb dX5_thoseAt_11 (by decide) (by omega) (by omega) (fun c_11 => ?_) (fun c_11 => ?_)
      · skip
        refine lv_iload_n hx hb dX5_thoseAt_40 rfl (lv_at hl 1 rfl) ?_
        subst hQ
        exact wq_ri hx hb hr hlocks hP hS dX5_thoseAt_41 (by rw [hF]; rfl) rfl
      · skip
        exfalso; omega
    | succ n ih_4 =>
      intro j acc H locs ls hj hF hP hS hl
      refine lv_iload_n hx hb dX5_thoseAt_4 rfl (lv_at hl 0 rfl) ?_
      refine lv_aload_n hx hb dX5_thoseAt_5 rfl (lv_at hl 2 rfl) ?_
      refine m_get hx hb hts hin hown hK hP 0 (by decide) (hts (.fieldLink RX5 7 "PennyRoadModel" "s" "[I") (by decide +kernel)) rfl dX5_thoseAt_6 ?_
      refine lv_iconst (v := nI 0) hx hb dX5_thoseAt_9 (by decide) ?_
      refine m_ald hx hb hK hP 1 rfl (by decide) (by omega) dX5_thoseAt_10 ?_
      refine lv_top hN ?_
      refine lvn_icmp_ge (tgt := 40) hx hb dX5_thoseAt_11 (by decide) (by omega) (by omega) (fun c_11 => ?_) (fun c_11 => ?_)
      · skip
        exfalso; omega
      · skip
        refine lv_iload_n hx hb dX5_thoseAt_14 rfl (lv_at hl 1 rfl) ?_
        refine lv_aload_n hx hb dX5_thoseAt_15 rfl (lv_at hl 2 rfl) ?_
        refine lv_iload_n hx hb dX5_thoseAt_16 rfl (lv_at hl 0 rfl) ?_
        refine lv_iconst (v := nI 1) hx hb dX5_thoseAt_17 (by decide) ?_
        refine wq_V S mK_ok hK hP hS (c_X5_its (by omega) (by omega)) gX5_thoseAt_X5_its i_X5_its rfl (m_rec hK hP) ⟨Nat.le_of_ble_eq_true rfl, Nat.le_of_ble_eq_true rfl⟩ rfl hl.1 (As := [.int (nI j), .int (nI 1)]) (rest := [.int (acc)]) (st1 := [.int (sr (5 + 8 * j + 1)), .int (acc)]) rfl rfl (Nat.le_of_ble_eq_true rfl) ⟨Nat.le_of_ble_eq_true rfl, Nat.le_of_ble_eq_true rfl⟩ dX5_thoseAt_18 (fun H locs hP hS => ?_)
        refine lv_iload_n hx hb dX5_thoseAt_21 rfl (lv_at hl 3 rfl) ?_
        have K_1 : ∀ (x_2 : Int32) (H : Heap) (locs : List Loc) (ls : Array Slot), x_2 = (if (sr (5 + 8 * j + 1)) = (q) then ((nI 1) <<< ((nI j) &&& 31)) else (nI 0)) → va_P D vwCl (mw cy ad sr kS ot asd stt ik tp td fr tt vl wr bo so nu mv) H → va_S (mA ad) s0.heap H locs → lv_has ls 4 [(3, .int (nI j)), (2, .int (acc)), (0, .ref (ad 0)), (1, .int (q))] → W p l e (rmz 2 43) s0 m args below meth c H locs 0 0 Q (F0 m 32 ls [.int (x_2), .int (acc)]) := by
          intro x_2 H locs ls ex_2 hP hS hl
          refine lv_ior hx hb dX5_thoseAt_32 ?_
          refine lv_istore_n (lv' := [(2, .int ((acc) ||| (x_2))), (3, .int (nI j)), (0, .ref (ad 0)), (1, .int (q))]) hx hb dX5_thoseAt_33 rfl hl (by decide) rfl (fun ls hl => ?_)
          refine lv_iinc (v := nI (j + 1)) (lv' := [(3, .int (nI (j + 1))), (2, .int ((acc) ||| (x_2))), (0, .ref (ad 0)), (1, .int (q))]) hx hb dX5_thoseAt_34 hl (k := 1) rfl (nI_add _ _) (by decide) rfl (fun ls hl => ?_)
          refine lv_goto (tgt := 4) hx hb dX5_thoseAt_37 (by decide) ?_
          exact ih_4 (j + 1) _ _ _ ls (by omega) (by subst ex_2; exact hF) hP hS hl
        refine lv_icmp_ne (tgt := 31) hx hb dX5_thoseAt_22 (by decide) (fun c_22 => ?_) (fun c_22 => ?_)
        · skip
          refine lv_iconst (v := nI 0) hx hb dX5_thoseAt_31 (by decide) ?_
          exact K_1 (nI 0) _ _ ls (by simp only [if_neg c_22]) hP hS hl
        · skip
          refine lv_iconst (v := nI 1) hx hb dX5_thoseAt_25 (by decide) ?_
          refine lv_iload_n hx hb dX5_thoseAt_26 rfl (lv_at hl 0 rfl) ?_
          refine lv_ishl hx hb dX5_thoseAt_27 ?_
          refine lv_goto (tgt := 32) hx hb dX5_thoseAt_28 (by decide) ?_
          exact K_1 ((nI 1) <<< ((nI j) &&& 31)) _ _ ls (by simp only [if_pos c_22]) hP hS hl
  exact L_4 N 0 (nI 0) _ _ ls (by omega) rfl hP hS hl
theorem i_X5_thoseAt : ciOk yX5_thoseAt cX5_thoseAt 4 (some .int) wsX5_thoseAt 1 := ⟨⟨_, rfl⟩, by decide +kernel⟩
set_option maxHeartbeats 4000000 in
set_option maxRecDepth 100000 in
theorem c_X5_adds {l : Launch} {D : va_G} {cy : Nat → ClassId} {ad : Nat → Nat} {sr kS ot asd stt : Nat → Int32} {ik : Int32} {tp : Nat → Int32} {td fr tt vl wr : Int32} {bo so : Nat → Int32} {nu mv : Nat → Int64} {kd : Int32} {ml : Int32} {N : Nat} (hN : sr 0 = nI N) (h8 : N < 8) : Met l yX5_adds wsX5_adds (rmz 1 21) (wPre D (mK D cy ad) (mw cy ad sr kS ot asd stt ik tp td fr tt vl wr bo so nu mv) [.ref (ad 0), .int (kd), .int (ml)]) (wPost D (mw cy ad (addF sr N kd ml) kS ot asd stt ik tp td fr tt vl wr bo so nu mv) (some (.int (nI N))) (mA ad)) 0 0 (mA ad) := by
  refine wq_entry rfl rfl (Nat.le_of_ble_eq_true rfl) ?_
  intro p e s0 m args below meth c S hr hlocks hK hP ls hl
  have S : CallFix p m c cX5_adds 5 s0 args wsX5_adds RX5 := S
  obtain ⟨hx, hb, hml, hown, hts⟩ := id S
  have hin : ∀ w ∈ wsX50, w ∈ wsX5_adds := fun w h => List.mem_cons_of_mem _ (List.mem_append_right _ h)
  have hS : va_S (mA ad) s0.heap s0.heap [] := va_S.rf
  have hl : lv_has ls 5 [(0, .ref (ad 0)), (1, .int (kd)), (2, .int (ml))] := hl
  generalize hQ : MQ below (wPost D (mw cy ad (addF sr N kd ml) kS ot asd stt ik tp td fr tt vl wr bo so nu mv) (some (.int (nI N))) (mA ad)) args s0 0 0 (mA ad) = Q
  refine lv_aload_n hx hb dX5_adds_0 rfl (lv_at hl 0 rfl) ?_
  refine m_get hx hb hts hin hown hK hP 0 (by decide) (hts (.fieldLink RX5 7 "PennyRoadModel" "s" "[I") (by decide +kernel)) rfl dX5_adds_1 ?_
  refine lv_iconst (v := nI 0) hx hb dX5_adds_4 (by decide) ?_
  refine m_ald hx hb hK hP 1 rfl (by decide) (by omega) dX5_adds_5 ?_
  refine lv_top hN ?_
  refine lv_istore_n (lv' := [(3, .int (nI N)), (0, .ref (ad 0)), (1, .int (kd)), (2, .int (ml))]) hx hb dX5_adds_6 rfl hl (by decide) rfl (fun ls hl => ?_)
  refine lv_iconst (v := nI 0) hx hb dX5_adds_7 (by decide) ?_
  refine lv_istore (lv' := [(4, .int (nI 0)), (3, .int (nI N)), (0, .ref (ad 0)), (1, .int (kd)), (2, .int (ml))]) hx hb dX5_adds_8 hl (by decide) rfl (fun ls hl => ?_)
  have L_10 : ∀ (n : Nat) (j : Nat) (H : Heap) (locs : List Loc) (ls : Array Slot), j + n = 8 → va_P D vwCl (mw cy ad (zrn sr N j) kS ot asd stt ik tp td fr tt vl wr bo so nu mv) H → va_S (mA ad) s0.heap H locs → lv_has ls 5 [(4, .int (nI j)), (3, .int (nI N)), (0, .ref (ad 0)), (1, .int (kd)), (2, .int (ml))] → W p l e (rmz 1 21) s0 m args below meth c H locs 0 0 Q (F0 m 10 ls []) := by
    intro n
    induction n with
    | zero =>
      intro j H locs ls hj hP hS hl
      refine lv_iload hx hb dX5_adds_10 (lv_at hl 0 rfl) ?_
      refine lv_bipush (v := nI 8) hx hb dX5_adds_12 (by decide) ?_
      refine lvn_icmp_ge (tgt := 35) hx hb dX5_adds_14 (by decide) (by omega) (by omega) (fun c_14 => ?_) (fun c_14 => ?_)
      · skip
        have hj9 : j = 8 := by omega
        subst hj9
        refine lv_aload_n hx hb dX5_adds_35 rfl (lv_at hl 2 rfl) ?_
        refine m_get hx hb hts hin hown hK hP 0 (by decide) (hts (.fieldLink RX5 7 "PennyRoadModel" "s" "[I") (by decide +kernel)) rfl dX5_adds_36 ?_
        refine lv_iload_n hx hb dX5_adds_39 rfl (lv_at hl 1 rfl) ?_
        refine lv_iconst (v := nI 0) hx hb dX5_adds_40 (by decide) ?_
        refine sq_S S (c_X5_spotOf) gX5_adds_X5_spotOf i_X5_spotOf ⟨Nat.le_of_ble_eq_true rfl, Nat.le_of_ble_eq_true rfl⟩ rfl hl.1 (As := [.int (nI N), .int (nI 0)]) (rest := [.ref (ad 1)]) (st1 := [.int (nI (5 + 8 * N + 0)), .ref (ad 1)]) rfl rfl (Nat.le_of_ble_eq_true rfl) ⟨Nat.le_of_ble_eq_true rfl, Nat.le_of_ble_eq_true rfl⟩ dX5_adds_41 ?_
        refine lv_iload_n hx hb dX5_adds_44 rfl (lv_at hl 3 rfl) ?_
        refine m_ast (w' := (mw cy ad (upd (zrn sr N 8) (5 + 8 * N + 0) kd) kS ot asd stt ik tp td fr tt vl wr bo so nu mv)) hx hb hK hP hS 1 rfl (by decide) (by omega) rfl dX5_adds_45 (fun H locs hP hS => ?_)
        refine lv_aload_n hx hb dX5_adds_46 rfl (lv_at hl 2 rfl) ?_
        refine m_get hx hb hts hin hown hK hP 0 (by decide) (hts (.fieldLink RX5 7 "PennyRoadModel" "s" "[I") (by decide +kernel)) rfl dX5_adds_47 ?_
        refine lv_iload_n hx hb dX5_adds_50 rfl (lv_at hl 1 rfl) ?_
        refine lv_iconst (v := nI 1) hx hb dX5_adds_51 (by decide) ?_
        refine sq_S S (c_X5_spotOf) gX5_adds_X5_spotOf i_X5_spotOf ⟨Nat.le_of_ble_eq_true rfl, Nat.le_of_ble_eq_true rfl⟩ rfl hl.1 (As := [.int (nI N), .int (nI 1)]) (rest := [.ref (ad 1)]) (st1 := [.int (nI (5 + 8 * N + 1)), .ref (ad 1)]) rfl rfl (Nat.le_of_ble_eq_true rfl) ⟨Nat.le_of_ble_eq_true rfl, Nat.le_of_ble_eq_true rfl⟩ dX5_adds_52 ?_
        refine lv_iload_n hx hb dX5_adds_55 rfl (lv_at hl 4 rfl) ?_
        refine m_ast (w' := (mw cy ad (upd (upd (zrn sr N 8) (5 + 8 * N + 0) kd) (5 + 8 * N + 1) ml) kS ot asd stt ik tp td fr tt vl wr bo so nu mv)) hx hb hK hP hS 1 rfl (by decide) (by omega) rfl dX5_adds_56 (fun H locs hP hS => ?_)
        refine lv_aload_n hx hb dX5_adds_57 rfl (lv_at hl 2 rfl) ?_
        refine m_get hx hb hts hin hown hK hP 0 (by decide) (hts (.fieldLink RX5 7 "PennyRoadModel" "s" "[I") (by decide +kernel)) rfl dX5_adds_58 ?_
        refine lv_iload_n hx hb dX5_adds_61 rfl (lv_at hl 1 rfl) ?_
        refine lv_iconst (v := nI 2) hx hb dX5_adds_62 (by decide) ?_
        refine sq_S S (c_X5_spotOf) gX5_adds_X5_spotOf i_X5_spotOf ⟨Nat.le_of_ble_eq_true rfl, Nat.le_of_ble_eq_true rfl⟩ rfl hl.1 (As := [.int (nI N), .int (nI 2)]) (rest := [.ref (ad 1)]) (st1 := [.int (nI (5 + 8 * N + 2)), .ref (ad 1)]) rfl rfl (Nat.le_of_ble_eq_true rfl) ⟨Nat.le_of_ble_eq_true rfl, Nat.le_of_ble_eq_true rfl⟩ dX5_adds_63 ?_
        refine lv_iconst (v := nI 1) hx hb dX5_adds_66 (by decide) ?_
        refine m_ast (w' := (mw cy ad (upd (upd (upd (zrn sr N 8) (5 + 8 * N + 0) kd) (5 + 8 * N + 1) ml) (5 + 8 * N + 2) (nI 1)) kS ot asd stt ik tp td fr tt vl wr bo so nu mv)) hx hb hK hP hS 1 rfl (by decide) (by omega) rfl dX5_adds_67 (fun H locs hP hS => ?_)
        refine lv_aload_n hx hb dX5_adds_68 rfl (lv_at hl 2 rfl) ?_
        refine m_get hx hb hts hin hown hK hP 0 (by decide) (hts (.fieldLink RX5 7 "PennyRoadModel" "s" "[I") (by decide +kernel)) rfl dX5_adds_69 ?_
        refine lv_iload_n hx hb dX5_adds_72 rfl (lv_at hl 1 rfl) ?_
        refine lv_iconst (v := nI 3) hx hb dX5_adds_73 (by decide) ?_
        refine sq_S S (c_X5_spotOf) gX5_adds_X5_spotOf i_X5_spotOf ⟨Nat.le_of_ble_eq_true rfl, Nat.le_of_ble_eq_true rfl⟩ rfl hl.1 (As := [.int (nI N), .int (nI 3)]) (rest := [.ref (ad 1)]) (st1 := [.int (nI (5 + 8 * N + 3)), .ref (ad 1)]) rfl rfl (Nat.le_of_ble_eq_true rfl) ⟨Nat.le_of_ble_eq_true rfl, Nat.le_of_ble_eq_true rfl⟩ dX5_adds_74 ?_
        refine lv_iconst (v := nI 5) hx hb dX5_adds_77 (by decide) ?_
        refine m_ast (w' := (mw cy ad (upd (upd (upd (upd (zrn sr N 8) (5 + 8 * N + 0) kd) (5 + 8 * N + 1) ml) (5 + 8 * N + 2) (nI 1)) (5 + 8 * N + 3) (nI 5)) kS ot asd stt ik tp td fr tt vl wr bo so nu mv)) hx hb hK hP hS 1 rfl (by decide) (by omega) rfl dX5_adds_78 (fun H locs hP hS => ?_)
        refine lv_aload_n hx hb dX5_adds_79 rfl (lv_at hl 2 rfl) ?_
        refine m_get hx hb hts hin hown hK hP 0 (by decide) (hts (.fieldLink RX5 7 "PennyRoadModel" "s" "[I") (by decide +kernel)) rfl dX5_adds_80 ?_
        refine lv_iconst (v := nI 0) hx hb dX5_adds_83 (by decide) ?_
        refine lv_dup2_11 hx hb dX5_adds_84 rfl rfl ?_
        refine m_ald hx hb hK hP 1 rfl (by decide) (by omega) dX5_adds_85 ?_
        refine lv_top ((upd_0 (by omega)).trans ((upd_0 (by omega)).trans ((upd_0 (by omega)).trans ((upd_0 (by omega)).trans (zrn_m.trans hN))))) ?_
        refine lv_iconst (v := nI 1) hx hb dX5_adds_86 (by decide) ?_
        refine lvn_iadd hx hb dX5_adds_87 ?_
        refine m_ast (w' := (mw cy ad (upd (upd (upd (upd (upd (zrn sr N 8) (5 + 8 * N + 0) kd) (5 + 8 * N + 1) ml) (5 + 8 * N + 2) (nI 1)) (5 + 8 * N + 3) (nI 5)) 0 (nI (N + 1))) kS ot asd stt ik tp td fr tt vl wr bo so nu mv)) hx hb hK hP hS 1 rfl (by decide) (by omega) rfl dX5_adds_88 (fun H locs hP hS => ?_)
        refine lv_iload_n hx hb dX5_adds_89 rfl (lv_at hl 1 rfl) ?_
        subst hQ
        exact wq_ri hx hb hr hlocks hP hS dX5_adds_90 (by first | rfl | (simp only [if_pos c_14]; done) | (subst_vars; first | rfl | (simp only [if_pos c_14]; done) | (simp only [c_14, and_true, true_and, false_and, and_false, and_self, not_true_eq_false, not_false_eq_true, if_true, if_false, reduceIte, or_false, false_or, true_or, or_true]; done))) (by first | rfl | (simp only [if_pos c_14]; done) | (subst_vars; first | rfl | (simp only [if_pos c_14]; done) | (simp only [c_14, and_true, true_and, false_and, and_false, and_self, not_true_eq_false, not_false_eq_true, if_true, if_false, reduceIte, or_false, false_or, true_or, or_true]; done)))
      · skip
        exfalso; omega
    | succ n ih_10 =>
      intro j H locs ls hj hP hS hl
      refine lv_iload hx hb dX5_adds_10 (lv_at hl 0 rfl) ?_
      refine lv_bipush (v := nI 8) hx hb dX5_adds_12 (by decide) ?_
      refine lvn_icmp_ge (tgt := 35) hx hb dX5_adds_14 (by decide) (by omega) (by omega) (fun c_14 => ?_) (fun c_14 => ?_)
      · skip
        exfalso; omega
      · skip
        refine lv_aload_n hx hb dX5_adds_17 rfl (lv_at hl 2 rfl) ?_
        refine m_get hx hb hts hin hown hK hP 0 (by decide) (hts (.fieldLink RX5 7 "PennyRoadModel" "s" "[I") (by decide +kernel)) rfl dX5_adds_18 ?_
        refine lv_iload_n hx hb dX5_adds_21 rfl (lv_at hl 1 rfl) ?_
        refine lv_iload hx hb dX5_adds_22 (lv_at hl 0 rfl) ?_
        refine sq_S S (c_X5_spotOf) gX5_adds_X5_spotOf i_X5_spotOf ⟨Nat.le_of_ble_eq_true rfl, Nat.le_of_ble_eq_true rfl⟩ rfl hl.1 (As := [.int (nI N), .int (nI j)]) (rest := [.ref (ad 1)]) (st1 := [.int (nI (5 + 8 * N + j)), .ref (ad 1)]) rfl rfl (Nat.le_of_ble_eq_true rfl) ⟨Nat.le_of_ble_eq_true rfl, Nat.le_of_ble_eq_true rfl⟩ dX5_adds_24 ?_
        refine lv_iconst (v := nI 0) hx hb dX5_adds_27 (by decide) ?_
        refine m_ast (w' := (mw cy ad (upd (zrn sr N j) (5 + 8 * N + j) (nI 0)) kS ot asd stt ik tp td fr tt vl wr bo so nu mv)) hx hb hK hP hS 1 rfl (by decide) (by omega) rfl dX5_adds_28 (fun H locs hP hS => ?_)
        refine lv_iinc (v := nI (j + 1)) (lv' := [(4, .int (nI (j + 1))), (3, .int (nI N)), (0, .ref (ad 0)), (1, .int (kd)), (2, .int (ml))]) hx hb dX5_adds_29 hl (k := 0) rfl (nI_add _ _) (by decide) rfl (fun ls hl => ?_)
        refine lv_goto (tgt := 10) hx hb dX5_adds_32 (by decide) ?_
        exact ih_10 (j + 1) _ _ ls (by omega) (by rw [zrn_s] at hP; exact hP) hS hl
  exact L_10 8 0 _ _ ls (by omega) (by rw [zrn_0]; exact hP) hS hl
theorem i_X5_adds : ciOk yX5_adds cX5_adds 5 (some .int) wsX5_adds 2 := ⟨⟨_, rfl⟩, by decide +kernel⟩
set_option maxHeartbeats 4000000 in
set_option maxRecDepth 100000 in
theorem c_X5_paceOf {l : Launch} {D : va_G} {cy : Nat → ClassId} {ad : Nat → Nat} {sr kS ot asd stt : Nat → Int32} {ik : Int32} {tp : Nat → Int32} {td fr tt vl wr : Int32} {bo so : Nat → Int32} {nu mv : Nat → Int64} {i : Nat} {N : Nat} (hi : i < 8) (hN : sr 0 = nI N) (h8 : N ≤ 8) : Met l yX5_paceOf wsX5_paceOf (rmz 3 66) (wPre D (mK D cy ad) (mw cy ad sr kS ot asd stt ik tp td fr tt vl wr bo so nu mv) [.ref (ad 0), .int (nI i)]) (wPost D (mw cy ad sr kS ot asd stt ik tp td fr tt vl wr bo so nu mv) (some (.int (paceF sr N i))) (mA ad)) 0 0 (mA ad) := by
  refine wq_entry rfl rfl (Nat.le_of_ble_eq_true rfl) ?_
  intro p e s0 m args below meth c S hr hlocks hK hP ls hl
  have S : CallFix p m c cX5_paceOf 3 s0 args wsX5_paceOf RX5 := S
  obtain ⟨hx, hb, hml, hown, hts⟩ := id S
  have hin : ∀ w ∈ wsX50, w ∈ wsX5_paceOf := fun w h => List.mem_cons_of_mem _ (List.mem_append_right _ h)
  have hS : va_S (mA ad) s0.heap s0.heap [] := va_S.rf
  have hl : lv_has ls 3 [(0, .ref (ad 0)), (1, .int (nI i))] := hl
  generalize hQ : MQ below (wPost D (mw cy ad sr kS ot asd stt ik tp td fr tt vl wr bo so nu mv) (some (.int (paceF sr N i))) (mA ad)) args s0 0 0 (mA ad) = Q
  refine lv_aload_n hx hb dX5_paceOf_0 rfl (lv_at hl 0 rfl) ?_
  refine lv_iload_n hx hb dX5_paceOf_1 rfl (lv_at hl 1 rfl) ?_
  refine lv_iconst (v := nI 4) hx hb dX5_paceOf_2 (by decide) ?_
  refine wq_V S mK_ok hK hP hS (c_X5_its (by omega) (by omega)) gX5_paceOf_X5_its i_X5_its rfl (m_rec hK hP) ⟨Nat.le_of_ble_eq_true rfl, Nat.le_of_ble_eq_true rfl⟩ rfl hl.1 (As := [.int (nI i), .int (nI 4)]) (rest := []) (st1 := [.int (sr (5 + 8 * i + 4))]) rfl rfl (Nat.le_of_ble_eq_true rfl) ⟨Nat.le_of_ble_eq_true rfl, Nat.le_of_ble_eq_true rfl⟩ dX5_paceOf_3 (fun H locs hP hS => ?_)
  refine lv_bipush (v := nI 9) hx hb dX5_paceOf_6 (by decide) ?_
  have K_1 : ∀ (x_2 : Int32) (H : Heap) (locs : List Loc) (ls : Array Slot), x_2 = (if (sr (5 + 8 * i + 4)) ≤ (nI 9) then (nI 3) else (nI 2)) → va_P D vwCl (mw cy ad sr kS ot asd stt ik tp td fr tt vl wr bo so nu mv) H → va_S (mA ad) s0.heap H locs → lv_has ls 3 [(0, .ref (ad 0)), (1, .int (nI i))] → W p l e (rmz 3 66) s0 m args below meth c H locs 0 0 Q (F0 m 16 ls [.int (x_2)]) := by
    intro x_2 H locs ls ex_2 hP hS hl
    refine lv_istore_n (lv' := [(2, .int (x_2)), (0, .ref (ad 0)), (1, .int (nI i))]) hx hb dX5_paceOf_16 rfl hl (by decide) rfl (fun ls hl => ?_)
    refine lv_aload_n hx hb dX5_paceOf_17 rfl (lv_at hl 1 rfl) ?_
    refine lv_iload_n hx hb dX5_paceOf_18 rfl (lv_at hl 2 rfl) ?_
    refine lv_iconst (v := nI 0) hx hb dX5_paceOf_19 (by decide) ?_
    refine wq_V S mK_ok hK hP hS (c_X5_its (by omega) (by omega)) gX5_paceOf_X5_its i_X5_its rfl (m_rec hK hP) ⟨Nat.le_of_ble_eq_true rfl, Nat.le_of_ble_eq_true rfl⟩ rfl hl.1 (As := [.int (nI i), .int (nI 0)]) (rest := []) (st1 := [.int (sr (5 + 8 * i + 0))]) rfl rfl (Nat.le_of_ble_eq_true rfl) ⟨Nat.le_of_ble_eq_true rfl, Nat.le_of_ble_eq_true rfl⟩ dX5_paceOf_20 (fun H locs hP hS => ?_)
    by_cases c_23_2 : sr (5 + 8 * i + 0) = nI 2
    · skip
      refine lv_tableIn (tgt := 52) hx hb dX5_paceOf_23 (by rw [c_23_2]; decide) (by rw [c_23_2]; decide) (by rw [c_23_2]; rfl) (by decide) ?_
      refine lv_aload_n hx hb dX5_paceOf_52 rfl (lv_at hl 1 rfl) ?_
      refine lv_aload_n hx hb dX5_paceOf_53 rfl (lv_at hl 1 rfl) ?_
      refine lv_iload_n hx hb dX5_paceOf_54 rfl (lv_at hl 2 rfl) ?_
      refine lv_iconst (v := nI 1) hx hb dX5_paceOf_55 (by decide) ?_
      refine wq_V S mK_ok hK hP hS (c_X5_its (by omega) (by omega)) gX5_paceOf_X5_its i_X5_its rfl (m_rec hK hP) ⟨Nat.le_of_ble_eq_true rfl, Nat.le_of_ble_eq_true rfl⟩ rfl hl.1 (As := [.int (nI i), .int (nI 1)]) (rest := [.ref (ad 0)]) (st1 := [.int (sr (5 + 8 * i + 1)), .ref (ad 0)]) rfl rfl (Nat.le_of_ble_eq_true rfl) ⟨Nat.le_of_ble_eq_true rfl, Nat.le_of_ble_eq_true rfl⟩ dX5_paceOf_56 (fun H locs hP hS => ?_)
      refine wq_V S mK_ok hK hP hS (c_X5_thoseAt hN h8) gX5_paceOf_X5_thoseAt i_X5_thoseAt rfl (m_rec hK hP) ⟨Nat.le_of_ble_eq_true rfl, Nat.le_of_ble_eq_true rfl⟩ rfl hl.1 (As := [.int (sr (5 + 8 * i + 1))]) (rest := []) (st1 := [.int (thoseL sr (sr (5 + 8 * i + 1)) N 0 (nI 0))]) rfl rfl (Nat.le_of_ble_eq_true rfl) ⟨Nat.le_of_ble_eq_true rfl, Nat.le_of_ble_eq_true rfl⟩ dX5_paceOf_59 (fun H locs hP hS => ?_)
      refine lv_iconst (v := nI 1) hx hb dX5_paceOf_62 (by decide) ?_
      refine lv_iload_n hx hb dX5_paceOf_63 rfl (lv_at hl 2 rfl) ?_
      refine lv_ishl hx hb dX5_paceOf_64 ?_
      refine lv_icmp_ne (tgt := 72) hx hb dX5_paceOf_65 (by decide) (fun c_65 => ?_) (fun c_65 => ?_)
      · skip
        refine lv_iload_n hx hb dX5_paceOf_72 rfl (lv_at hl 0 rfl) ?_
        refine lv_iconst (v := nI 1) hx hb dX5_paceOf_73 (by decide) ?_
        refine lv_iadd hx hb dX5_paceOf_74 ?_
        subst hQ
        exact wq_ri hx hb hr hlocks hP hS dX5_paceOf_75 (by first | rfl | (simp only [paceF, plainF, if_pos c_23_2, if_neg c_65]; done) | (subst_vars; first | rfl | (simp only [paceF, plainF, if_pos c_23_2, if_neg c_65]; done) | (simp only [paceF, plainF, c_23_2, c_65, and_true, true_and, false_and, and_false, and_self, not_true_eq_false, not_false_eq_true, if_true, if_false, reduceIte, or_false, false_or, true_or, or_true]; done))) rfl
      · skip
        refine lv_iload_n hx hb dX5_paceOf_68 rfl (lv_at hl 0 rfl) ?_
        refine lv_goto (tgt := 75) hx hb dX5_paceOf_69 (by decide) ?_
        subst hQ
        exact wq_ri hx hb hr hlocks hP hS dX5_paceOf_75 (by first | rfl | (simp only [paceF, plainF, if_pos c_23_2, if_pos c_65]; done) | (subst_vars; first | rfl | (simp only [paceF, plainF, if_pos c_23_2, if_pos c_65]; done) | (simp only [paceF, plainF, c_23_2, c_65, and_true, true_and, false_and, and_false, and_self, not_true_eq_false, not_false_eq_true, if_true, if_false, reduceIte, or_false, false_or, true_or, or_true]; done))) rfl
    by_cases c_23_3 : sr (5 + 8 * i + 0) = nI 3
    · skip
      refine lv_tableIn (tgt := 76) hx hb dX5_paceOf_23 (by rw [c_23_3]; decide) (by rw [c_23_3]; decide) (by rw [c_23_3]; rfl) (by decide) ?_
      refine lv_iload_n hx hb dX5_paceOf_76 rfl (lv_at hl 0 rfl) ?_
      refine lv_iconst (v := nI 2) hx hb dX5_paceOf_77 (by decide) ?_
      refine lv_idiv hx hb dX5_paceOf_78 (by decide) ?_
      subst hQ
      exact wq_ri hx hb hr hlocks hP hS dX5_paceOf_79 (by first | rfl | (simp only [paceF, plainF, if_neg c_23_2, if_pos c_23_3]; done) | (subst_vars; first | rfl | (simp only [paceF, plainF, if_neg c_23_2, if_pos c_23_3]; done) | (simp only [paceF, plainF, c_23_2, c_23_3, and_true, true_and, false_and, and_false, and_self, not_true_eq_false, not_false_eq_true, if_true, if_false, reduceIte, or_false, false_or, true_or, or_true]; done))) rfl
    by_cases c_23_4 : sr (5 + 8 * i + 0) = nI 4
    · skip
      refine lv_tableIn (tgt := 80) hx hb dX5_paceOf_23 (by rw [c_23_4]; decide) (by rw [c_23_4]; decide) (by rw [c_23_4]; rfl) (by decide) ?_
      refine lv_aload_n hx hb dX5_paceOf_80 rfl (lv_at hl 1 rfl) ?_
      refine lv_iload_n hx hb dX5_paceOf_81 rfl (lv_at hl 2 rfl) ?_
      refine lv_iconst (v := nI 3) hx hb dX5_paceOf_82 (by decide) ?_
      refine wq_V S mK_ok hK hP hS (c_X5_its (by omega) (by omega)) gX5_paceOf_X5_its i_X5_its rfl (m_rec hK hP) ⟨Nat.le_of_ble_eq_true rfl, Nat.le_of_ble_eq_true rfl⟩ rfl hl.1 (As := [.int (nI i), .int (nI 3)]) (rest := []) (st1 := [.int (sr (5 + 8 * i + 3))]) rfl rfl (Nat.le_of_ble_eq_true rfl) ⟨Nat.le_of_ble_eq_true rfl, Nat.le_of_ble_eq_true rfl⟩ dX5_paceOf_83 (fun H locs hP hS => ?_)
      refine lv_if_ne (tgt := 95) hx hb dX5_paceOf_86 (by decide) (fun c_86 => ?_) (fun c_86 => ?_)
      · skip
        refine lv_iload_n hx hb dX5_paceOf_95 rfl (lv_at hl 0 rfl) ?_
        subst hQ
        exact wq_ri hx hb hr hlocks hP hS dX5_paceOf_96 (by first | rfl | (simp only [paceF, plainF, if_neg c_23_2, if_neg c_23_3, if_pos c_23_4, if_neg c_86]; done) | (subst_vars; first | rfl | (simp only [paceF, plainF, if_neg c_23_2, if_neg c_23_3, if_pos c_23_4, if_neg c_86]; done) | (simp only [paceF, plainF, c_23_2, c_23_3, c_23_4, c_86, and_true, true_and, false_and, and_false, and_self, not_true_eq_false, not_false_eq_true, if_true, if_false, reduceIte, or_false, false_or, true_or, or_true]; done))) rfl
      · skip
        refine lv_iload_n hx hb dX5_paceOf_89 rfl (lv_at hl 0 rfl) ?_
        refine lv_iconst (v := nI 1) hx hb dX5_paceOf_90 (by decide) ?_
        refine lv_iadd hx hb dX5_paceOf_91 ?_
        refine lv_goto (tgt := 96) hx hb dX5_paceOf_92 (by decide) ?_
        subst hQ
        exact wq_ri hx hb hr hlocks hP hS dX5_paceOf_96 (by first | rfl | (simp only [paceF, plainF, if_neg c_23_2, if_neg c_23_3, if_pos c_23_4, if_pos c_86]; done) | (subst_vars; first | rfl | (simp only [paceF, plainF, if_neg c_23_2, if_neg c_23_3, if_pos c_23_4, if_pos c_86]; done) | (simp only [paceF, plainF, c_23_2, c_23_3, c_23_4, c_86, and_true, true_and, false_and, and_false, and_self, not_true_eq_false, not_false_eq_true, if_true, if_false, reduceIte, or_false, false_or, true_or, or_true]; done))) rfl
    by_cases c_23_5 : sr (5 + 8 * i + 0) = nI 5
    · skip
      refine lv_tableIn (tgt := 97) hx hb dX5_paceOf_23 (by rw [c_23_5]; decide) (by rw [c_23_5]; decide) (by rw [c_23_5]; rfl) (by decide) ?_
      refine lv_iload_n hx hb dX5_paceOf_97 rfl (lv_at hl 0 rfl) ?_
      refine lv_iconst (v := nI 2) hx hb dX5_paceOf_98 (by decide) ?_
      refine lv_idiv hx hb dX5_paceOf_99 (by decide) ?_
      refine lv_aload_n hx hb dX5_paceOf_100 rfl (lv_at hl 1 rfl) ?_
      refine m_get hx hb hts hin hown hK hP 0 (by decide) (hts (.fieldLink RX5 7 "PennyRoadModel" "s" "[I") (by decide +kernel)) rfl dX5_paceOf_101 ?_
      refine lv_iconst (v := nI 4) hx hb dX5_paceOf_104 (by decide) ?_
      refine m_ald hx hb hK hP 1 rfl (by decide) (by omega) dX5_paceOf_105 ?_
      refine lv_iadd hx hb dX5_paceOf_106 ?_
      subst hQ
      exact wq_ri hx hb hr hlocks hP hS dX5_paceOf_107 (by first | rfl | (simp only [paceF, plainF, if_neg c_23_2, if_neg c_23_3, if_neg c_23_4, if_pos c_23_5]; done) | (subst_vars; first | rfl | (simp only [paceF, plainF, if_neg c_23_2, if_neg c_23_3, if_neg c_23_4, if_pos c_23_5]; done) | (simp only [paceF, plainF, c_23_2, c_23_3, c_23_4, c_23_5, and_true, true_and, false_and, and_false, and_self, not_true_eq_false, not_false_eq_true, if_true, if_false, reduceIte, or_false, false_or, true_or, or_true]; done))) rfl
    refine lv_tableOut (tgt := 108) hx hb dX5_paceOf_23 (by have h0 : (sr (5 + 8 * i + 0)).toInt ≠ 2 := ne_int c_23_2; have h1 : (sr (5 + 8 * i + 0)).toInt ≠ 3 := ne_int c_23_3; have h2 : (sr (5 + 8 * i + 0)).toInt ≠ 4 := ne_int c_23_4; have h3 : (sr (5 + 8 * i + 0)).toInt ≠ 5 := ne_int c_23_5; omega) (by decide) ?_
    refine lv_iload_n hx hb dX5_paceOf_108 rfl (lv_at hl 0 rfl) ?_
    subst hQ
    exact wq_ri hx hb hr hlocks hP hS dX5_paceOf_109 (by first | rfl | (simp only [paceF, plainF, if_neg c_23_2, if_neg c_23_3, if_neg c_23_4, if_neg c_23_5]; done) | (subst_vars; first | rfl | (simp only [paceF, plainF, if_neg c_23_2, if_neg c_23_3, if_neg c_23_4, if_neg c_23_5]; done) | (simp only [paceF, plainF, c_23_2, c_23_3, c_23_4, c_23_5, and_true, true_and, false_and, and_false, and_self, not_true_eq_false, not_false_eq_true, if_true, if_false, reduceIte, or_false, false_or, true_or, or_true]; done))) rfl
  refine lv_icmp_le (tgt := 15) hx hb dX5_paceOf_8 (by decide) (fun c_8 => ?_) (fun c_8 => ?_)
  · skip
    refine lv_iconst (v := nI 3) hx hb dX5_paceOf_15 (by decide) ?_
    exact K_1 (nI 3) _ _ ls (by simp only [if_pos c_8]) hP hS hl
  · skip
    refine lv_iconst (v := nI 2) hx hb dX5_paceOf_11 (by decide) ?_
    refine lv_goto (tgt := 16) hx hb dX5_paceOf_12 (by decide) ?_
    exact K_1 (nI 2) _ _ ls (by simp only [if_neg c_8]) hP hS hl
theorem i_X5_paceOf : ciOk yX5_paceOf cX5_paceOf 3 (some .int) wsX5_paceOf 1 := ⟨⟨_, rfl⟩, by decide +kernel⟩
set_option maxHeartbeats 4000000 in
set_option maxRecDepth 100000 in
theorem c_X5_payOf {l : Launch} {D : va_G} {cy : Nat → ClassId} {ad : Nat → Nat} {sr kS ot asd stt : Nat → Int32} {ik : Int32} {tp : Nat → Int32} {td fr tt vl wr : Int32} {bo so : Nat → Int32} {nu mv : Nat → Int64} {i : Nat} (hi : i < 8) : Met l yX5_payOf wsX5_payOf (rmz 2 43) (wPre D (mK D cy ad) (mw cy ad sr kS ot asd stt ik tp td fr tt vl wr bo so nu mv) [.ref (ad 0), .int (nI i)]) (wPost D (mw cy ad sr kS ot asd stt ik tp td fr tt vl wr bo so nu mv) (some (.int (payF sr i))) (mA ad)) 0 0 (mA ad) := by
  refine wq_entry rfl rfl (Nat.le_of_ble_eq_true rfl) ?_
  intro p e s0 m args below meth c S hr hlocks hK hP ls hl
  have S : CallFix p m c cX5_payOf 4 s0 args wsX5_payOf RX5 := S
  obtain ⟨hx, hb, hml, hown, hts⟩ := id S
  have hin : ∀ w ∈ wsX50, w ∈ wsX5_payOf := fun w h => List.mem_cons_of_mem _ (List.mem_append_right _ h)
  have hS : va_S (mA ad) s0.heap s0.heap [] := va_S.rf
  have hl : lv_has ls 4 [(0, .ref (ad 0)), (1, .int (nI i))] := hl
  generalize hQ : MQ below (wPost D (mw cy ad sr kS ot asd stt ik tp td fr tt vl wr bo so nu mv) (some (.int (payF sr i))) (mA ad)) args s0 0 0 (mA ad) = Q
  refine lv_aload_n hx hb dX5_payOf_0 rfl (lv_at hl 0 rfl) ?_
  refine lv_iload_n hx hb dX5_payOf_1 rfl (lv_at hl 1 rfl) ?_
  refine lv_iconst (v := nI 5) hx hb dX5_payOf_2 (by decide) ?_
  refine wq_V S mK_ok hK hP hS (c_X5_its (by omega) (by omega)) gX5_payOf_X5_its i_X5_its rfl (m_rec hK hP) ⟨Nat.le_of_ble_eq_true rfl, Nat.le_of_ble_eq_true rfl⟩ rfl hl.1 (As := [.int (nI i), .int (nI 5)]) (rest := []) (st1 := [.int (sr (5 + 8 * i + 5))]) rfl rfl (Nat.le_of_ble_eq_true rfl) ⟨Nat.le_of_ble_eq_true rfl, Nat.le_of_ble_eq_true rfl⟩ dX5_payOf_3 (fun H locs hP hS => ?_)
  refine lv_istore_n (lv' := [(2, .int (sr (5 + 8 * i + 5))), (0, .ref (ad 0)), (1, .int (nI i))]) hx hb dX5_payOf_6 rfl hl (by decide) rfl (fun ls hl => ?_)
  refine lv_iload_n hx hb dX5_payOf_7 rfl (lv_at hl 0 rfl) ?_
  refine lv_aload_n hx hb dX5_payOf_8 rfl (lv_at hl 1 rfl) ?_
  refine m_get hx hb hts hin hown hK hP 0 (by decide) (hts (.fieldLink RX5 7 "PennyRoadModel" "s" "[I") (by decide +kernel)) rfl dX5_payOf_9 ?_
  refine lv_iconst (v := nI 3) hx hb dX5_payOf_12 (by decide) ?_
  refine m_ald hx hb hK hP 1 rfl (by decide) (by omega) dX5_payOf_13 ?_
  refine lv_imul hx hb dX5_payOf_14 ?_
  refine lv_iload_n hx hb dX5_payOf_15 rfl (lv_at hl 0 rfl) ?_
  refine lv_aload_n hx hb dX5_payOf_16 rfl (lv_at hl 1 rfl) ?_
  refine m_get hx hb hts hin hown hK hP 0 (by decide) (hts (.fieldLink RX5 7 "PennyRoadModel" "s" "[I") (by decide +kernel)) rfl dX5_payOf_17 ?_
  refine lv_iconst (v := nI 4) hx hb dX5_payOf_20 (by decide) ?_
  refine m_ald hx hb hK hP 1 rfl (by decide) (by omega) dX5_payOf_21 ?_
  refine lv_imul hx hb dX5_payOf_22 ?_
  refine lv_iadd hx hb dX5_payOf_23 ?_
  refine lv_istore_n (lv' := [(3, .int (((sr (5 + 8 * i + 5)) * (sr 3)) + ((sr (5 + 8 * i + 5)) * (sr 4)))), (2, .int (sr (5 + 8 * i + 5))), (0, .ref (ad 0)), (1, .int (nI i))]) hx hb dX5_payOf_24 rfl hl (by decide) rfl (fun ls hl => ?_)
  refine lv_aload_n hx hb dX5_payOf_25 rfl (lv_at hl 2 rfl) ?_
  refine lv_iload_n hx hb dX5_payOf_26 rfl (lv_at hl 3 rfl) ?_
  refine lv_iconst (v := nI 0) hx hb dX5_payOf_27 (by decide) ?_
  refine wq_V S mK_ok hK hP hS (c_X5_its (by omega) (by omega)) gX5_payOf_X5_its i_X5_its rfl (m_rec hK hP) ⟨Nat.le_of_ble_eq_true rfl, Nat.le_of_ble_eq_true rfl⟩ rfl hl.1 (As := [.int (nI i), .int (nI 0)]) (rest := []) (st1 := [.int (sr (5 + 8 * i + 0))]) rfl rfl (Nat.le_of_ble_eq_true rfl) ⟨Nat.le_of_ble_eq_true rfl, Nat.le_of_ble_eq_true rfl⟩ dX5_payOf_28 (fun H locs hP hS => ?_)
  by_cases c_31_1 : sr (5 + 8 * i + 0) = nI 1
  · skip
    refine lv_tableIn (tgt := 64) hx hb dX5_payOf_31 (by rw [c_31_1]; decide) (by rw [c_31_1]; decide) (by rw [c_31_1]; rfl) (by decide) ?_
    refine lv_iload_n hx hb dX5_payOf_64 rfl (lv_at hl 0 rfl) ?_
    refine lv_iconst (v := nI 2) hx hb dX5_payOf_65 (by decide) ?_
    refine lv_iadd hx hb dX5_payOf_66 ?_
    subst hQ
    exact wq_ri hx hb hr hlocks hP hS dX5_payOf_67 (by first | rfl | (simp only [payF, payP, if_pos c_31_1]; done) | (subst_vars; first | rfl | (simp only [payF, payP, if_pos c_31_1]; done) | (simp only [payF, payP, c_31_1, and_true, true_and, false_and, and_false, and_self, not_true_eq_false, not_false_eq_true, if_true, if_false, reduceIte, or_false, false_or, true_or, or_true]; done))) rfl
  by_cases c_31_2 : sr (5 + 8 * i + 0) = nI 2
  · skip
    refine lv_tableIn (tgt := 68) hx hb dX5_payOf_31 (by rw [c_31_2]; decide) (by rw [c_31_2]; decide) (by rw [c_31_2]; rfl) (by decide) ?_
    refine lv_iconst (v := nI 2) hx hb dX5_payOf_68 (by decide) ?_
    refine lv_iload_n hx hb dX5_payOf_69 rfl (lv_at hl 0 rfl) ?_
    refine lv_imul hx hb dX5_payOf_70 ?_
    subst hQ
    exact wq_ri hx hb hr hlocks hP hS dX5_payOf_71 (by first | rfl | (simp only [payF, payP, if_neg c_31_1, if_pos c_31_2]; done) | (subst_vars; first | rfl | (simp only [payF, payP, if_neg c_31_1, if_pos c_31_2]; done) | (simp only [payF, payP, c_31_1, c_31_2, and_true, true_and, false_and, and_false, and_self, not_true_eq_false, not_false_eq_true, if_true, if_false, reduceIte, or_false, false_or, true_or, or_true]; done))) rfl
  by_cases c_31_3 : sr (5 + 8 * i + 0) = nI 3
  · skip
    refine lv_tableIn (tgt := 72) hx hb dX5_payOf_31 (by rw [c_31_3]; decide) (by rw [c_31_3]; decide) (by rw [c_31_3]; rfl) (by decide) ?_
    refine lv_iload_n hx hb dX5_payOf_72 rfl (lv_at hl 0 rfl) ?_
    refine lv_iload_n hx hb dX5_payOf_73 rfl (lv_at hl 1 rfl) ?_
    refine lv_iconst (v := nI 2) hx hb dX5_payOf_74 (by decide) ?_
    refine lv_idiv hx hb dX5_payOf_75 (by decide) ?_
    refine lv_iadd hx hb dX5_payOf_76 ?_
    subst hQ
    exact wq_ri hx hb hr hlocks hP hS dX5_payOf_77 (by first | rfl | (simp only [payF, payP, if_neg c_31_1, if_neg c_31_2, if_pos c_31_3]; done) | (subst_vars; first | rfl | (simp only [payF, payP, if_neg c_31_1, if_neg c_31_2, if_pos c_31_3]; done) | (simp only [payF, payP, c_31_1, c_31_2, c_31_3, and_true, true_and, false_and, and_false, and_self, not_true_eq_false, not_false_eq_true, if_true, if_false, reduceIte, or_false, false_or, true_or, or_true]; done))) rfl
  by_cases c_31_4 : sr (5 + 8 * i + 0) = nI 4
  · skip
    refine lv_tableIn (tgt := 64) hx hb dX5_payOf_31 (by rw [c_31_4]; decide) (by rw [c_31_4]; decide) (by rw [c_31_4]; rfl) (by decide) ?_
    refine lv_iload_n hx hb dX5_payOf_64 rfl (lv_at hl 0 rfl) ?_
    refine lv_iconst (v := nI 2) hx hb dX5_payOf_65 (by decide) ?_
    refine lv_iadd hx hb dX5_payOf_66 ?_
    subst hQ
    exact wq_ri hx hb hr hlocks hP hS dX5_payOf_67 (by first | rfl | (simp only [payF, payP, if_neg c_31_1, if_neg c_31_2, if_neg c_31_3, if_pos c_31_4]; done) | (subst_vars; first | rfl | (simp only [payF, payP, if_neg c_31_1, if_neg c_31_2, if_neg c_31_3, if_pos c_31_4]; done) | (simp only [payF, payP, c_31_1, c_31_2, c_31_3, c_31_4, and_true, true_and, false_and, and_false, and_self, not_true_eq_false, not_false_eq_true, if_true, if_false, reduceIte, or_false, false_or, true_or, or_true]; done))) rfl
  by_cases c_31_5 : sr (5 + 8 * i + 0) = nI 5
  · skip
    refine lv_tableIn (tgt := 78) hx hb dX5_payOf_31 (by rw [c_31_5]; decide) (by rw [c_31_5]; decide) (by rw [c_31_5]; rfl) (by decide) ?_
    refine lv_iconst (v := nI 0) hx hb dX5_payOf_78 (by decide) ?_
    subst hQ
    exact wq_ri hx hb hr hlocks hP hS dX5_payOf_79 (by first | rfl | (simp only [payF, payP, if_neg c_31_1, if_neg c_31_2, if_neg c_31_3, if_neg c_31_4, if_pos c_31_5]; done) | (subst_vars; first | rfl | (simp only [payF, payP, if_neg c_31_1, if_neg c_31_2, if_neg c_31_3, if_neg c_31_4, if_pos c_31_5]; done) | (simp only [payF, payP, c_31_1, c_31_2, c_31_3, c_31_4, c_31_5, and_true, true_and, false_and, and_false, and_self, not_true_eq_false, not_false_eq_true, if_true, if_false, reduceIte, or_false, false_or, true_or, or_true]; done))) rfl
  refine lv_tableOut (tgt := 80) hx hb dX5_payOf_31 (by have h0 : (sr (5 + 8 * i + 0)).toInt ≠ 1 := ne_int c_31_1; have h1 : (sr (5 + 8 * i + 0)).toInt ≠ 2 := ne_int c_31_2; have h2 : (sr (5 + 8 * i + 0)).toInt ≠ 3 := ne_int c_31_3; have h3 : (sr (5 + 8 * i + 0)).toInt ≠ 4 := ne_int c_31_4; have h4 : (sr (5 + 8 * i + 0)).toInt ≠ 5 := ne_int c_31_5; omega) (by decide) ?_
  refine lv_iload_n hx hb dX5_payOf_80 rfl (lv_at hl 0 rfl) ?_
  subst hQ
  exact wq_ri hx hb hr hlocks hP hS dX5_payOf_81 (by first | rfl | (simp only [payF, payP, if_neg c_31_1, if_neg c_31_2, if_neg c_31_3, if_neg c_31_4, if_neg c_31_5]; done) | (subst_vars; first | rfl | (simp only [payF, payP, if_neg c_31_1, if_neg c_31_2, if_neg c_31_3, if_neg c_31_4, if_neg c_31_5]; done) | (simp only [payF, payP, c_31_1, c_31_2, c_31_3, c_31_4, c_31_5, and_true, true_and, false_and, and_false, and_self, not_true_eq_false, not_false_eq_true, if_true, if_false, reduceIte, or_false, false_or, true_or, or_true]; done))) rfl
theorem i_X5_payOf : ciOk yX5_payOf cX5_payOf 4 (some .int) wsX5_payOf 1 := ⟨⟨_, rfl⟩, by decide +kernel⟩
set_option maxHeartbeats 4000000 in
set_option maxRecDepth 100000 in
theorem c_X5_wearsOf {l : Launch} {D : va_G} {cy : Nat → ClassId} {ad : Nat → Nat} {sr kS ot asd stt : Nat → Int32} {ik : Int32} {tp : Nat → Int32} {td fr tt vl wr : Int32} {bo so : Nat → Int32} {nu mv : Nat → Int64} {i : Nat} (hi : i < 8) : Met l yX5_wearsOf wsX5_wearsOf (rmz 2 43) (wPre D (mK D cy ad) (mw cy ad sr kS ot asd stt ik tp td fr tt vl wr bo so nu mv) [.ref (ad 0), .int (nI i)]) (wPost D (mw cy ad sr kS ot asd stt ik tp td fr tt vl wr bo so nu mv) (some (.int (wearF sr i))) (mA ad)) 0 0 (mA ad) := by
  refine wq_entry rfl rfl (Nat.le_of_ble_eq_true rfl) ?_
  intro p e s0 m args below meth c S hr hlocks hK hP ls hl
  have S : CallFix p m c cX5_wearsOf 3 s0 args wsX5_wearsOf RX5 := S
  obtain ⟨hx, hb, hml, hown, hts⟩ := id S
  have hin : ∀ w ∈ wsX50, w ∈ wsX5_wearsOf := fun w h => List.mem_cons_of_mem _ (List.mem_append_right _ h)
  have hS : va_S (mA ad) s0.heap s0.heap [] := va_S.rf
  have hl : lv_has ls 3 [(0, .ref (ad 0)), (1, .int (nI i))] := hl
  generalize hQ : MQ below (wPost D (mw cy ad sr kS ot asd stt ik tp td fr tt vl wr bo so nu mv) (some (.int (wearF sr i))) (mA ad)) args s0 0 0 (mA ad) = Q
  refine lv_aload_n hx hb dX5_wearsOf_0 rfl (lv_at hl 0 rfl) ?_
  refine m_get hx hb hts hin hown hK hP 0 (by decide) (hts (.fieldLink RX5 7 "PennyRoadModel" "s" "[I") (by decide +kernel)) rfl dX5_wearsOf_1 ?_
  refine lv_iconst (v := nI 1) hx hb dX5_wearsOf_4 (by decide) ?_
  refine m_ald hx hb hK hP 1 rfl (by decide) (by omega) dX5_wearsOf_5 ?_
  refine lv_iconst (v := nI 5) hx hb dX5_wearsOf_6 (by decide) ?_
  refine lv_irem hx hb dX5_wearsOf_7 (by decide) ?_
  have K_1 : ∀ (x_2 : Int32) (H : Heap) (locs : List Loc) (ls : Array Slot), x_2 = (if ((sr 1) - (sr 1) / (nI 5) * (nI 5)) = 0 then (nI 0) else (nI 1)) → va_P D vwCl (mw cy ad sr kS ot asd stt ik tp td fr tt vl wr bo so nu mv) H → va_S (mA ad) s0.heap H locs → lv_has ls 3 [(0, .ref (ad 0)), (1, .int (nI i))] → W p l e (rmz 2 43) s0 m args below meth c H locs 0 0 Q (F0 m 16 ls [.int (x_2)]) := by
    intro x_2 H locs ls ex_2 hP hS hl
    refine lv_istore_n (lv' := [(2, .int (x_2)), (0, .ref (ad 0)), (1, .int (nI i))]) hx hb dX5_wearsOf_16 rfl hl (by decide) rfl (fun ls hl => ?_)
    refine lv_aload_n hx hb dX5_wearsOf_17 rfl (lv_at hl 1 rfl) ?_
    refine lv_iload_n hx hb dX5_wearsOf_18 rfl (lv_at hl 2 rfl) ?_
    refine lv_iconst (v := nI 0) hx hb dX5_wearsOf_19 (by decide) ?_
    refine wq_V S mK_ok hK hP hS (c_X5_its (by omega) (by omega)) gX5_wearsOf_X5_its i_X5_its rfl (m_rec hK hP) ⟨Nat.le_of_ble_eq_true rfl, Nat.le_of_ble_eq_true rfl⟩ rfl hl.1 (As := [.int (nI i), .int (nI 0)]) (rest := []) (st1 := [.int (sr (5 + 8 * i + 0))]) rfl rfl (Nat.le_of_ble_eq_true rfl) ⟨Nat.le_of_ble_eq_true rfl, Nat.le_of_ble_eq_true rfl⟩ dX5_wearsOf_20 (fun H locs hP hS => ?_)
    by_cases c_23_1 : sr (5 + 8 * i + 0) = nI 1
    · skip
      refine lv_tableIn (tgt := 56) hx hb dX5_wearsOf_23 (by rw [c_23_1]; decide) (by rw [c_23_1]; decide) (by rw [c_23_1]; rfl) (by decide) ?_
      refine lv_iload_n hx hb dX5_wearsOf_56 rfl (lv_at hl 0 rfl) ?_
      subst hQ
      exact wq_ri hx hb hr hlocks hP hS dX5_wearsOf_57 (by first | rfl | (simp only [wearF, pedF, if_pos c_23_1]; done) | (subst_vars; first | rfl | (simp only [wearF, pedF, if_pos c_23_1]; done) | (simp only [wearF, pedF, c_23_1, and_true, true_and, false_and, and_false, and_self, not_true_eq_false, not_false_eq_true, if_true, if_false, reduceIte, or_false, false_or, true_or, or_true]; done))) rfl
    by_cases c_23_2 : sr (5 + 8 * i + 0) = nI 2
    · skip
      refine lv_tableIn (tgt := 66) hx hb dX5_wearsOf_23 (by rw [c_23_2]; decide) (by rw [c_23_2]; decide) (by rw [c_23_2]; rfl) (by decide) ?_
      refine lv_iconst (v := nI 1) hx hb dX5_wearsOf_66 (by decide) ?_
      subst hQ
      exact wq_ri hx hb hr hlocks hP hS dX5_wearsOf_67 (by first | rfl | (simp only [wearF, pedF, if_neg c_23_1, if_pos c_23_2]; done) | (subst_vars; first | rfl | (simp only [wearF, pedF, if_neg c_23_1, if_pos c_23_2]; done) | (simp only [wearF, pedF, c_23_1, c_23_2, and_true, true_and, false_and, and_false, and_self, not_true_eq_false, not_false_eq_true, if_true, if_false, reduceIte, or_false, false_or, true_or, or_true]; done))) rfl
    by_cases c_23_3 : sr (5 + 8 * i + 0) = nI 3
    · skip
      refine lv_tableIn (tgt := 58) hx hb dX5_wearsOf_23 (by rw [c_23_3]; decide) (by rw [c_23_3]; decide) (by rw [c_23_3]; rfl) (by decide) ?_
      refine lv_iconst (v := nI 0) hx hb dX5_wearsOf_58 (by decide) ?_
      subst hQ
      exact wq_ri hx hb hr hlocks hP hS dX5_wearsOf_59 (by first | rfl | (simp only [wearF, pedF, if_neg c_23_1, if_neg c_23_2, if_pos c_23_3]; done) | (subst_vars; first | rfl | (simp only [wearF, pedF, if_neg c_23_1, if_neg c_23_2, if_pos c_23_3]; done) | (simp only [wearF, pedF, c_23_1, c_23_2, c_23_3, and_true, true_and, false_and, and_false, and_self, not_true_eq_false, not_false_eq_true, if_true, if_false, reduceIte, or_false, false_or, true_or, or_true]; done))) rfl
    by_cases c_23_4 : sr (5 + 8 * i + 0) = nI 4
    · skip
      refine lv_tableIn (tgt := 60) hx hb dX5_wearsOf_23 (by rw [c_23_4]; decide) (by rw [c_23_4]; decide) (by rw [c_23_4]; rfl) (by decide) ?_
      refine lv_iconst (v := nI 2) hx hb dX5_wearsOf_60 (by decide) ?_
      refine lv_iload_n hx hb dX5_wearsOf_61 rfl (lv_at hl 0 rfl) ?_
      refine lv_imul hx hb dX5_wearsOf_62 ?_
      refine lv_iconst (v := nI 1) hx hb dX5_wearsOf_63 (by decide) ?_
      refine lv_iadd hx hb dX5_wearsOf_64 ?_
      subst hQ
      exact wq_ri hx hb hr hlocks hP hS dX5_wearsOf_65 (by first | rfl | (simp only [wearF, pedF, if_neg c_23_1, if_neg c_23_2, if_neg c_23_3, if_pos c_23_4]; done) | (subst_vars; first | rfl | (simp only [wearF, pedF, if_neg c_23_1, if_neg c_23_2, if_neg c_23_3, if_pos c_23_4]; done) | (simp only [wearF, pedF, c_23_1, c_23_2, c_23_3, c_23_4, and_true, true_and, false_and, and_false, and_self, not_true_eq_false, not_false_eq_true, if_true, if_false, reduceIte, or_false, false_or, true_or, or_true]; done))) rfl
    by_cases c_23_5 : sr (5 + 8 * i + 0) = nI 5
    · skip
      refine lv_tableIn (tgt := 58) hx hb dX5_wearsOf_23 (by rw [c_23_5]; decide) (by rw [c_23_5]; decide) (by rw [c_23_5]; rfl) (by decide) ?_
      refine lv_iconst (v := nI 0) hx hb dX5_wearsOf_58 (by decide) ?_
      subst hQ
      exact wq_ri hx hb hr hlocks hP hS dX5_wearsOf_59 (by first | rfl | (simp only [wearF, pedF, if_neg c_23_1, if_neg c_23_2, if_neg c_23_3, if_neg c_23_4, if_pos c_23_5]; done) | (subst_vars; first | rfl | (simp only [wearF, pedF, if_neg c_23_1, if_neg c_23_2, if_neg c_23_3, if_neg c_23_4, if_pos c_23_5]; done) | (simp only [wearF, pedF, c_23_1, c_23_2, c_23_3, c_23_4, c_23_5, and_true, true_and, false_and, and_false, and_self, not_true_eq_false, not_false_eq_true, if_true, if_false, reduceIte, or_false, false_or, true_or, or_true]; done))) rfl
    refine lv_tableOut (tgt := 66) hx hb dX5_wearsOf_23 (by have h0 : (sr (5 + 8 * i + 0)).toInt ≠ 1 := ne_int c_23_1; have h1 : (sr (5 + 8 * i + 0)).toInt ≠ 2 := ne_int c_23_2; have h2 : (sr (5 + 8 * i + 0)).toInt ≠ 3 := ne_int c_23_3; have h3 : (sr (5 + 8 * i + 0)).toInt ≠ 4 := ne_int c_23_4; have h4 : (sr (5 + 8 * i + 0)).toInt ≠ 5 := ne_int c_23_5; omega) (by decide) ?_
    refine lv_iconst (v := nI 1) hx hb dX5_wearsOf_66 (by decide) ?_
    subst hQ
    exact wq_ri hx hb hr hlocks hP hS dX5_wearsOf_67 (by first | rfl | (simp only [wearF, pedF, if_neg c_23_1, if_neg c_23_2, if_neg c_23_3, if_neg c_23_4, if_neg c_23_5]; done) | (subst_vars; first | rfl | (simp only [wearF, pedF, if_neg c_23_1, if_neg c_23_2, if_neg c_23_3, if_neg c_23_4, if_neg c_23_5]; done) | (simp only [wearF, pedF, c_23_1, c_23_2, c_23_3, c_23_4, c_23_5, and_true, true_and, false_and, and_false, and_self, not_true_eq_false, not_false_eq_true, if_true, if_false, reduceIte, or_false, false_or, true_or, or_true]; done))) rfl
  refine lv_if_ne (tgt := 15) hx hb dX5_wearsOf_8 (by decide) (fun c_8 => ?_) (fun c_8 => ?_)
  · skip
    refine lv_iconst (v := nI 1) hx hb dX5_wearsOf_15 (by decide) ?_
    exact K_1 (nI 1) _ _ ls (by simp only [if_neg c_8]) hP hS hl
  · skip
    refine lv_iconst (v := nI 0) hx hb dX5_wearsOf_11 (by decide) ?_
    refine lv_goto (tgt := 16) hx hb dX5_wearsOf_12 (by decide) ?_
    exact K_1 (nI 0) _ _ ls (by simp only [if_pos c_8]) hP hS hl
theorem i_X5_wearsOf : ciOk yX5_wearsOf cX5_wearsOf 3 (some .int) wsX5_wearsOf 1 := ⟨⟨_, rfl⟩, by decide +kernel⟩
set_option maxHeartbeats 4000000 in
set_option maxRecDepth 100000 in
theorem c_X5_arrives {l : Launch} {D : va_G} {cy : Nat → ClassId} {ad : Nat → Nat} {sr kS ot asd stt : Nat → Int32} {ik : Int32} {tp : Nat → Int32} {td fr tt vl wr : Int32} {bo so : Nat → Int32} {nu mv : Nat → Int64} {i : Nat} (hi : i < 8) : Met l yX5_arrives wsX5_arrives (rmz 3 66) (wPre D (mK D cy ad) (mw cy ad sr kS ot asd stt ik tp td fr tt vl wr bo so nu mv) [.ref (ad 0), .int (nI i)]) (wPost D (mw cy ad (arrF sr i) kS ot asd stt ik tp td fr tt vl wr bo so nu mv) none (mA ad)) 0 0 (mA ad) := by
  refine wq_entry rfl rfl (Nat.le_of_ble_eq_true rfl) ?_
  intro p e s0 m args below meth c S hr hlocks hK hP ls hl
  have S : CallFix p m c cX5_arrives 4 s0 args wsX5_arrives RX5 := S
  obtain ⟨hx, hb, hml, hown, hts⟩ := id S
  have hin : ∀ w ∈ wsX50, w ∈ wsX5_arrives := fun w h => List.mem_cons_of_mem _ (List.mem_append_right _ h)
  have hS : va_S (mA ad) s0.heap s0.heap [] := va_S.rf
  have hl : lv_has ls 4 [(0, .ref (ad 0)), (1, .int (nI i))] := hl
  generalize hQ : MQ below (wPost D (mw cy ad (arrF sr i) kS ot asd stt ik tp td fr tt vl wr bo so nu mv) none (mA ad)) args s0 0 0 (mA ad) = Q
  refine lv_aload_n hx hb dX5_arrives_0 rfl (lv_at hl 0 rfl) ?_
  refine lv_iload_n hx hb dX5_arrives_1 rfl (lv_at hl 1 rfl) ?_
  refine lv_iconst (v := nI 3) hx hb dX5_arrives_2 (by decide) ?_
  refine wq_V S mK_ok hK hP hS (c_X5_its (by omega) (by omega)) gX5_arrives_X5_its i_X5_its rfl (m_rec hK hP) ⟨Nat.le_of_ble_eq_true rfl, Nat.le_of_ble_eq_true rfl⟩ rfl hl.1 (As := [.int (nI i), .int (nI 3)]) (rest := []) (st1 := [.int (sr (5 + 8 * i + 3))]) rfl rfl (Nat.le_of_ble_eq_true rfl) ⟨Nat.le_of_ble_eq_true rfl, Nat.le_of_ble_eq_true rfl⟩ dX5_arrives_3 (fun H locs hP hS => ?_)
  have K_1 : ∀ (w_2 : Nat → Int32) (H : Heap) (locs : List Loc) (ls : Array Slot), w_2 = (if (sr (5 + 8 * i + 3)) ≤ 0 then sr else (upd (upd (upd sr 2 ((sr 2) - (hTo (payF sr i) (sr 2)))) (5 + 8 * i + 6) (hTo (((upd sr 2 ((sr 2) - (hTo (payF sr i) (sr 2)))) (5 + 8 * i + 6)) + (hTo (payF sr i) (sr 2))) (nI 999999))) (5 + 8 * i + 3) (if 0 ≤ (((upd (upd sr 2 ((sr 2) - (hTo (payF sr i) (sr 2)))) (5 + 8 * i + 6) (hTo (((upd sr 2 ((sr 2) - (hTo (payF sr i) (sr 2)))) (5 + 8 * i + 6)) + (hTo (payF sr i) (sr 2))) (nI 999999))) (5 + 8 * i + 3)) - (wearF (upd (upd sr 2 ((sr 2) - (hTo (payF sr i) (sr 2)))) (5 + 8 * i + 6) (hTo (((upd sr 2 ((sr 2) - (hTo (payF sr i) (sr 2)))) (5 + 8 * i + 6)) + (hTo (payF sr i) (sr 2))) (nI 999999))) i)) then (((upd (upd sr 2 ((sr 2) - (hTo (payF sr i) (sr 2)))) (5 + 8 * i + 6) (hTo (((upd sr 2 ((sr 2) - (hTo (payF sr i) (sr 2)))) (5 + 8 * i + 6)) + (hTo (payF sr i) (sr 2))) (nI 999999))) (5 + 8 * i + 3)) - (wearF (upd (upd sr 2 ((sr 2) - (hTo (payF sr i) (sr 2)))) (5 + 8 * i + 6) (hTo (((upd sr 2 ((sr 2) - (hTo (payF sr i) (sr 2)))) (5 + 8 * i + 6)) + (hTo (payF sr i) (sr 2))) (nI 999999))) i)) else (nI 0)))) → va_P D vwCl (mw cy ad w_2 kS ot asd stt ik tp td fr tt vl wr bo so nu mv) H → va_S (mA ad) s0.heap H locs → lv_has ls 4 [(0, .ref (ad 0)), (1, .int (nI i))] → W p l e (rmz 3 66) s0 m args below meth c H locs 0 0 Q (F0 m 91 ls []) := by
    intro w_2 H locs ls ew_2 hP hS hl
    refine lv_aload_n hx hb dX5_arrives_91 rfl (lv_at hl 0 rfl) ?_
    refine m_get hx hb hts hin hown hK hP 0 (by decide) (hts (.fieldLink RX5 7 "PennyRoadModel" "s" "[I") (by decide +kernel)) rfl dX5_arrives_92 ?_
    refine lv_iload_n hx hb dX5_arrives_95 rfl (lv_at hl 1 rfl) ?_
    refine lv_iconst (v := nI 5) hx hb dX5_arrives_96 (by decide) ?_
    refine sq_S S (c_X5_spotOf) gX5_arrives_X5_spotOf i_X5_spotOf ⟨Nat.le_of_ble_eq_true rfl, Nat.le_of_ble_eq_true rfl⟩ rfl hl.1 (As := [.int (nI i), .int (nI 5)]) (rest := [.ref (ad 1)]) (st1 := [.int (nI (5 + 8 * i + 5)), .ref (ad 1)]) rfl rfl (Nat.le_of_ble_eq_true rfl) ⟨Nat.le_of_ble_eq_true rfl, Nat.le_of_ble_eq_true rfl⟩ dX5_arrives_97 ?_
    refine lv_iconst (v := nI 0) hx hb dX5_arrives_100 (by decide) ?_
    refine m_ast (w' := (mw cy ad (upd w_2 (5 + 8 * i + 5) (nI 0)) kS ot asd stt ik tp td fr tt vl wr bo so nu mv)) hx hb hK hP hS 1 rfl (by decide) (by omega) rfl dX5_arrives_101 (fun H locs hP hS => ?_)
    refine lv_aload_n hx hb dX5_arrives_102 rfl (lv_at hl 0 rfl) ?_
    refine m_get hx hb hts hin hown hK hP 0 (by decide) (hts (.fieldLink RX5 7 "PennyRoadModel" "s" "[I") (by decide +kernel)) rfl dX5_arrives_103 ?_
    refine lv_iload_n hx hb dX5_arrives_106 rfl (lv_at hl 1 rfl) ?_
    refine lv_iconst (v := nI 2) hx hb dX5_arrives_107 (by decide) ?_
    refine sq_S S (c_X5_spotOf) gX5_arrives_X5_spotOf i_X5_spotOf ⟨Nat.le_of_ble_eq_true rfl, Nat.le_of_ble_eq_true rfl⟩ rfl hl.1 (As := [.int (nI i), .int (nI 2)]) (rest := [.ref (ad 1)]) (st1 := [.int (nI (5 + 8 * i + 2)), .ref (ad 1)]) rfl rfl (Nat.le_of_ble_eq_true rfl) ⟨Nat.le_of_ble_eq_true rfl, Nat.le_of_ble_eq_true rfl⟩ dX5_arrives_108 ?_
    refine lv_iconst (v := nI 1) hx hb dX5_arrives_111 (by decide) ?_
    refine lv_aload_n hx hb dX5_arrives_112 rfl (lv_at hl 0 rfl) ?_
    refine lv_iload_n hx hb dX5_arrives_113 rfl (lv_at hl 1 rfl) ?_
    refine lv_iconst (v := nI 2) hx hb dX5_arrives_114 (by decide) ?_
    refine wq_V S mK_ok hK hP hS (c_X5_its (by omega) (by omega)) gX5_arrives_X5_its i_X5_its rfl (m_rec hK hP) ⟨Nat.le_of_ble_eq_true rfl, Nat.le_of_ble_eq_true rfl⟩ rfl hl.1 (As := [.int (nI i), .int (nI 2)]) (rest := [.int (nI 1), .int (nI (5 + 8 * i + 2)), .ref (ad 1)]) (st1 := [.int ((upd w_2 (5 + 8 * i + 5) (nI 0)) (5 + 8 * i + 2)), .int (nI 1), .int (nI (5 + 8 * i + 2)), .ref (ad 1)]) rfl rfl (Nat.le_of_ble_eq_true rfl) ⟨Nat.le_of_ble_eq_true rfl, Nat.le_of_ble_eq_true rfl⟩ dX5_arrives_115 (fun H locs hP hS => ?_)
    refine lv_isub hx hb dX5_arrives_118 ?_
    refine m_ast (w' := (mw cy ad (upd (upd w_2 (5 + 8 * i + 5) (nI 0)) (5 + 8 * i + 2) ((nI 1) - ((upd w_2 (5 + 8 * i + 5) (nI 0)) (5 + 8 * i + 2)))) kS ot asd stt ik tp td fr tt vl wr bo so nu mv)) hx hb hK hP hS 1 rfl (by decide) (by omega) rfl dX5_arrives_119 (fun H locs hP hS => ?_)
    subst hQ
    exact wq_rv hx hb hr hlocks hP hS dX5_arrives_120 rfl (mw_sr (by subst_vars; rfl))
  refine lv_if_le (tgt := 91) hx hb dX5_arrives_6 (by decide) (fun c_6 => ?_) (fun c_6 => ?_)
  · skip
    exact K_1 (sr) _ _ ls (by simp only [if_pos c_6]) hP hS hl
  · skip
    refine lv_aload_n hx hb dX5_arrives_9 rfl (lv_at hl 0 rfl) ?_
    refine lv_iload_n hx hb dX5_arrives_10 rfl (lv_at hl 1 rfl) ?_
    refine wq_V S mK_ok hK hP hS (c_X5_payOf (by omega)) gX5_arrives_X5_payOf i_X5_payOf rfl (m_rec hK hP) ⟨Nat.le_of_ble_eq_true rfl, Nat.le_of_ble_eq_true rfl⟩ rfl hl.1 (As := [.int (nI i)]) (rest := []) (st1 := [.int (payF sr i)]) rfl rfl (Nat.le_of_ble_eq_true rfl) ⟨Nat.le_of_ble_eq_true rfl, Nat.le_of_ble_eq_true rfl⟩ dX5_arrives_11 (fun H locs hP hS => ?_)
    refine lv_aload_n hx hb dX5_arrives_14 rfl (lv_at hl 0 rfl) ?_
    refine m_get hx hb hts hin hown hK hP 0 (by decide) (hts (.fieldLink RX5 7 "PennyRoadModel" "s" "[I") (by decide +kernel)) rfl dX5_arrives_15 ?_
    refine lv_iconst (v := nI 2) hx hb dX5_arrives_18 (by decide) ?_
    refine m_ald hx hb hK hP 1 rfl (by decide) (by omega) dX5_arrives_19 ?_
    refine sq_S S (c_X5_heldTo) gX5_arrives_X5_heldTo i_X5_heldTo ⟨Nat.le_of_ble_eq_true rfl, Nat.le_of_ble_eq_true rfl⟩ rfl hl.1 (As := [.int (payF sr i), .int (sr 2)]) (rest := []) (st1 := [.int (hTo (payF sr i) (sr 2))]) rfl rfl (Nat.le_of_ble_eq_true rfl) ⟨Nat.le_of_ble_eq_true rfl, Nat.le_of_ble_eq_true rfl⟩ dX5_arrives_20 ?_
    refine lv_istore_n (lv' := [(2, .int (hTo (payF sr i) (sr 2))), (0, .ref (ad 0)), (1, .int (nI i))]) hx hb dX5_arrives_23 rfl hl (by decide) rfl (fun ls hl => ?_)
    refine lv_aload_n hx hb dX5_arrives_24 rfl (lv_at hl 1 rfl) ?_
    refine m_get hx hb hts hin hown hK hP 0 (by decide) (hts (.fieldLink RX5 7 "PennyRoadModel" "s" "[I") (by decide +kernel)) rfl dX5_arrives_25 ?_
    refine lv_iconst (v := nI 2) hx hb dX5_arrives_28 (by decide) ?_
    refine lv_dup2_11 hx hb dX5_arrives_29 rfl rfl ?_
    refine m_ald hx hb hK hP 1 rfl (by decide) (by omega) dX5_arrives_30 ?_
    refine lv_iload_n hx hb dX5_arrives_31 rfl (lv_at hl 0 rfl) ?_
    refine lv_isub hx hb dX5_arrives_32 ?_
    refine m_ast (w' := (mw cy ad (upd sr 2 ((sr 2) - (hTo (payF sr i) (sr 2)))) kS ot asd stt ik tp td fr tt vl wr bo so nu mv)) hx hb hK hP hS 1 rfl (by decide) (by omega) rfl dX5_arrives_33 (fun H locs hP hS => ?_)
    refine lv_aload_n hx hb dX5_arrives_34 rfl (lv_at hl 1 rfl) ?_
    refine m_get hx hb hts hin hown hK hP 0 (by decide) (hts (.fieldLink RX5 7 "PennyRoadModel" "s" "[I") (by decide +kernel)) rfl dX5_arrives_35 ?_
    refine lv_iload_n hx hb dX5_arrives_38 rfl (lv_at hl 2 rfl) ?_
    refine lv_bipush (v := nI 6) hx hb dX5_arrives_39 (by decide) ?_
    refine sq_S S (c_X5_spotOf) gX5_arrives_X5_spotOf i_X5_spotOf ⟨Nat.le_of_ble_eq_true rfl, Nat.le_of_ble_eq_true rfl⟩ rfl hl.1 (As := [.int (nI i), .int (nI 6)]) (rest := [.ref (ad 1)]) (st1 := [.int (nI (5 + 8 * i + 6)), .ref (ad 1)]) rfl rfl (Nat.le_of_ble_eq_true rfl) ⟨Nat.le_of_ble_eq_true rfl, Nat.le_of_ble_eq_true rfl⟩ dX5_arrives_41 ?_
    refine lv_aload_n hx hb dX5_arrives_44 rfl (lv_at hl 1 rfl) ?_
    refine lv_iload_n hx hb dX5_arrives_45 rfl (lv_at hl 2 rfl) ?_
    refine lv_bipush (v := nI 6) hx hb dX5_arrives_46 (by decide) ?_
    refine wq_V S mK_ok hK hP hS (c_X5_its (by omega) (by omega)) gX5_arrives_X5_its i_X5_its rfl (m_rec hK hP) ⟨Nat.le_of_ble_eq_true rfl, Nat.le_of_ble_eq_true rfl⟩ rfl hl.1 (As := [.int (nI i), .int (nI 6)]) (rest := [.int (nI (5 + 8 * i + 6)), .ref (ad 1)]) (st1 := [.int ((upd sr 2 ((sr 2) - (hTo (payF sr i) (sr 2)))) (5 + 8 * i + 6)), .int (nI (5 + 8 * i + 6)), .ref (ad 1)]) rfl rfl (Nat.le_of_ble_eq_true rfl) ⟨Nat.le_of_ble_eq_true rfl, Nat.le_of_ble_eq_true rfl⟩ dX5_arrives_48 (fun H locs hP hS => ?_)
    refine lv_iload_n hx hb dX5_arrives_51 rfl (lv_at hl 0 rfl) ?_
    refine lv_iadd hx hb dX5_arrives_52 ?_
    refine lv_ldc (v := nI 999999) hx hb hown (hts (.constant RX5 95 (nI 999999)) (by decide +kernel)) dX5_arrives_53 ?_
    refine sq_S S (c_X5_heldTo) gX5_arrives_X5_heldTo i_X5_heldTo ⟨Nat.le_of_ble_eq_true rfl, Nat.le_of_ble_eq_true rfl⟩ rfl hl.1 (As := [.int (((upd sr 2 ((sr 2) - (hTo (payF sr i) (sr 2)))) (5 + 8 * i + 6)) + (hTo (payF sr i) (sr 2))), .int (nI 999999)]) (rest := [.int (nI (5 + 8 * i + 6)), .ref (ad 1)]) (st1 := [.int (hTo (((upd sr 2 ((sr 2) - (hTo (payF sr i) (sr 2)))) (5 + 8 * i + 6)) + (hTo (payF sr i) (sr 2))) (nI 999999)), .int (nI (5 + 8 * i + 6)), .ref (ad 1)]) rfl rfl (Nat.le_of_ble_eq_true rfl) ⟨Nat.le_of_ble_eq_true rfl, Nat.le_of_ble_eq_true rfl⟩ dX5_arrives_55 ?_
    refine m_ast (w' := (mw cy ad (upd (upd sr 2 ((sr 2) - (hTo (payF sr i) (sr 2)))) (5 + 8 * i + 6) (hTo (((upd sr 2 ((sr 2) - (hTo (payF sr i) (sr 2)))) (5 + 8 * i + 6)) + (hTo (payF sr i) (sr 2))) (nI 999999))) kS ot asd stt ik tp td fr tt vl wr bo so nu mv)) hx hb hK hP hS 1 rfl (by decide) (by omega) rfl dX5_arrives_58 (fun H locs hP hS => ?_)
    refine lv_aload_n hx hb dX5_arrives_59 rfl (lv_at hl 1 rfl) ?_
    refine lv_iload_n hx hb dX5_arrives_60 rfl (lv_at hl 2 rfl) ?_
    refine lv_iconst (v := nI 3) hx hb dX5_arrives_61 (by decide) ?_
    refine wq_V S mK_ok hK hP hS (c_X5_its (by omega) (by omega)) gX5_arrives_X5_its i_X5_its rfl (m_rec hK hP) ⟨Nat.le_of_ble_eq_true rfl, Nat.le_of_ble_eq_true rfl⟩ rfl hl.1 (As := [.int (nI i), .int (nI 3)]) (rest := []) (st1 := [.int ((upd (upd sr 2 ((sr 2) - (hTo (payF sr i) (sr 2)))) (5 + 8 * i + 6) (hTo (((upd sr 2 ((sr 2) - (hTo (payF sr i) (sr 2)))) (5 + 8 * i + 6)) + (hTo (payF sr i) (sr 2))) (nI 999999))) (5 + 8 * i + 3))]) rfl rfl (Nat.le_of_ble_eq_true rfl) ⟨Nat.le_of_ble_eq_true rfl, Nat.le_of_ble_eq_true rfl⟩ dX5_arrives_62 (fun H locs hP hS => ?_)
    refine lv_aload_n hx hb dX5_arrives_65 rfl (lv_at hl 1 rfl) ?_
    refine lv_iload_n hx hb dX5_arrives_66 rfl (lv_at hl 2 rfl) ?_
    refine wq_V S mK_ok hK hP hS (c_X5_wearsOf (by omega)) gX5_arrives_X5_wearsOf i_X5_wearsOf rfl (m_rec hK hP) ⟨Nat.le_of_ble_eq_true rfl, Nat.le_of_ble_eq_true rfl⟩ rfl hl.1 (As := [.int (nI i)]) (rest := [.int ((upd (upd sr 2 ((sr 2) - (hTo (payF sr i) (sr 2)))) (5 + 8 * i + 6) (hTo (((upd sr 2 ((sr 2) - (hTo (payF sr i) (sr 2)))) (5 + 8 * i + 6)) + (hTo (payF sr i) (sr 2))) (nI 999999))) (5 + 8 * i + 3))]) (st1 := [.int (wearF (upd (upd sr 2 ((sr 2) - (hTo (payF sr i) (sr 2)))) (5 + 8 * i + 6) (hTo (((upd sr 2 ((sr 2) - (hTo (payF sr i) (sr 2)))) (5 + 8 * i + 6)) + (hTo (payF sr i) (sr 2))) (nI 999999))) i), .int ((upd (upd sr 2 ((sr 2) - (hTo (payF sr i) (sr 2)))) (5 + 8 * i + 6) (hTo (((upd sr 2 ((sr 2) - (hTo (payF sr i) (sr 2)))) (5 + 8 * i + 6)) + (hTo (payF sr i) (sr 2))) (nI 999999))) (5 + 8 * i + 3))]) rfl rfl (Nat.le_of_ble_eq_true rfl) ⟨Nat.le_of_ble_eq_true rfl, Nat.le_of_ble_eq_true rfl⟩ dX5_arrives_67 (fun H locs hP hS => ?_)
    refine lv_isub hx hb dX5_arrives_70 ?_
    refine lv_istore_n (lv' := [(3, .int (((upd (upd sr 2 ((sr 2) - (hTo (payF sr i) (sr 2)))) (5 + 8 * i + 6) (hTo (((upd sr 2 ((sr 2) - (hTo (payF sr i) (sr 2)))) (5 + 8 * i + 6)) + (hTo (payF sr i) (sr 2))) (nI 999999))) (5 + 8 * i + 3)) - (wearF (upd (upd sr 2 ((sr 2) - (hTo (payF sr i) (sr 2)))) (5 + 8 * i + 6) (hTo (((upd sr 2 ((sr 2) - (hTo (payF sr i) (sr 2)))) (5 + 8 * i + 6)) + (hTo (payF sr i) (sr 2))) (nI 999999))) i))), (2, .int (hTo (payF sr i) (sr 2))), (0, .ref (ad 0)), (1, .int (nI i))]) hx hb dX5_arrives_71 rfl hl (by decide) rfl (fun ls hl => ?_)
    refine lv_aload_n hx hb dX5_arrives_72 rfl (lv_at hl 2 rfl) ?_
    refine m_get hx hb hts hin hown hK hP 0 (by decide) (hts (.fieldLink RX5 7 "PennyRoadModel" "s" "[I") (by decide +kernel)) rfl dX5_arrives_73 ?_
    refine lv_iload_n hx hb dX5_arrives_76 rfl (lv_at hl 3 rfl) ?_
    refine lv_iconst (v := nI 3) hx hb dX5_arrives_77 (by decide) ?_
    refine sq_S S (c_X5_spotOf) gX5_arrives_X5_spotOf i_X5_spotOf ⟨Nat.le_of_ble_eq_true rfl, Nat.le_of_ble_eq_true rfl⟩ rfl hl.1 (As := [.int (nI i), .int (nI 3)]) (rest := [.ref (ad 1)]) (st1 := [.int (nI (5 + 8 * i + 3)), .ref (ad 1)]) rfl rfl (Nat.le_of_ble_eq_true rfl) ⟨Nat.le_of_ble_eq_true rfl, Nat.le_of_ble_eq_true rfl⟩ dX5_arrives_78 ?_
    refine lv_iload_n hx hb dX5_arrives_81 rfl (lv_at hl 0 rfl) ?_
    have K_3 : ∀ (x_4 : Int32) (H : Heap) (locs : List Loc) (ls : Array Slot), x_4 = (if 0 ≤ (((upd (upd sr 2 ((sr 2) - (hTo (payF sr i) (sr 2)))) (5 + 8 * i + 6) (hTo (((upd sr 2 ((sr 2) - (hTo (payF sr i) (sr 2)))) (5 + 8 * i + 6)) + (hTo (payF sr i) (sr 2))) (nI 999999))) (5 + 8 * i + 3)) - (wearF (upd (upd sr 2 ((sr 2) - (hTo (payF sr i) (sr 2)))) (5 + 8 * i + 6) (hTo (((upd sr 2 ((sr 2) - (hTo (payF sr i) (sr 2)))) (5 + 8 * i + 6)) + (hTo (payF sr i) (sr 2))) (nI 999999))) i)) then (((upd (upd sr 2 ((sr 2) - (hTo (payF sr i) (sr 2)))) (5 + 8 * i + 6) (hTo (((upd sr 2 ((sr 2) - (hTo (payF sr i) (sr 2)))) (5 + 8 * i + 6)) + (hTo (payF sr i) (sr 2))) (nI 999999))) (5 + 8 * i + 3)) - (wearF (upd (upd sr 2 ((sr 2) - (hTo (payF sr i) (sr 2)))) (5 + 8 * i + 6) (hTo (((upd sr 2 ((sr 2) - (hTo (payF sr i) (sr 2)))) (5 + 8 * i + 6)) + (hTo (payF sr i) (sr 2))) (nI 999999))) i)) else (nI 0)) → va_P D vwCl (mw cy ad (upd (upd sr 2 ((sr 2) - (hTo (payF sr i) (sr 2)))) (5 + 8 * i + 6) (hTo (((upd sr 2 ((sr 2) - (hTo (payF sr i) (sr 2)))) (5 + 8 * i + 6)) + (hTo (payF sr i) (sr 2))) (nI 999999))) kS ot asd stt ik tp td fr tt vl wr bo so nu mv) H → va_S (mA ad) s0.heap H locs → lv_has ls 4 [(3, .int (((upd (upd sr 2 ((sr 2) - (hTo (payF sr i) (sr 2)))) (5 + 8 * i + 6) (hTo (((upd sr 2 ((sr 2) - (hTo (payF sr i) (sr 2)))) (5 + 8 * i + 6)) + (hTo (payF sr i) (sr 2))) (nI 999999))) (5 + 8 * i + 3)) - (wearF (upd (upd sr 2 ((sr 2) - (hTo (payF sr i) (sr 2)))) (5 + 8 * i + 6) (hTo (((upd sr 2 ((sr 2) - (hTo (payF sr i) (sr 2)))) (5 + 8 * i + 6)) + (hTo (payF sr i) (sr 2))) (nI 999999))) i))), (2, .int (hTo (payF sr i) (sr 2))), (0, .ref (ad 0)), (1, .int (nI i))] → W p l e (rmz 3 66) s0 m args below meth c H locs 0 0 Q (F0 m 90 ls [.int (x_4), .int (nI (5 + 8 * i + 3)), .ref (ad 1)]) := by
      intro x_4 H locs ls ex_4 hP hS hl
      refine m_ast (w' := (mw cy ad (upd (upd (upd sr 2 ((sr 2) - (hTo (payF sr i) (sr 2)))) (5 + 8 * i + 6) (hTo (((upd sr 2 ((sr 2) - (hTo (payF sr i) (sr 2)))) (5 + 8 * i + 6)) + (hTo (payF sr i) (sr 2))) (nI 999999))) (5 + 8 * i + 3) x_4) kS ot asd stt ik tp td fr tt vl wr bo so nu mv)) hx hb hK hP hS 1 rfl (by decide) (by omega) rfl dX5_arrives_90 (fun H locs hP hS => ?_)
      exact K_1 (upd (upd (upd sr 2 ((sr 2) - (hTo (payF sr i) (sr 2)))) (5 + 8 * i + 6) (hTo (((upd sr 2 ((sr 2) - (hTo (payF sr i) (sr 2)))) (5 + 8 * i + 6)) + (hTo (payF sr i) (sr 2))) (nI 999999))) (5 + 8 * i + 3) x_4) _ _ ls (by subst ex_4; simp only [if_neg c_6]) hP hS (lv_sub hl [2, 3] rfl)
    refine lv_if_ge (tgt := 89) hx hb dX5_arrives_82 (by decide) (fun c_82 => ?_) (fun c_82 => ?_)
    · skip
      refine lv_iload_n hx hb dX5_arrives_89 rfl (lv_at hl 0 rfl) ?_
      exact K_3 (((upd (upd sr 2 ((sr 2) - (hTo (payF sr i) (sr 2)))) (5 + 8 * i + 6) (hTo (((upd sr 2 ((sr 2) - (hTo (payF sr i) (sr 2)))) (5 + 8 * i + 6)) + (hTo (payF sr i) (sr 2))) (nI 999999))) (5 + 8 * i + 3)) - (wearF (upd (upd sr 2 ((sr 2) - (hTo (payF sr i) (sr 2)))) (5 + 8 * i + 6) (hTo (((upd sr 2 ((sr 2) - (hTo (payF sr i) (sr 2)))) (5 + 8 * i + 6)) + (hTo (payF sr i) (sr 2))) (nI 999999))) i)) _ _ ls (by simp only [if_pos c_82]) hP hS hl
    · skip
      refine lv_iconst (v := nI 0) hx hb dX5_arrives_85 (by decide) ?_
      refine lv_goto (tgt := 90) hx hb dX5_arrives_86 (by decide) ?_
      exact K_3 (nI 0) _ _ ls (by simp only [if_neg c_82]) hP hS hl
theorem i_X5_arrives : ciOk yX5_arrives cX5_arrives 4 none wsX5_arrives 1 := ⟨⟨_, rfl⟩, by decide +kernel⟩
set_option maxHeartbeats 4000000 in
set_option maxRecDepth 100000 in
theorem c_X5_goes {l : Launch} {D : va_G} {cy : Nat → ClassId} {ad : Nat → Nat} {sr kS ot asd stt : Nat → Int32} {ik : Int32} {tp : Nat → Int32} {td fr tt vl wr : Int32} {bo so : Nat → Int32} {nu mv : Nat → Int64} {i : Nat} {N : Nat} (hi : i < 8) (hN : sr 0 = nI N) (h8 : N ≤ 8) : Met l yX5_goes wsX5_goes (rmz 4 89) (wPre D (mK D cy ad) (mw cy ad sr kS ot asd stt ik tp td fr tt vl wr bo so nu mv) [.ref (ad 0), .int (nI i)]) (wPost D (mw cy ad (goesF sr N i) kS ot asd stt ik tp td fr tt vl wr bo so nu mv) none (mA ad)) 0 0 (mA ad) := by
  refine wq_entry rfl rfl (Nat.le_of_ble_eq_true rfl) ?_
  intro p e s0 m args below meth c S hr hlocks hK hP ls hl
  have S : CallFix p m c cX5_goes 5 s0 args wsX5_goes RX5 := S
  obtain ⟨hx, hb, hml, hown, hts⟩ := id S
  have hin : ∀ w ∈ wsX50, w ∈ wsX5_goes := fun w h => List.mem_cons_of_mem _ (List.mem_append_right _ h)
  have hS : va_S (mA ad) s0.heap s0.heap [] := va_S.rf
  have hl : lv_has ls 5 [(0, .ref (ad 0)), (1, .int (nI i))] := hl
  generalize hQ : MQ below (wPost D (mw cy ad (goesF sr N i) kS ot asd stt ik tp td fr tt vl wr bo so nu mv) none (mA ad)) args s0 0 0 (mA ad) = Q
  refine lv_aload_n hx hb dX5_goes_0 rfl (lv_at hl 0 rfl) ?_
  refine lv_iload_n hx hb dX5_goes_1 rfl (lv_at hl 1 rfl) ?_
  refine lv_iconst (v := nI 2) hx hb dX5_goes_2 (by decide) ?_
  refine wq_V S mK_ok hK hP hS (c_X5_its (by omega) (by omega)) gX5_goes_X5_its i_X5_its rfl (m_rec hK hP) ⟨Nat.le_of_ble_eq_true rfl, Nat.le_of_ble_eq_true rfl⟩ rfl hl.1 (As := [.int (nI i), .int (nI 2)]) (rest := []) (st1 := [.int (sr (5 + 8 * i + 2))]) rfl rfl (Nat.le_of_ble_eq_true rfl) ⟨Nat.le_of_ble_eq_true rfl, Nat.le_of_ble_eq_true rfl⟩ dX5_goes_3 (fun H locs hP hS => ?_)
  refine lv_iconst (v := nI 1) hx hb dX5_goes_6 (by decide) ?_
  have K_1 : ∀ (x_2 : Int32) (H : Heap) (locs : List Loc) (ls : Array Slot), x_2 = (if (sr (5 + 8 * i + 2)) = (nI 1) then (nI 12) else (nI 0)) → va_P D vwCl (mw cy ad sr kS ot asd stt ik tp td fr tt vl wr bo so nu mv) H → va_S (mA ad) s0.heap H locs → lv_has ls 5 [(0, .ref (ad 0)), (1, .int (nI i))] → W p l e (rmz 4 89) s0 m args below meth c H locs 0 0 Q (F0 m 16 ls [.int (x_2)]) := by
    intro x_2 H locs ls ex_2 hP hS hl
    refine lv_istore_n (lv' := [(2, .int (x_2)), (0, .ref (ad 0)), (1, .int (nI i))]) hx hb dX5_goes_16 rfl hl (by decide) rfl (fun ls hl => ?_)
    refine lv_aload_n hx hb dX5_goes_17 rfl (lv_at hl 1 rfl) ?_
    refine lv_iload_n hx hb dX5_goes_18 rfl (lv_at hl 2 rfl) ?_
    refine lv_iconst (v := nI 2) hx hb dX5_goes_19 (by decide) ?_
    refine wq_V S mK_ok hK hP hS (c_X5_its (by omega) (by omega)) gX5_goes_X5_its i_X5_its rfl (m_rec hK hP) ⟨Nat.le_of_ble_eq_true rfl, Nat.le_of_ble_eq_true rfl⟩ rfl hl.1 (As := [.int (nI i), .int (nI 2)]) (rest := []) (st1 := [.int (sr (5 + 8 * i + 2))]) rfl rfl (Nat.le_of_ble_eq_true rfl) ⟨Nat.le_of_ble_eq_true rfl, Nat.le_of_ble_eq_true rfl⟩ dX5_goes_20 (fun H locs hP hS => ?_)
    refine lv_iconst (v := nI 1) hx hb dX5_goes_23 (by decide) ?_
    have K_3 : ∀ (x_4 : Int32) (H : Heap) (locs : List Loc) (ls : Array Slot), x_4 = (if (sr (5 + 8 * i + 2)) = (nI 1) then ((nI 12) - (sr (5 + 8 * i + 1))) else (sr (5 + 8 * i + 1))) → va_P D vwCl (mw cy ad sr kS ot asd stt ik tp td fr tt vl wr bo so nu mv) H → va_S (mA ad) s0.heap H locs → lv_has ls 5 [(2, .int (x_2)), (0, .ref (ad 0)), (1, .int (nI i))] → W p l e (rmz 4 89) s0 m args below meth c H locs 0 0 Q (F0 m 45 ls [.int (x_4)]) := by
      intro x_4 H locs ls ex_4 hP hS hl
      refine lv_istore_n (lv' := [(3, .int (x_4)), (2, .int (x_2)), (0, .ref (ad 0)), (1, .int (nI i))]) hx hb dX5_goes_45 rfl hl (by decide) rfl (fun ls hl => ?_)
      refine lv_aload_n hx hb dX5_goes_46 rfl (lv_at hl 2 rfl) ?_
      refine lv_iload_n hx hb dX5_goes_47 rfl (lv_at hl 3 rfl) ?_
      refine wq_V S mK_ok hK hP hS (c_X5_paceOf (by omega) hN h8) gX5_goes_X5_paceOf i_X5_paceOf rfl (m_rec hK hP) ⟨Nat.le_of_ble_eq_true rfl, Nat.le_of_ble_eq_true rfl⟩ rfl hl.1 (As := [.int (nI i)]) (rest := []) (st1 := [.int (paceF sr N i)]) rfl rfl (Nat.le_of_ble_eq_true rfl) ⟨Nat.le_of_ble_eq_true rfl, Nat.le_of_ble_eq_true rfl⟩ dX5_goes_48 (fun H locs hP hS => ?_)
      refine lv_iload_n hx hb dX5_goes_51 rfl (lv_at hl 0 rfl) ?_
      refine sq_S S (c_X5_heldTo) gX5_goes_X5_heldTo i_X5_heldTo ⟨Nat.le_of_ble_eq_true rfl, Nat.le_of_ble_eq_true rfl⟩ rfl hl.1 (As := [.int (paceF sr N i), .int (x_4)]) (rest := []) (st1 := [.int (hTo (paceF sr N i) (x_4))]) rfl rfl (Nat.le_of_ble_eq_true rfl) ⟨Nat.le_of_ble_eq_true rfl, Nat.le_of_ble_eq_true rfl⟩ dX5_goes_52 ?_
      refine lv_istore (lv' := [(4, .int (hTo (paceF sr N i) (x_4))), (3, .int (x_4)), (2, .int (x_2)), (0, .ref (ad 0)), (1, .int (nI i))]) hx hb dX5_goes_55 hl (by decide) rfl (fun ls hl => ?_)
      refine lv_aload_n hx hb dX5_goes_57 rfl (lv_at hl 3 rfl) ?_
      refine m_get hx hb hts hin hown hK hP 0 (by decide) (hts (.fieldLink RX5 7 "PennyRoadModel" "s" "[I") (by decide +kernel)) rfl dX5_goes_58 ?_
      refine lv_iload_n hx hb dX5_goes_61 rfl (lv_at hl 4 rfl) ?_
      refine lv_iconst (v := nI 1) hx hb dX5_goes_62 (by decide) ?_
      refine sq_S S (c_X5_spotOf) gX5_goes_X5_spotOf i_X5_spotOf ⟨Nat.le_of_ble_eq_true rfl, Nat.le_of_ble_eq_true rfl⟩ rfl hl.1 (As := [.int (nI i), .int (nI 1)]) (rest := [.ref (ad 1)]) (st1 := [.int (nI (5 + 8 * i + 1)), .ref (ad 1)]) rfl rfl (Nat.le_of_ble_eq_true rfl) ⟨Nat.le_of_ble_eq_true rfl, Nat.le_of_ble_eq_true rfl⟩ dX5_goes_63 ?_
      refine lv_dup2_11 hx hb dX5_goes_66 rfl rfl ?_
      refine m_ald hx hb hK hP 1 rfl (by decide) (by omega) dX5_goes_67 ?_
      refine lv_aload_n hx hb dX5_goes_68 rfl (lv_at hl 3 rfl) ?_
      refine lv_iload_n hx hb dX5_goes_69 rfl (lv_at hl 4 rfl) ?_
      refine lv_iconst (v := nI 2) hx hb dX5_goes_70 (by decide) ?_
      refine wq_V S mK_ok hK hP hS (c_X5_its (by omega) (by omega)) gX5_goes_X5_its i_X5_its rfl (m_rec hK hP) ⟨Nat.le_of_ble_eq_true rfl, Nat.le_of_ble_eq_true rfl⟩ rfl hl.1 (As := [.int (nI i), .int (nI 2)]) (rest := [.int (sr (5 + 8 * i + 1)), .int (nI (5 + 8 * i + 1)), .ref (ad 1)]) (st1 := [.int (sr (5 + 8 * i + 2)), .int (sr (5 + 8 * i + 1)), .int (nI (5 + 8 * i + 1)), .ref (ad 1)]) rfl rfl (Nat.le_of_ble_eq_true rfl) ⟨Nat.le_of_ble_eq_true rfl, Nat.le_of_ble_eq_true rfl⟩ dX5_goes_71 (fun H locs hP hS => ?_)
      refine lv_iconst (v := nI 1) hx hb dX5_goes_74 (by decide) ?_
      have K_5 : ∀ (x_6 : Int32) (H : Heap) (locs : List Loc) (ls : Array Slot), x_6 = (if (sr (5 + 8 * i + 2)) = (nI 1) then (hTo (paceF sr N i) (x_4)) else (-(hTo (paceF sr N i) (x_4)))) → va_P D vwCl (mw cy ad sr kS ot asd stt ik tp td fr tt vl wr bo so nu mv) H → va_S (mA ad) s0.heap H locs → lv_has ls 5 [(4, .int (hTo (paceF sr N i) (x_4))), (3, .int (x_4)), (2, .int (x_2)), (0, .ref (ad 0)), (1, .int (nI i))] → W p l e (rmz 4 89) s0 m args below meth c H locs 0 0 Q (F0 m 86 ls [.int (x_6), .int (sr (5 + 8 * i + 1)), .int (nI (5 + 8 * i + 1)), .ref (ad 1)]) := by
        intro x_6 H locs ls ex_6 hP hS hl
        refine lv_iadd hx hb dX5_goes_86 ?_
        refine m_ast (w' := (mw cy ad (upd sr (5 + 8 * i + 1) ((sr (5 + 8 * i + 1)) + (x_6))) kS ot asd stt ik tp td fr tt vl wr bo so nu mv)) hx hb hK hP hS 1 rfl (by decide) (by omega) rfl dX5_goes_87 (fun H locs hP hS => ?_)
        refine lv_aload_n hx hb dX5_goes_88 rfl (lv_at hl 3 rfl) ?_
        refine m_get hx hb hts hin hown hK hP 0 (by decide) (hts (.fieldLink RX5 7 "PennyRoadModel" "s" "[I") (by decide +kernel)) rfl dX5_goes_89 ?_
        refine lv_iload_n hx hb dX5_goes_92 rfl (lv_at hl 4 rfl) ?_
        refine lv_iconst (v := nI 5) hx hb dX5_goes_93 (by decide) ?_
        refine sq_S S (c_X5_spotOf) gX5_goes_X5_spotOf i_X5_spotOf ⟨Nat.le_of_ble_eq_true rfl, Nat.le_of_ble_eq_true rfl⟩ rfl hl.1 (As := [.int (nI i), .int (nI 5)]) (rest := [.ref (ad 1)]) (st1 := [.int (nI (5 + 8 * i + 5)), .ref (ad 1)]) rfl rfl (Nat.le_of_ble_eq_true rfl) ⟨Nat.le_of_ble_eq_true rfl, Nat.le_of_ble_eq_true rfl⟩ dX5_goes_94 ?_
        refine lv_aload_n hx hb dX5_goes_97 rfl (lv_at hl 3 rfl) ?_
        refine lv_iload_n hx hb dX5_goes_98 rfl (lv_at hl 4 rfl) ?_
        refine lv_iconst (v := nI 5) hx hb dX5_goes_99 (by decide) ?_
        refine wq_V S mK_ok hK hP hS (c_X5_its (by omega) (by omega)) gX5_goes_X5_its i_X5_its rfl (m_rec hK hP) ⟨Nat.le_of_ble_eq_true rfl, Nat.le_of_ble_eq_true rfl⟩ rfl hl.1 (As := [.int (nI i), .int (nI 5)]) (rest := [.int (nI (5 + 8 * i + 5)), .ref (ad 1)]) (st1 := [.int ((upd sr (5 + 8 * i + 1) ((sr (5 + 8 * i + 1)) + (x_6))) (5 + 8 * i + 5)), .int (nI (5 + 8 * i + 5)), .ref (ad 1)]) rfl rfl (Nat.le_of_ble_eq_true rfl) ⟨Nat.le_of_ble_eq_true rfl, Nat.le_of_ble_eq_true rfl⟩ dX5_goes_100 (fun H locs hP hS => ?_)
        refine lv_iload hx hb dX5_goes_103 (lv_at hl 0 rfl) ?_
        refine lv_iadd hx hb dX5_goes_105 ?_
        refine lv_bipush (v := nI 12) hx hb dX5_goes_106 (by decide) ?_
        refine sq_S S (c_X5_heldTo) gX5_goes_X5_heldTo i_X5_heldTo ⟨Nat.le_of_ble_eq_true rfl, Nat.le_of_ble_eq_true rfl⟩ rfl hl.1 (As := [.int (((upd sr (5 + 8 * i + 1) ((sr (5 + 8 * i + 1)) + (x_6))) (5 + 8 * i + 5)) + (hTo (paceF sr N i) (x_4))), .int (nI 12)]) (rest := [.int (nI (5 + 8 * i + 5)), .ref (ad 1)]) (st1 := [.int (hTo (((upd sr (5 + 8 * i + 1) ((sr (5 + 8 * i + 1)) + (x_6))) (5 + 8 * i + 5)) + (hTo (paceF sr N i) (x_4))) (nI 12)), .int (nI (5 + 8 * i + 5)), .ref (ad 1)]) rfl rfl (Nat.le_of_ble_eq_true rfl) ⟨Nat.le_of_ble_eq_true rfl, Nat.le_of_ble_eq_true rfl⟩ dX5_goes_108 ?_
        refine m_ast (w' := (mw cy ad (upd (upd sr (5 + 8 * i + 1) ((sr (5 + 8 * i + 1)) + (x_6))) (5 + 8 * i + 5) (hTo (((upd sr (5 + 8 * i + 1) ((sr (5 + 8 * i + 1)) + (x_6))) (5 + 8 * i + 5)) + (hTo (paceF sr N i) (x_4))) (nI 12))) kS ot asd stt ik tp td fr tt vl wr bo so nu mv)) hx hb hK hP hS 1 rfl (by decide) (by omega) rfl dX5_goes_111 (fun H locs hP hS => ?_)
        refine lv_aload_n hx hb dX5_goes_112 rfl (lv_at hl 3 rfl) ?_
        refine m_get hx hb hts hin hown hK hP 0 (by decide) (hts (.fieldLink RX5 7 "PennyRoadModel" "s" "[I") (by decide +kernel)) rfl dX5_goes_113 ?_
        refine lv_iload_n hx hb dX5_goes_116 rfl (lv_at hl 4 rfl) ?_
        refine lv_iconst (v := nI 4) hx hb dX5_goes_117 (by decide) ?_
        refine sq_S S (c_X5_spotOf) gX5_goes_X5_spotOf i_X5_spotOf ⟨Nat.le_of_ble_eq_true rfl, Nat.le_of_ble_eq_true rfl⟩ rfl hl.1 (As := [.int (nI i), .int (nI 4)]) (rest := [.ref (ad 1)]) (st1 := [.int (nI (5 + 8 * i + 4)), .ref (ad 1)]) rfl rfl (Nat.le_of_ble_eq_true rfl) ⟨Nat.le_of_ble_eq_true rfl, Nat.le_of_ble_eq_true rfl⟩ dX5_goes_118 ?_
        refine lv_aload_n hx hb dX5_goes_121 rfl (lv_at hl 3 rfl) ?_
        refine lv_iload_n hx hb dX5_goes_122 rfl (lv_at hl 4 rfl) ?_
        refine lv_iconst (v := nI 1) hx hb dX5_goes_123 (by decide) ?_
        refine wq_V S mK_ok hK hP hS (c_X5_its (by omega) (by omega)) gX5_goes_X5_its i_X5_its rfl (m_rec hK hP) ⟨Nat.le_of_ble_eq_true rfl, Nat.le_of_ble_eq_true rfl⟩ rfl hl.1 (As := [.int (nI i), .int (nI 1)]) (rest := [.int (nI (5 + 8 * i + 4)), .ref (ad 1)]) (st1 := [.int ((upd (upd sr (5 + 8 * i + 1) ((sr (5 + 8 * i + 1)) + (x_6))) (5 + 8 * i + 5) (hTo (((upd sr (5 + 8 * i + 1) ((sr (5 + 8 * i + 1)) + (x_6))) (5 + 8 * i + 5)) + (hTo (paceF sr N i) (x_4))) (nI 12))) (5 + 8 * i + 1)), .int (nI (5 + 8 * i + 4)), .ref (ad 1)]) rfl rfl (Nat.le_of_ble_eq_true rfl) ⟨Nat.le_of_ble_eq_true rfl, Nat.le_of_ble_eq_true rfl⟩ dX5_goes_124 (fun H locs hP hS => ?_)
        refine lv_bipush (v := nI 6) hx hb dX5_goes_127 (by decide) ?_
        have K_7 : ∀ (x_8 : Int32) (H : Heap) (locs : List Loc) (ls : Array Slot), x_8 = (if ((upd (upd sr (5 + 8 * i + 1) ((sr (5 + 8 * i + 1)) + (x_6))) (5 + 8 * i + 5) (hTo (((upd sr (5 + 8 * i + 1) ((sr (5 + 8 * i + 1)) + (x_6))) (5 + 8 * i + 5)) + (hTo (paceF sr N i) (x_4))) (nI 12))) (5 + 8 * i + 1)) = (nI 6) then (nI 0) else (hTo (((upd (upd sr (5 + 8 * i + 1) ((sr (5 + 8 * i + 1)) + (x_6))) (5 + 8 * i + 5) (hTo (((upd sr (5 + 8 * i + 1) ((sr (5 + 8 * i + 1)) + (x_6))) (5 + 8 * i + 5)) + (hTo (paceF sr N i) (x_4))) (nI 12))) (5 + 8 * i + 4)) + (nI 1)) (nI 99))) → va_P D vwCl (mw cy ad (upd (upd sr (5 + 8 * i + 1) ((sr (5 + 8 * i + 1)) + (x_6))) (5 + 8 * i + 5) (hTo (((upd sr (5 + 8 * i + 1) ((sr (5 + 8 * i + 1)) + (x_6))) (5 + 8 * i + 5)) + (hTo (paceF sr N i) (x_4))) (nI 12))) kS ot asd stt ik tp td fr tt vl wr bo so nu mv) H → va_S (mA ad) s0.heap H locs → lv_has ls 5 [(4, .int (hTo (paceF sr N i) (x_4))), (3, .int (x_4)), (2, .int (x_2)), (0, .ref (ad 0)), (1, .int (nI i))] → W p l e (rmz 4 89) s0 m args below meth c H locs 0 0 Q (F0 m 149 ls [.int (x_8), .int (nI (5 + 8 * i + 4)), .ref (ad 1)]) := by
          intro x_8 H locs ls ex_8 hP hS hl
          refine m_ast (w' := (mw cy ad (upd (upd (upd sr (5 + 8 * i + 1) ((sr (5 + 8 * i + 1)) + (x_6))) (5 + 8 * i + 5) (hTo (((upd sr (5 + 8 * i + 1) ((sr (5 + 8 * i + 1)) + (x_6))) (5 + 8 * i + 5)) + (hTo (paceF sr N i) (x_4))) (nI 12))) (5 + 8 * i + 4) x_8) kS ot asd stt ik tp td fr tt vl wr bo so nu mv)) hx hb hK hP hS 1 rfl (by decide) (by omega) rfl dX5_goes_149 (fun H locs hP hS => ?_)
          refine lv_aload_n hx hb dX5_goes_150 rfl (lv_at hl 3 rfl) ?_
          refine lv_iload_n hx hb dX5_goes_151 rfl (lv_at hl 4 rfl) ?_
          refine lv_iconst (v := nI 1) hx hb dX5_goes_152 (by decide) ?_
          refine wq_V S mK_ok hK hP hS (c_X5_its (by omega) (by omega)) gX5_goes_X5_its i_X5_its rfl (m_rec hK hP) ⟨Nat.le_of_ble_eq_true rfl, Nat.le_of_ble_eq_true rfl⟩ rfl hl.1 (As := [.int (nI i), .int (nI 1)]) (rest := []) (st1 := [.int ((upd (upd (upd sr (5 + 8 * i + 1) ((sr (5 + 8 * i + 1)) + (x_6))) (5 + 8 * i + 5) (hTo (((upd sr (5 + 8 * i + 1) ((sr (5 + 8 * i + 1)) + (x_6))) (5 + 8 * i + 5)) + (hTo (paceF sr N i) (x_4))) (nI 12))) (5 + 8 * i + 4) x_8) (5 + 8 * i + 1))]) rfl rfl (Nat.le_of_ble_eq_true rfl) ⟨Nat.le_of_ble_eq_true rfl, Nat.le_of_ble_eq_true rfl⟩ dX5_goes_153 (fun H locs hP hS => ?_)
          refine lv_iload_n hx hb dX5_goes_156 rfl (lv_at hl 2 rfl) ?_
          refine lv_icmp_ne (tgt := 165) hx hb dX5_goes_157 (by decide) (fun c_157 => ?_) (fun c_157 => ?_)
          · skip
            subst hQ
            exact wq_rv hx hb hr hlocks hP hS dX5_goes_165 rfl (mw_sr (by subst_vars; exact ((if_neg c_157).trans rfl)))
          · skip
            refine lv_aload_n hx hb dX5_goes_160 rfl (lv_at hl 3 rfl) ?_
            refine lv_iload_n hx hb dX5_goes_161 rfl (lv_at hl 4 rfl) ?_
            refine wq_V S mK_ok hK hP hS (c_X5_arrives (by omega)) gX5_goes_X5_arrives i_X5_arrives rfl (m_rec hK hP) ⟨Nat.le_of_ble_eq_true rfl, Nat.le_of_ble_eq_true rfl⟩ rfl hl.1 (As := [.int (nI i)]) (rest := []) (st1 := []) rfl rfl (Nat.le_of_ble_eq_true rfl) ⟨Nat.le_of_ble_eq_true rfl, Nat.le_of_ble_eq_true rfl⟩ dX5_goes_162 (fun H locs hP hS => ?_)
            subst hQ
            exact wq_rv hx hb hr hlocks hP hS dX5_goes_165 rfl (mw_sr (by subst_vars; exact ((if_pos c_157).trans rfl)))
        refine lv_icmp_ne (tgt := 136) hx hb dX5_goes_129 (by decide) (fun c_129 => ?_) (fun c_129 => ?_)
        · skip
          refine lv_aload_n hx hb dX5_goes_136 rfl (lv_at hl 3 rfl) ?_
          refine lv_iload_n hx hb dX5_goes_137 rfl (lv_at hl 4 rfl) ?_
          refine lv_iconst (v := nI 4) hx hb dX5_goes_138 (by decide) ?_
          refine wq_V S mK_ok hK hP hS (c_X5_its (by omega) (by omega)) gX5_goes_X5_its i_X5_its rfl (m_rec hK hP) ⟨Nat.le_of_ble_eq_true rfl, Nat.le_of_ble_eq_true rfl⟩ rfl hl.1 (As := [.int (nI i), .int (nI 4)]) (rest := [.int (nI (5 + 8 * i + 4)), .ref (ad 1)]) (st1 := [.int ((upd (upd sr (5 + 8 * i + 1) ((sr (5 + 8 * i + 1)) + (x_6))) (5 + 8 * i + 5) (hTo (((upd sr (5 + 8 * i + 1) ((sr (5 + 8 * i + 1)) + (x_6))) (5 + 8 * i + 5)) + (hTo (paceF sr N i) (x_4))) (nI 12))) (5 + 8 * i + 4)), .int (nI (5 + 8 * i + 4)), .ref (ad 1)]) rfl rfl (Nat.le_of_ble_eq_true rfl) ⟨Nat.le_of_ble_eq_true rfl, Nat.le_of_ble_eq_true rfl⟩ dX5_goes_139 (fun H locs hP hS => ?_)
          refine lv_iconst (v := nI 1) hx hb dX5_goes_142 (by decide) ?_
          refine lv_iadd hx hb dX5_goes_143 ?_
          refine lv_bipush (v := nI 99) hx hb dX5_goes_144 (by decide) ?_
          refine sq_S S (c_X5_heldTo) gX5_goes_X5_heldTo i_X5_heldTo ⟨Nat.le_of_ble_eq_true rfl, Nat.le_of_ble_eq_true rfl⟩ rfl hl.1 (As := [.int (((upd (upd sr (5 + 8 * i + 1) ((sr (5 + 8 * i + 1)) + (x_6))) (5 + 8 * i + 5) (hTo (((upd sr (5 + 8 * i + 1) ((sr (5 + 8 * i + 1)) + (x_6))) (5 + 8 * i + 5)) + (hTo (paceF sr N i) (x_4))) (nI 12))) (5 + 8 * i + 4)) + (nI 1)), .int (nI 99)]) (rest := [.int (nI (5 + 8 * i + 4)), .ref (ad 1)]) (st1 := [.int (hTo (((upd (upd sr (5 + 8 * i + 1) ((sr (5 + 8 * i + 1)) + (x_6))) (5 + 8 * i + 5) (hTo (((upd sr (5 + 8 * i + 1) ((sr (5 + 8 * i + 1)) + (x_6))) (5 + 8 * i + 5)) + (hTo (paceF sr N i) (x_4))) (nI 12))) (5 + 8 * i + 4)) + (nI 1)) (nI 99)), .int (nI (5 + 8 * i + 4)), .ref (ad 1)]) rfl rfl (Nat.le_of_ble_eq_true rfl) ⟨Nat.le_of_ble_eq_true rfl, Nat.le_of_ble_eq_true rfl⟩ dX5_goes_146 ?_
          exact K_7 (hTo (((upd (upd sr (5 + 8 * i + 1) ((sr (5 + 8 * i + 1)) + (x_6))) (5 + 8 * i + 5) (hTo (((upd sr (5 + 8 * i + 1) ((sr (5 + 8 * i + 1)) + (x_6))) (5 + 8 * i + 5)) + (hTo (paceF sr N i) (x_4))) (nI 12))) (5 + 8 * i + 4)) + (nI 1)) (nI 99)) _ _ ls (by simp only [if_neg c_129]) hP hS hl
        · skip
          refine lv_iconst (v := nI 0) hx hb dX5_goes_132 (by decide) ?_
          refine lv_goto (tgt := 149) hx hb dX5_goes_133 (by decide) ?_
          exact K_7 (nI 0) _ _ ls (by simp only [if_pos c_129]) hP hS hl
      refine lv_icmp_ne (tgt := 83) hx hb dX5_goes_75 (by decide) (fun c_75 => ?_) (fun c_75 => ?_)
      · skip
        refine lv_iload hx hb dX5_goes_83 (lv_at hl 0 rfl) ?_
        refine lv_ineg hx hb dX5_goes_85 ?_
        exact K_5 (-(hTo (paceF sr N i) (x_4))) _ _ ls (by simp only [if_neg c_75]) hP hS hl
      · skip
        refine lv_iload hx hb dX5_goes_78 (lv_at hl 0 rfl) ?_
        refine lv_goto (tgt := 86) hx hb dX5_goes_80 (by decide) ?_
        exact K_5 (hTo (paceF sr N i) (x_4)) _ _ ls (by simp only [if_pos c_75]) hP hS hl
    refine lv_icmp_ne (tgt := 39) hx hb dX5_goes_24 (by decide) (fun c_24 => ?_) (fun c_24 => ?_)
    · skip
      refine lv_aload_n hx hb dX5_goes_39 rfl (lv_at hl 1 rfl) ?_
      refine lv_iload_n hx hb dX5_goes_40 rfl (lv_at hl 2 rfl) ?_
      refine lv_iconst (v := nI 1) hx hb dX5_goes_41 (by decide) ?_
      refine wq_V S mK_ok hK hP hS (c_X5_its (by omega) (by omega)) gX5_goes_X5_its i_X5_its rfl (m_rec hK hP) ⟨Nat.le_of_ble_eq_true rfl, Nat.le_of_ble_eq_true rfl⟩ rfl hl.1 (As := [.int (nI i), .int (nI 1)]) (rest := []) (st1 := [.int (sr (5 + 8 * i + 1))]) rfl rfl (Nat.le_of_ble_eq_true rfl) ⟨Nat.le_of_ble_eq_true rfl, Nat.le_of_ble_eq_true rfl⟩ dX5_goes_42 (fun H locs hP hS => ?_)
      exact K_3 (sr (5 + 8 * i + 1)) _ _ ls (by simp only [if_neg c_24]) hP hS hl
    · skip
      refine lv_bipush (v := nI 12) hx hb dX5_goes_27 (by decide) ?_
      refine lv_aload_n hx hb dX5_goes_29 rfl (lv_at hl 1 rfl) ?_
      refine lv_iload_n hx hb dX5_goes_30 rfl (lv_at hl 2 rfl) ?_
      refine lv_iconst (v := nI 1) hx hb dX5_goes_31 (by decide) ?_
      refine wq_V S mK_ok hK hP hS (c_X5_its (by omega) (by omega)) gX5_goes_X5_its i_X5_its rfl (m_rec hK hP) ⟨Nat.le_of_ble_eq_true rfl, Nat.le_of_ble_eq_true rfl⟩ rfl hl.1 (As := [.int (nI i), .int (nI 1)]) (rest := [.int (nI 12)]) (st1 := [.int (sr (5 + 8 * i + 1)), .int (nI 12)]) rfl rfl (Nat.le_of_ble_eq_true rfl) ⟨Nat.le_of_ble_eq_true rfl, Nat.le_of_ble_eq_true rfl⟩ dX5_goes_32 (fun H locs hP hS => ?_)
      refine lv_isub hx hb dX5_goes_35 ?_
      refine lv_goto (tgt := 45) hx hb dX5_goes_36 (by decide) ?_
      exact K_3 ((nI 12) - (sr (5 + 8 * i + 1))) _ _ ls (by simp only [if_pos c_24]) hP hS hl
  refine lv_icmp_ne (tgt := 15) hx hb dX5_goes_7 (by decide) (fun c_7 => ?_) (fun c_7 => ?_)
  · skip
    refine lv_iconst (v := nI 0) hx hb dX5_goes_15 (by decide) ?_
    exact K_1 (nI 0) _ _ ls (by simp only [if_neg c_7]) hP hS hl
  · skip
    refine lv_bipush (v := nI 12) hx hb dX5_goes_10 (by decide) ?_
    refine lv_goto (tgt := 16) hx hb dX5_goes_12 (by decide) ?_
    exact K_1 (nI 12) _ _ ls (by simp only [if_pos c_7]) hP hS hl
theorem i_X5_goes : ciOk yX5_goes cX5_goes 5 none wsX5_goes 1 := ⟨⟨_, rfl⟩, by decide +kernel⟩
set_option maxHeartbeats 4000000 in
set_option maxRecDepth 100000 in
theorem c_X5_hour {l : Launch} {D : va_G} {cy : Nat → ClassId} {ad : Nat → Nat} {sr kS ot asd stt : Nat → Int32} {ik : Int32} {tp : Nat → Int32} {td fr tt vl wr : Int32} {bo so : Nat → Int32} {nu mv : Nat → Int64} {N : Nat} (hN : sr 0 = nI N) (h8 : N ≤ 8) : Met l yX5_hour wsX5_hour (rmz 5 113) (wPre D (mK D cy ad) (mw cy ad sr kS ot asd stt ik tp td fr tt vl wr bo so nu mv) [.ref (ad 0)]) (wPost D (mw cy ad (hourF N sr) kS ot asd stt ik tp td fr tt vl wr bo so nu mv) none (mA ad)) 0 0 (mA ad) := by
  refine wq_entry rfl rfl (Nat.le_of_ble_eq_true rfl) ?_
  intro p e s0 m args below meth c S hr hlocks hK hP ls hl
  have S : CallFix p m c cX5_hour 2 s0 args wsX5_hour RX5 := S
  obtain ⟨hx, hb, hml, hown, hts⟩ := id S
  have hin : ∀ w ∈ wsX50, w ∈ wsX5_hour := fun w h => List.mem_cons_of_mem _ (List.mem_append_right _ h)
  have hS : va_S (mA ad) s0.heap s0.heap [] := va_S.rf
  have hl : lv_has ls 2 [(0, .ref (ad 0))] := hl
  generalize hQ : MQ below (wPost D (mw cy ad (hourF N sr) kS ot asd stt ik tp td fr tt vl wr bo so nu mv) none (mA ad)) args s0 0 0 (mA ad) = Q
  refine lv_iconst (v := nI 0) hx hb dX5_hour_0 (by decide) ?_
  refine lv_istore_n (lv' := [(1, .int (nI 0)), (0, .ref (ad 0))]) hx hb dX5_hour_1 rfl hl (by decide) rfl (fun ls hl => ?_)
  have L_2 : ∀ (n : Nat) (j : Nat) (ss : Nat → Int32) (H : Heap) (locs : List Loc) (ls : Array Slot), j + n = N → ss 0 = nI N → hourL N N 0 sr = hourL N n j ss → va_P D vwCl (mw cy ad ss kS ot asd stt ik tp td fr tt vl wr bo so nu mv) H → va_S (mA ad) s0.heap H locs → lv_has ls 2 [(1, .int (nI j)), (0, .ref (ad 0))] → W p l e (rmz 5 113) s0 m args below meth c H locs 0 0 Q (F0 m 2 ls []) := by
    intro n
    induction n with
    | zero =>
      intro j ss H locs ls hj hm hF hP hS hl
      refine lv_iload_n hx hb dX5_hour_2 rfl (lv_at hl 0 rfl) ?_
      refine lv_aload_n hx hb dX5_hour_3 rfl (lv_at hl 1 rfl) ?_
      refine m_get hx hb hts hin hown hK hP 0 (by decide) (hts (.fieldLink RX5 7 "PennyRoadModel" "s" "[I") (by decide +kernel)) rfl dX5_hour_4 ?_
      refine lv_iconst (v := nI 0) hx hb dX5_hour_7 (by decide) ?_
      refine m_ald hx hb hK hP 1 rfl (by decide) (by omega) dX5_hour_8 ?_
      refine lv_top hm ?_
      refine lvn_icmp_ge (tgt := 33) hx hb dX5_hour_9 (by decide) (by omega) (by omega) (fun c_9 => ?_) (fun c_9 => ?_)
      · skip
        have hF : hourL N N 0 sr = ss := hF
        subst hF
        refine lv_aload_n hx hb dX5_hour_33 rfl (lv_at hl 1 rfl) ?_
        refine m_get hx hb hts hin hown hK hP 0 (by decide) (hts (.fieldLink RX5 7 "PennyRoadModel" "s" "[I") (by decide +kernel)) rfl dX5_hour_34 ?_
        refine lv_iconst (v := nI 1) hx hb dX5_hour_37 (by decide) ?_
        refine lv_dup2_11 hx hb dX5_hour_38 rfl rfl ?_
        refine m_ald hx hb hK hP 1 rfl (by decide) (by omega) dX5_hour_39 ?_
        refine lv_iconst (v := nI 1) hx hb dX5_hour_40 (by decide) ?_
        refine lv_iadd hx hb dX5_hour_41 ?_
        refine m_ast (w' := (mw cy ad (upd (hourL N N 0 sr) 1 (((hourL N N 0 sr) 1) + (nI 1))) kS ot asd stt ik tp td fr tt vl wr bo so nu mv)) hx hb hK hP hS 1 rfl (by decide) (by omega) rfl dX5_hour_42 (fun H locs hP hS => ?_)
        subst hQ
        exact wq_rv hx hb hr hlocks hP hS dX5_hour_43 (by first | rfl | (simp only [if_pos c_9]; done) | (subst_vars; first | rfl | (simp only [if_pos c_9]; done) | (simp only [c_9, and_true, true_and, false_and, and_false, and_self, not_true_eq_false, not_false_eq_true, if_true, if_false, reduceIte, or_false, false_or, true_or, or_true]; done))) (by first | rfl | (simp only [if_pos c_9]; done) | (subst_vars; first | rfl | (simp only [if_pos c_9]; done) | (simp only [c_9, and_true, true_and, false_and, and_false, and_self, not_true_eq_false, not_false_eq_true, if_true, if_false, reduceIte, or_false, false_or, true_or, or_true]; done)))
      · skip
        exfalso; omega
    | succ n ih_2 =>
      intro j ss H locs ls hj hm hF hP hS hl
      refine lv_iload_n hx hb dX5_hour_2 rfl (lv_at hl 0 rfl) ?_
      refine lv_aload_n hx hb dX5_hour_3 rfl (lv_at hl 1 rfl) ?_
      refine m_get hx hb hts hin hown hK hP 0 (by decide) (hts (.fieldLink RX5 7 "PennyRoadModel" "s" "[I") (by decide +kernel)) rfl dX5_hour_4 ?_
      refine lv_iconst (v := nI 0) hx hb dX5_hour_7 (by decide) ?_
      refine m_ald hx hb hK hP 1 rfl (by decide) (by omega) dX5_hour_8 ?_
      refine lv_top hm ?_
      refine lvn_icmp_ge (tgt := 33) hx hb dX5_hour_9 (by decide) (by omega) (by omega) (fun c_9 => ?_) (fun c_9 => ?_)
      · skip
        exfalso; omega
      · skip
        refine lv_aload_n hx hb dX5_hour_12 rfl (lv_at hl 1 rfl) ?_
        refine lv_iload_n hx hb dX5_hour_13 rfl (lv_at hl 0 rfl) ?_
        refine lv_bipush (v := nI 7) hx hb dX5_hour_14 (by decide) ?_
        refine wq_V S mK_ok hK hP hS (c_X5_its (by omega) (by omega)) gX5_hour_X5_its i_X5_its rfl (m_rec hK hP) ⟨Nat.le_of_ble_eq_true rfl, Nat.le_of_ble_eq_true rfl⟩ rfl hl.1 (As := [.int (nI j), .int (nI 7)]) (rest := []) (st1 := [.int (ss (5 + 8 * j + 7))]) rfl rfl (Nat.le_of_ble_eq_true rfl) ⟨Nat.le_of_ble_eq_true rfl, Nat.le_of_ble_eq_true rfl⟩ dX5_hour_16 (fun H locs hP hS => ?_)
        have K_1 : ∀ (w_2 : Nat → Int32) (H : Heap) (locs : List Loc) (ls : Array Slot), w_2 = (if (ss (5 + 8 * j + 7)) = 0 then (goesF ss N j) else ss) → w_2 0 = nI N → va_P D vwCl (mw cy ad w_2 kS ot asd stt ik tp td fr tt vl wr bo so nu mv) H → va_S (mA ad) s0.heap H locs → lv_has ls 2 [(1, .int (nI j)), (0, .ref (ad 0))] → W p l e (rmz 5 113) s0 m args below meth c H locs 0 0 Q (F0 m 27 ls []) := by
          intro w_2 H locs ls ew_2 hm_2 hP hS hl
          refine lv_iinc (v := nI (j + 1)) (lv' := [(1, .int (nI (j + 1))), (0, .ref (ad 0))]) hx hb dX5_hour_27 hl (k := 0) rfl (nI_add _ _) (by decide) rfl (fun ls hl => ?_)
          refine lv_goto (tgt := 2) hx hb dX5_hour_30 (by decide) ?_
          exact ih_2 (j + 1) _ _ _ ls (by omega) hm_2 (by subst ew_2; exact hF) hP hS hl
        refine lv_if_ne (tgt := 27) hx hb dX5_hour_19 (by decide) (fun c_19 => ?_) (fun c_19 => ?_)
        · skip
          exact K_1 (ss) _ _ ls (by simp only [if_neg c_19]) hm hP hS hl
        · skip
          refine lv_aload_n hx hb dX5_hour_22 rfl (lv_at hl 1 rfl) ?_
          refine lv_iload_n hx hb dX5_hour_23 rfl (lv_at hl 0 rfl) ?_
          refine wq_V S mK_ok hK hP hS (c_X5_goes (by omega) hm h8) gX5_hour_X5_goes i_X5_goes rfl (m_rec hK hP) ⟨Nat.le_of_ble_eq_true rfl, Nat.le_of_ble_eq_true rfl⟩ rfl hl.1 (As := [.int (nI j)]) (rest := []) (st1 := []) rfl rfl (Nat.le_of_ble_eq_true rfl) ⟨Nat.le_of_ble_eq_true rfl, Nat.le_of_ble_eq_true rfl⟩ dX5_hour_24 (fun H locs hP hS => ?_)
          exact K_1 (goesF ss N j) _ _ ls (by simp only [if_pos c_19]) (goesF_0.trans hm) hP hS hl
  exact L_2 N 0 sr _ _ ls (by omega) hN rfl hP hS hl
theorem i_X5_hour : ciOk yX5_hour cX5_hour 2 none wsX5_hour 0 := ⟨⟨_, rfl⟩, by decide +kernel⟩
set_option maxHeartbeats 4000000 in
set_option maxRecDepth 100000 in
theorem c_X5_hoursGo {l : Launch} {D : va_G} {cy : Nat → ClassId} {ad : Nat → Nat} {sr kS ot asd stt : Nat → Int32} {ik : Int32} {tp : Nat → Int32} {td fr tt vl wr : Int32} {bo so : Nat → Int32} {nu mv : Nat → Int64} {q : Nat} {N : Nat} (hN : sr 0 = nI N) (h8 : N ≤ 8) (hq : q < 2 ^ 31) : Met l yX5_hoursGo wsX5_hoursGo (rmz 6 134) (wPre D (mK D cy ad) (mw cy ad sr kS ot asd stt ik tp td fr tt vl wr bo so nu mv) [.ref (ad 0), .int (nI q)]) (wPost D (mw cy ad (hrsF N q sr) kS ot asd stt ik tp td fr tt vl wr bo so nu mv) none (mA ad)) 0 0 (mA ad) := by
  refine wq_entry rfl rfl (Nat.le_of_ble_eq_true rfl) ?_
  intro p e s0 m args below meth c S hr hlocks hK hP ls hl
  have S : CallFix p m c cX5_hoursGo 3 s0 args wsX5_hoursGo RX5 := S
  obtain ⟨hx, hb, hml, hown, hts⟩ := id S
  have hin : ∀ w ∈ wsX50, w ∈ wsX5_hoursGo := fun w h => List.mem_cons_of_mem _ (List.mem_append_right _ h)
  have hS : va_S (mA ad) s0.heap s0.heap [] := va_S.rf
  have hl : lv_has ls 3 [(0, .ref (ad 0)), (1, .int (nI q))] := hl
  generalize hQ : MQ below (wPost D (mw cy ad (hrsF N q sr) kS ot asd stt ik tp td fr tt vl wr bo so nu mv) none (mA ad)) args s0 0 0 (mA ad) = Q
  refine lv_iconst (v := nI 0) hx hb dX5_hoursGo_0 (by decide) ?_
  refine lv_istore_n (lv' := [(2, .int (nI 0)), (0, .ref (ad 0)), (1, .int (nI q))]) hx hb dX5_hoursGo_1 rfl hl (by decide) rfl (fun ls hl => ?_)
  have L_2 : ∀ (n : Nat) (j : Nat) (ss : Nat → Int32) (H : Heap) (locs : List Loc) (ls : Array Slot), j + n = q → ss 0 = nI N → hrsF N q sr = hrsF N n ss → va_P D vwCl (mw cy ad ss kS ot asd stt ik tp td fr tt vl wr bo so nu mv) H → va_S (mA ad) s0.heap H locs → lv_has ls 3 [(2, .int (nI j)), (0, .ref (ad 0)), (1, .int (nI q))] → W p l e (rmz 6 134) s0 m args below meth c H locs 0 0 Q (F0 m 2 ls []) := by
    intro n
    induction n with
    | zero =>
      intro j ss H locs ls hj hm hF hP hS hl
      refine lv_iload_n hx hb dX5_hoursGo_2 rfl (lv_at hl 0 rfl) ?_
      refine lv_iload_n hx hb dX5_hoursGo_3 rfl (lv_at hl 2 rfl) ?_
      refine lvn_icmp_ge (tgt := 17) hx hb dX5_hoursGo_4 (by decide) (by omega) (by omega) (fun c_4 => ?_) (fun c_4 => ?_)
      · skip
        have hF : hrsF N q sr = ss := hF
        subst hF
        subst hQ
        exact wq_rv hx hb hr hlocks hP hS dX5_hoursGo_17 (by first | rfl | (simp only [if_pos c_4]; done) | (subst_vars; first | rfl | (simp only [if_pos c_4]; done) | (simp only [c_4, and_true, true_and, false_and, and_false, and_self, not_true_eq_false, not_false_eq_true, if_true, if_false, reduceIte, or_false, false_or, true_or, or_true]; done))) (by first | rfl | (simp only [if_pos c_4]; done) | (subst_vars; first | rfl | (simp only [if_pos c_4]; done) | (simp only [c_4, and_true, true_and, false_and, and_false, and_self, not_true_eq_false, not_false_eq_true, if_true, if_false, reduceIte, or_false, false_or, true_or, or_true]; done)))
      · skip
        exfalso; omega
    | succ n ih_2 =>
      intro j ss H locs ls hj hm hF hP hS hl
      refine lv_iload_n hx hb dX5_hoursGo_2 rfl (lv_at hl 0 rfl) ?_
      refine lv_iload_n hx hb dX5_hoursGo_3 rfl (lv_at hl 2 rfl) ?_
      refine lvn_icmp_ge (tgt := 17) hx hb dX5_hoursGo_4 (by decide) (by omega) (by omega) (fun c_4 => ?_) (fun c_4 => ?_)
      · skip
        exfalso; omega
      · skip
        refine lv_aload_n hx hb dX5_hoursGo_7 rfl (lv_at hl 1 rfl) ?_
        refine wq_V S mK_ok hK hP hS (c_X5_hour hm h8) gX5_hoursGo_X5_hour i_X5_hour rfl (m_rec hK hP) ⟨Nat.le_of_ble_eq_true rfl, Nat.le_of_ble_eq_true rfl⟩ rfl hl.1 (As := []) (rest := []) (st1 := []) rfl rfl (Nat.le_of_ble_eq_true rfl) ⟨Nat.le_of_ble_eq_true rfl, Nat.le_of_ble_eq_true rfl⟩ dX5_hoursGo_8 (fun H locs hP hS => ?_)
        refine lv_iinc (v := nI (j + 1)) (lv' := [(2, .int (nI (j + 1))), (0, .ref (ad 0)), (1, .int (nI q))]) hx hb dX5_hoursGo_11 hl (k := 0) rfl (nI_add _ _) (by decide) rfl (fun ls hl => ?_)
        refine lv_goto (tgt := 2) hx hb dX5_hoursGo_14 (by decide) ?_
        exact ih_2 (j + 1) _ _ _ ls (by omega) (hourF_0.trans hm) hF hP hS hl
  exact L_2 q 0 sr _ _ ls (by omega) hN rfl hP hS hl
theorem i_X5_hoursGo : ciOk yX5_hoursGo cX5_hoursGo 3 none wsX5_hoursGo 1 := ⟨⟨_, rfl⟩, by decide +kernel⟩
