set_option maxHeartbeats 1000000 in
set_option maxRecDepth 100000 in
theorem c_X0_isFull {l : Launch} {D : va_G} {cy : Nat → ClassId} {ad : Nat → Nat} {rd : Nat → Nat → Int32} {ke : Int32} {tb : Nat → Int32} {t1 : Int32} {t2 : Int32} {t3 : Int32} {t4 : Int32} {t5 : Int32} {sb : Nat → Int32} {ss : Nat → Int32} {sw : Nat → Nat → Int64} {fd : Nat → Int32} {sg : Nat → Int32} {r : Nat} {N : Nat} (hr3 : r < 3) (hN : sg 0 = nI N) (h8 : N ≤ 8) : Met l yX0_isFull wsX0_isFull (rmz 0 0) (wPre D (cK D cy ad) (cw cy ad (va_up rd r sg) ke tb t1 t2 t3 t4 t5 sb ss sw fd) [.ref (ad (1 + 10 * r))]) (wPost D (cw cy ad (va_up rd r sg) ke tb t1 t2 t3 t4 t5 sb ss sw fd) (some (.int (z (8 ≤ N)))) (cA ad)) 0 0 (cA ad) := by
  refine wq_entry rfl rfl (Nat.le_of_ble_eq_true rfl) ?_
  intro p e s0 m args below meth c S hr hlocks hK hP ls hl
  have S : CallFix p m c cX0_isFull 1 s0 args wsX0_isFull RX0 := S
  obtain ⟨hx, hb, hml, hown, hts⟩ := id S
  have hin0 : ∀ w ∈ wsX00, w ∈ wsX0_isFull := fun w h => List.mem_cons_of_mem _ (List.mem_append_right _ h)
  have hS : va_S (cA ad) s0.heap s0.heap [] := va_S.rf
  have hl : lv_has ls 1 [(0, .ref (ad (1 + 10 * r)))] := hl
  generalize hQ : MQ below (wPost D (cw cy ad (va_up rd r sg) ke tb t1 t2 t3 t4 t5 sb ss sw fd) (some (.int (z (8 ≤ N)))) (cA ad)) args s0 0 0 (cA ad) = Q
  refine lv_aload_n hx hb dX0_isFull_0 rfl (lv_at hl 0 rfl) ?_
  refine r_getR hx hb hts hin0 hown hK hP hr3 4 (by decide) (Or.inl (hts (.fieldLink RX0 24 "PennyRoad$Road" "size" "I") (by decide +kernel))) rfl dX0_isFull_1 ?_
  refine lv_top hN ?_
  refine lv_bipush (v := nI 8) hx hb dX0_isFull_4 (by decide) ?_
  refine lvn_icmp_lt (tgt := 13) hx hb dX0_isFull_6 (by decide) (by omega) (by omega) (fun c_6 => ?_) (fun c_6 => ?_)
  · skip
    refine lv_iconst (v := nI 0) hx hb dX0_isFull_13 (by decide) ?_
    subst hQ
    exact wq_rz hx hb hr hlocks hP hS dX0_isFull_14 (by subst_vars; first | (left; rfl) | (right; rfl) | (split <;> simp)) (by first | exact rvI (z_f (by omega)) | exact rvI (z_t (by omega))) rfl
  · skip
    refine lv_iconst (v := nI 1) hx hb dX0_isFull_9 (by decide) ?_
    refine lv_goto (tgt := 14) hx hb dX0_isFull_10 (by decide) ?_
    subst hQ
    exact wq_rz hx hb hr hlocks hP hS dX0_isFull_14 (by subst_vars; first | (left; rfl) | (right; rfl) | (split <;> simp)) (by first | exact rvI (z_f (by omega)) | exact rvI (z_t (by omega))) rfl
theorem i_X0_isFull : ciOk yX0_isFull cX0_isFull 1 (some .boolean) wsX0_isFull 0 := ⟨⟨_, rfl⟩, by decide +kernel⟩
set_option maxHeartbeats 1000000 in
set_option maxRecDepth 100000 in
theorem c_X0_join {l : Launch} {D : va_G} {cy : Nat → ClassId} {ad : Nat → Nat} {rd : Nat → Nat → Int32} {ke : Int32} {tb : Nat → Int32} {t1 : Int32} {t2 : Int32} {t3 : Int32} {t4 : Int32} {t5 : Int32} {sb : Nat → Int32} {ss : Nat → Int32} {sw : Nat → Nat → Int64} {fd : Nat → Int32} {sg : Nat → Int32} {r : Nat} {kd : Int32} {ml : Int32} {N : Nat} (hr3 : r < 3) (hN : sg 0 = nI N) (h8 : N < 8) : Met l yX0_join wsX0_join (rmz 1 22) (wPre D (cK D cy ad) (cw cy ad (va_up rd r sg) ke tb t1 t2 t3 t4 t5 sb ss sw fd) [.ref (ad (1 + 10 * r)), .int (kd), .int (ml)]) (wPost D (cw cy ad (va_up rd r (addF sg N kd ml)) ke tb t1 t2 t3 t4 t5 sb ss sw fd) (some (.ref (ad (3 + 10 * r + N)))) (cA ad)) 0 0 (cA ad) := by
  refine wq_entry rfl rfl (Nat.le_of_ble_eq_true rfl) ?_
  intro p e s0 m args below meth c S hr hlocks hK hP ls hl
  have S : CallFix p m c cX0_join 4 s0 args wsX0_join RX0 := S
  obtain ⟨hx, hb, hml, hown, hts⟩ := id S
  have hin0 : ∀ w ∈ wsX00, w ∈ wsX0_join := fun w h => List.mem_cons_of_mem _ (List.mem_append_left _ (List.mem_append_right _ h))
  have hin3 : ∀ w ∈ wsX30, w ∈ wsX0_join := fun w h => List.mem_cons_of_mem _ (List.mem_append_right _ h)
  have hS : va_S (cA ad) s0.heap s0.heap [] := va_S.rf
  have hl : lv_has ls 4 [(0, .ref (ad (1 + 10 * r))), (1, .int (kd)), (2, .int (ml))] := hl
  generalize hQ : MQ below (wPost D (cw cy ad (va_up rd r (addF sg N kd ml)) ke tb t1 t2 t3 t4 t5 sb ss sw fd) (some (.ref (ad (3 + 10 * r + N)))) (cA ad)) args s0 0 0 (cA ad) = Q
  refine lv_aload_n hx hb dX0_join_0 rfl (lv_at hl 0 rfl) ?_
  refine r_getR hx hb hts hin0 hown hK hP hr3 5 (by decide) (Or.inl (hts (.fieldLink RX0 29 "PennyRoad$Road" "all" "[LPennyRoad$Walker;") (by decide +kernel))) rfl dX0_join_1 ?_
  refine lv_aload_n hx hb dX0_join_4 rfl (lv_at hl 0 rfl) ?_
  refine r_getR hx hb hts hin0 hown hK hP hr3 4 (by decide) (Or.inl (hts (.fieldLink RX0 24 "PennyRoad$Road" "size" "I") (by decide +kernel))) rfl dX0_join_5 ?_
  refine lv_top hN ?_
  refine c_aldW hx hb hK hP r hr3 (by omega) dX0_join_8 ?_
  refine lv_astore_n (lv' := [(3, .ref (ad (3 + 10 * r + N))), (0, .ref (ad (1 + 10 * r))), (1, .int (kd)), (2, .int (ml))]) hx hb dX0_join_9 rfl hl (by decide) rfl (fun ls hl => ?_)
  refine lv_aload_n hx hb dX0_join_10 rfl (lv_at hl 0 rfl) ?_
  refine lv_iload_n hx hb dX0_join_11 rfl (lv_at hl 2 rfl) ?_
  refine lv_iload_n hx hb dX0_join_12 rfl (lv_at hl 3 rfl) ?_
  refine wq_VN (host := "PennyRoad") S cK_ok hK hP hS (c_X3_startAs hr3 (by omega)) gX0_join_X3_startAs_n38 i_X3_startAs (c_nest hK 37 rfl) (hts (.initialized RX3) (by decide +kernel)) (hts (.instanceMethod yX3_startAs) (by decide +kernel)) (hts (.selects RX3 yX3_startAs yX3_startAs) (by decide +kernel)) (c_rec hK hP (3 + 10 * r + N) (by omega) (cE_wk hr3 (by omega)) rfl) ⟨Nat.le_of_ble_eq_true rfl, Nat.le_of_ble_eq_true rfl⟩ rfl hl.1 (As := [.int (kd), .int (ml)]) (rest := []) (st1 := []) rfl rfl (Nat.le_of_ble_eq_true rfl) ⟨Nat.le_of_ble_eq_true rfl, Nat.le_of_ble_eq_true rfl⟩ dX0_join_13 (fun H locs hP hS => ?_)
  refine lv_aload_n hx hb dX0_join_16 rfl (lv_at hl 1 rfl) ?_
  refine lv_dup hx hb dX0_join_17 rfl ?_
  refine r_getR hx hb hts hin0 hown hK hP hr3 4 (by decide) (Or.inl (hts (.fieldLink RX0 24 "PennyRoad$Road" "size" "I") (by decide +kernel))) rfl dX0_join_18 ?_
  refine lv_top (startF_0.trans hN) ?_
  refine lv_iconst (v := nI 1) hx hb dX0_join_21 (by decide) ?_
  refine lvn_iadd hx hb dX0_join_22 ?_
  refine r_putR hx hb hts hin0 hown hK hP hS hr3 4 (by decide) (x := 0) rfl (Or.inl (hts (.fieldLink RX0 24 "PennyRoad$Road" "size" "I") (by decide +kernel))) rfl (by decide +kernel) dX0_join_23 (fun H locs hP hS => ?_)
  refine lv_aload_n hx hb dX0_join_26 rfl (lv_at hl 0 rfl) ?_
  subst hQ
  exact wq_ra hx hb hr hlocks hP hS dX0_join_27 rfl (cwsg joinF_eq)
theorem i_X0_join : ciOk yX0_join cX0_join 4 (some (.object "PennyRoad$Walker")) wsX0_join 2 := ⟨⟨_, rfl⟩, by decide +kernel⟩
set_option maxHeartbeats 1000000 in
set_option maxRecDepth 100000 in
theorem c_X0_sumOf {l : Launch} {D : va_G} {cy : Nat → ClassId} {ad : Nat → Nat} {rd : Nat → Nat → Int32} {ke : Int32} {tb : Nat → Int32} {t1 : Int32} {t2 : Int32} {t3 : Int32} {t4 : Int32} {t5 : Int32} {sb : Nat → Int32} {ss : Nat → Int32} {sw : Nat → Nat → Int64} {fd : Nat → Int32} {sg : Nat → Int32} {r : Nat} {k : Nat} {N : Nat} (hr3 : r < 3) (hN : sg 0 = nI N) (h8 : N ≤ 8) (h1k : 1 ≤ k) (h7k : k ≤ 7) : Met l yX0_sumOf wsX0_sumOf (rmz 1 21) (wPre D (cK D cy ad) (cw cy ad (va_up rd r sg) ke tb t1 t2 t3 t4 t5 sb ss sw fd) [.ref (ad (1 + 10 * r)), .int (nI k)]) (wPost D (cw cy ad (va_up rd r sg) ke tb t1 t2 t3 t4 t5 sb ss sw fd) (some (.int (sumL sg k N 0 (nI 0)))) (cA ad)) 0 0 (cA ad) := by
  refine wq_entry rfl rfl (Nat.le_of_ble_eq_true rfl) ?_
  intro p e s0 m args below meth c S hr hlocks hK hP ls hl
  have S : CallFix p m c cX0_sumOf 4 s0 args wsX0_sumOf RX0 := S
  obtain ⟨hx, hb, hml, hown, hts⟩ := id S
  have hin0 : ∀ w ∈ wsX00, w ∈ wsX0_sumOf := fun w h => List.mem_cons_of_mem _ (List.mem_append_left _ (List.mem_append_right _ h))
  have hin3 : ∀ w ∈ wsX30, w ∈ wsX0_sumOf := fun w h => List.mem_cons_of_mem _ (List.mem_append_right _ h)
  have hS : va_S (cA ad) s0.heap s0.heap [] := va_S.rf
  have hl : lv_has ls 4 [(0, .ref (ad (1 + 10 * r))), (1, .int (nI k))] := hl
  generalize hQ : MQ below (wPost D (cw cy ad (va_up rd r sg) ke tb t1 t2 t3 t4 t5 sb ss sw fd) (some (.int (sumL sg k N 0 (nI 0)))) (cA ad)) args s0 0 0 (cA ad) = Q
  refine lv_iconst (v := nI 0) hx hb dX0_sumOf_0 (by decide) ?_
  refine lv_istore_n (lv' := [(2, .int (nI 0)), (0, .ref (ad (1 + 10 * r))), (1, .int (nI k))]) hx hb dX0_sumOf_1 rfl hl (by decide) rfl (fun ls hl => ?_)
  refine lv_iconst (v := nI 0) hx hb dX0_sumOf_2 (by decide) ?_
  refine lv_istore_n (lv' := [(3, .int (nI 0)), (2, .int (nI 0)), (0, .ref (ad (1 + 10 * r))), (1, .int (nI k))]) hx hb dX0_sumOf_3 rfl hl (by decide) rfl (fun ls hl => ?_)
  have L_4 : ∀ (n : Nat) (j : Nat) (acc : Int32) (H : Heap) (locs : List Loc) (ls : Array Slot), (j + n = N) → (sumL sg k N 0 (nI 0) = sumL sg k n j acc) → va_P D vwCl (cw cy ad (va_up rd r sg) ke tb t1 t2 t3 t4 t5 sb ss sw fd) H → va_S (cA ad) s0.heap H locs → lv_has ls 4 [(3, .int (nI j)), (2, .int (acc)), (0, .ref (ad (1 + 10 * r))), (1, .int (nI k))] → W p l e (rmz 1 21) s0 m args below meth c H locs 0 0 Q (F0 m 4 ls []) := by
    intro n
    induction n with
    | zero =>
      intro j acc H locs ls hj hF hP hS hl
      refine lv_iload_n hx hb dX0_sumOf_4 rfl (lv_at hl 0 rfl) ?_
      refine lv_aload_n hx hb dX0_sumOf_5 rfl (lv_at hl 2 rfl) ?_
      refine r_getR hx hb hts hin0 hown hK hP hr3 4 (by decide) (Or.inl (hts (.fieldLink RX0 24 "PennyRoad$Road" "size" "I") (by decide +kernel))) rfl dX0_sumOf_6 ?_
      refine lv_top hN ?_
      refine lvn_icmp_ge (tgt := 31) hx hb dX0_sumOf_9 (by decide) (by omega) (by omega) (fun c_9 => ?_) (fun c_9 => ?_)
      · skip
        refine lv_iload_n hx hb dX0_sumOf_31 rfl (lv_at hl 1 rfl) ?_
        subst hQ
        exact wq_ri hx hb hr hlocks hP hS dX0_sumOf_32 (by rw [hF]; rfl) rfl
      · skip
        exfalso; omega
    | succ n ih_4 =>
      intro j acc H locs ls hj hF hP hS hl
      refine lv_iload_n hx hb dX0_sumOf_4 rfl (lv_at hl 0 rfl) ?_
      refine lv_aload_n hx hb dX0_sumOf_5 rfl (lv_at hl 2 rfl) ?_
      refine r_getR hx hb hts hin0 hown hK hP hr3 4 (by decide) (Or.inl (hts (.fieldLink RX0 24 "PennyRoad$Road" "size" "I") (by decide +kernel))) rfl dX0_sumOf_6 ?_
      refine lv_top hN ?_
      refine lvn_icmp_ge (tgt := 31) hx hb dX0_sumOf_9 (by decide) (by omega) (by omega) (fun c_9 => ?_) (fun c_9 => ?_)
      · skip
        exfalso; omega
      · skip
        refine lv_iload_n hx hb dX0_sumOf_12 rfl (lv_at hl 1 rfl) ?_
        refine lv_aload_n hx hb dX0_sumOf_13 rfl (lv_at hl 2 rfl) ?_
        refine r_getR hx hb hts hin0 hown hK hP hr3 5 (by decide) (Or.inl (hts (.fieldLink RX0 29 "PennyRoad$Road" "all" "[LPennyRoad$Walker;") (by decide +kernel))) rfl dX0_sumOf_14 ?_
        refine lv_iload_n hx hb dX0_sumOf_17 rfl (lv_at hl 0 rfl) ?_
        refine c_aldW hx hb hK hP r hr3 (by omega) dX0_sumOf_18 ?_
        refine lv_iload_n hx hb dX0_sumOf_19 rfl (lv_at hl 3 rfl) ?_
        refine wq_VN (host := "PennyRoad") S cK_ok hK hP hS (c_X3_trait hr3 (by omega)) gX0_sumOf_X3_trait_n42 i_X3_trait (c_nest hK 45 rfl) (hts (.initialized RX3) (by decide +kernel)) (hts (.instanceMethod yX3_trait) (by decide +kernel)) (hts (.selects RX3 yX3_trait yX3_trait) (by decide +kernel)) (c_rec hK hP (3 + 10 * r + j) (by omega) (cE_wk hr3 (by omega)) rfl) ⟨Nat.le_of_ble_eq_true rfl, Nat.le_of_ble_eq_true rfl⟩ rfl hl.1 (As := [.int (nI k)]) (rest := [.int (acc)]) (st1 := [.int (traitF sg j (nI k)), .int (acc)]) rfl rfl (Nat.le_of_ble_eq_true rfl) ⟨Nat.le_of_ble_eq_true rfl, Nat.le_of_ble_eq_true rfl⟩ dX0_sumOf_20 (fun H locs hP hS => ?_)
        refine lv_top (trait_k h1k h7k) ?_
        refine lv_iadd hx hb dX0_sumOf_23 ?_
        refine lv_istore_n (lv' := [(2, .int ((acc) + (sg (5 + 8 * j + k)))), (3, .int (nI j)), (0, .ref (ad (1 + 10 * r))), (1, .int (nI k))]) hx hb dX0_sumOf_24 rfl hl (by decide) rfl (fun ls hl => ?_)
        refine lv_iinc (v := nI (j + 1)) (lv' := [(3, .int (nI (j + 1))), (2, .int ((acc) + (sg (5 + 8 * j + k)))), (0, .ref (ad (1 + 10 * r))), (1, .int (nI k))]) hx hb dX0_sumOf_25 hl (k := 1) rfl (nI_add _ _) (by decide) rfl (fun ls hl => ?_)
        refine lv_goto (tgt := 4) hx hb dX0_sumOf_28 (by decide) ?_
        exact ih_4 (j + 1) _ _ _ ls (by omega) hF hP hS hl
  exact L_4 N 0 (nI 0) _ _ ls (by omega) rfl hP hS hl
theorem i_X0_sumOf : ciOk yX0_sumOf cX0_sumOf 4 (some .int) wsX0_sumOf 1 := ⟨⟨_, rfl⟩, by decide +kernel⟩
set_option maxHeartbeats 1000000 in
set_option maxRecDepth 100000 in
theorem c_X0_setWith {l : Launch} {D : va_G} {cy : Nat → ClassId} {ad : Nat → Nat} {rd : Nat → Nat → Int32} {ke : Int32} {tb : Nat → Int32} {t1 : Int32} {t2 : Int32} {t3 : Int32} {t4 : Int32} {t5 : Int32} {sb : Nat → Int32} {ss : Nat → Int32} {sw : Nat → Nat → Int64} {fd : Nat → Int32} {sg : Nat → Int32} {r : Nat} {k : Nat} {N : Nat} (hr3 : r < 3) (hN : sg 0 = nI N) (h8 : N ≤ 8) (h1k : 1 ≤ k) (h7k : k ≤ 7) : Met l yX0_setWith wsX0_setWith (rmz 1 21) (wPre D (cK D cy ad) (cw cy ad (va_up rd r sg) ke tb t1 t2 t3 t4 t5 sb ss sw fd) [.ref (ad (1 + 10 * r)), .int (nI k)]) (wPost D (cw cy ad (va_up rd r sg) ke tb t1 t2 t3 t4 t5 sb ss sw fd) (some (.int (withL sg k N 0 (nI 0)))) (cA ad)) 0 0 (cA ad) := by
  refine wq_entry rfl rfl (Nat.le_of_ble_eq_true rfl) ?_
  intro p e s0 m args below meth c S hr hlocks hK hP ls hl
  have S : CallFix p m c cX0_setWith 4 s0 args wsX0_setWith RX0 := S
  obtain ⟨hx, hb, hml, hown, hts⟩ := id S
  have hin0 : ∀ w ∈ wsX00, w ∈ wsX0_setWith := fun w h => List.mem_cons_of_mem _ (List.mem_append_left _ (List.mem_append_right _ h))
  have hin3 : ∀ w ∈ wsX30, w ∈ wsX0_setWith := fun w h => List.mem_cons_of_mem _ (List.mem_append_right _ h)
  have hS : va_S (cA ad) s0.heap s0.heap [] := va_S.rf
  have hl : lv_has ls 4 [(0, .ref (ad (1 + 10 * r))), (1, .int (nI k))] := hl
  generalize hQ : MQ below (wPost D (cw cy ad (va_up rd r sg) ke tb t1 t2 t3 t4 t5 sb ss sw fd) (some (.int (withL sg k N 0 (nI 0)))) (cA ad)) args s0 0 0 (cA ad) = Q
  refine lv_iconst (v := nI 0) hx hb dX0_setWith_0 (by decide) ?_
  refine lv_istore_n (lv' := [(2, .int (nI 0)), (0, .ref (ad (1 + 10 * r))), (1, .int (nI k))]) hx hb dX0_setWith_1 rfl hl (by decide) rfl (fun ls hl => ?_)
  refine lv_iconst (v := nI 0) hx hb dX0_setWith_2 (by decide) ?_
  refine lv_istore_n (lv' := [(3, .int (nI 0)), (2, .int (nI 0)), (0, .ref (ad (1 + 10 * r))), (1, .int (nI k))]) hx hb dX0_setWith_3 rfl hl (by decide) rfl (fun ls hl => ?_)
  have L_4 : ∀ (n : Nat) (j : Nat) (acc : Int32) (H : Heap) (locs : List Loc) (ls : Array Slot), (j + n = N) → (withL sg k N 0 (nI 0) = withL sg k n j acc) → va_P D vwCl (cw cy ad (va_up rd r sg) ke tb t1 t2 t3 t4 t5 sb ss sw fd) H → va_S (cA ad) s0.heap H locs → lv_has ls 4 [(3, .int (nI j)), (2, .int (acc)), (0, .ref (ad (1 + 10 * r))), (1, .int (nI k))] → W p l e (rmz 1 21) s0 m args below meth c H locs 0 0 Q (F0 m 4 ls []) := by
    intro n
    induction n with
    | zero =>
      intro j acc H locs ls hj hF hP hS hl
      refine lv_iload_n hx hb dX0_setWith_4 rfl (lv_at hl 0 rfl) ?_
      refine lv_aload_n hx hb dX0_setWith_5 rfl (lv_at hl 2 rfl) ?_
      refine r_getR hx hb hts hin0 hown hK hP hr3 4 (by decide) (Or.inl (hts (.fieldLink RX0 24 "PennyRoad$Road" "size" "I") (by decide +kernel))) rfl dX0_setWith_6 ?_
      refine lv_top hN ?_
      refine lvn_icmp_ge (tgt := 37) hx hb dX0_setWith_9 (by decide) (by omega) (by omega) (fun c_9 => ?_) (fun c_9 => ?_)
      · skip
        refine lv_iload_n hx hb dX0_setWith_37 rfl (lv_at hl 1 rfl) ?_
        subst hQ
        exact wq_ri hx hb hr hlocks hP hS dX0_setWith_38 (by rw [hF]; rfl) rfl
      · skip
        exfalso; omega
    | succ n ih_4 =>
      intro j acc H locs ls hj hF hP hS hl
      refine lv_iload_n hx hb dX0_setWith_4 rfl (lv_at hl 0 rfl) ?_
      refine lv_aload_n hx hb dX0_setWith_5 rfl (lv_at hl 2 rfl) ?_
      refine r_getR hx hb hts hin0 hown hK hP hr3 4 (by decide) (Or.inl (hts (.fieldLink RX0 24 "PennyRoad$Road" "size" "I") (by decide +kernel))) rfl dX0_setWith_6 ?_
      refine lv_top hN ?_
      refine lvn_icmp_ge (tgt := 37) hx hb dX0_setWith_9 (by decide) (by omega) (by omega) (fun c_9 => ?_) (fun c_9 => ?_)
      · skip
        exfalso; omega
      · skip
        refine lv_aload_n hx hb dX0_setWith_12 rfl (lv_at hl 2 rfl) ?_
        refine r_getR hx hb hts hin0 hown hK hP hr3 5 (by decide) (Or.inl (hts (.fieldLink RX0 29 "PennyRoad$Road" "all" "[LPennyRoad$Walker;") (by decide +kernel))) rfl dX0_setWith_13 ?_
        refine lv_iload_n hx hb dX0_setWith_16 rfl (lv_at hl 0 rfl) ?_
        refine c_aldW hx hb hK hP r hr3 (by omega) dX0_setWith_17 ?_
        refine lv_iload_n hx hb dX0_setWith_18 rfl (lv_at hl 3 rfl) ?_
        refine wq_VN (host := "PennyRoad") S cK_ok hK hP hS (c_X3_trait hr3 (by omega)) gX0_setWith_X3_trait_n42 i_X3_trait (c_nest hK 45 rfl) (hts (.initialized RX3) (by decide +kernel)) (hts (.instanceMethod yX3_trait) (by decide +kernel)) (hts (.selects RX3 yX3_trait yX3_trait) (by decide +kernel)) (c_rec hK hP (3 + 10 * r + j) (by omega) (cE_wk hr3 (by omega)) rfl) ⟨Nat.le_of_ble_eq_true rfl, Nat.le_of_ble_eq_true rfl⟩ rfl hl.1 (As := [.int (nI k)]) (rest := []) (st1 := [.int (traitF sg j (nI k))]) rfl rfl (Nat.le_of_ble_eq_true rfl) ⟨Nat.le_of_ble_eq_true rfl, Nat.le_of_ble_eq_true rfl⟩ dX0_setWith_19 (fun H locs hP hS => ?_)
        refine lv_top (trait_k h1k h7k) ?_
        have K_1 : ∀ (x_2 : Int32) (H : Heap) (locs : List Loc) (ls : Array Slot), x_2 = (if (sg (5 + 8 * j + k)) ≤ 0 then acc else ((acc) ||| ((nI 1) <<< ((nI j) &&& 31)))) → va_P D vwCl (cw cy ad (va_up rd r sg) ke tb t1 t2 t3 t4 t5 sb ss sw fd) H → va_S (cA ad) s0.heap H locs → lv_has ls 4 [(3, .int (nI j)), (2, .int (x_2)), (0, .ref (ad (1 + 10 * r))), (1, .int (nI k))] → W p l e (rmz 1 21) s0 m args below meth c H locs 0 0 Q (F0 m 31 ls []) := by
          intro x_2 H locs ls ex_2 hP hS hl
          refine lv_iinc (v := nI (j + 1)) (lv' := [(3, .int (nI (j + 1))), (2, .int (x_2)), (0, .ref (ad (1 + 10 * r))), (1, .int (nI k))]) hx hb dX0_setWith_31 hl (k := 0) rfl (nI_add _ _) (by decide) rfl (fun ls hl => ?_)
          refine lv_goto (tgt := 4) hx hb dX0_setWith_34 (by decide) ?_
          exact ih_4 (j + 1) _ _ _ ls (by omega) (by subst ex_2; rw [or_if]; exact hF) hP hS hl
        refine lv_if_le (tgt := 31) hx hb dX0_setWith_22 (by decide) (fun c_22 => ?_) (fun c_22 => ?_)
        · skip
          exact K_1 (acc) _ _ ls (by simp only [if_pos c_22]) hP hS hl
        · skip
          refine lv_iload_n hx hb dX0_setWith_25 rfl (lv_at hl 1 rfl) ?_
          refine lv_iconst (v := nI 1) hx hb dX0_setWith_26 (by decide) ?_
          refine lv_iload_n hx hb dX0_setWith_27 rfl (lv_at hl 0 rfl) ?_
          refine lv_ishl hx hb dX0_setWith_28 ?_
          refine lv_ior hx hb dX0_setWith_29 ?_
          refine lv_istore_n (lv' := [(2, .int ((acc) ||| ((nI 1) <<< ((nI j) &&& 31)))), (3, .int (nI j)), (0, .ref (ad (1 + 10 * r))), (1, .int (nI k))]) hx hb dX0_setWith_30 rfl hl (by decide) rfl (fun ls hl => ?_)
          exact K_1 ((acc) ||| ((nI 1) <<< ((nI j) &&& 31))) _ _ ls (by simp only [if_neg c_22]) hP hS (lv_sub hl [1, 0, 2, 3] rfl)
  exact L_4 N 0 (nI 0) _ _ ls (by omega) rfl hP hS hl
theorem i_X0_setWith : ciOk yX0_setWith cX0_setWith 4 (some .int) wsX0_setWith 1 := ⟨⟨_, rfl⟩, by decide +kernel⟩
set_option maxHeartbeats 1000000 in
set_option maxRecDepth 100000 in
theorem c_X0_hasCompany {l : Launch} {D : va_G} {cy : Nat → ClassId} {ad : Nat → Nat} {rd : Nat → Nat → Int32} {ke : Int32} {tb : Nat → Int32} {t1 : Int32} {t2 : Int32} {t3 : Int32} {t4 : Int32} {t5 : Int32} {sb : Nat → Int32} {ss : Nat → Int32} {sw : Nat → Nat → Int64} {fd : Nat → Int32} {sg : Nat → Int32} {r : Nat} {i : Nat} {N : Nat} (hr3 : r < 3) (hi : i < N) (hN : sg 0 = nI N) (h8 : N ≤ 8) : Met l yX0_hasCompany wsX0_hasCompany (rmz 0 0) (wPre D (cK D cy ad) (cw cy ad (va_up rd r sg) ke tb t1 t2 t3 t4 t5 sb ss sw fd) [.ref (ad (1 + 10 * r)), .ref (ad (3 + 10 * r + i))]) (wPost D (cw cy ad (va_up rd r sg) ke tb t1 t2 t3 t4 t5 sb ss sw fd) (some (.int (z (1 < compL sg (sg (5 + 8 * i + 1)) N 0 0)))) (cA ad)) 0 0 (cA ad) := by
  refine wq_entry rfl rfl (Nat.le_of_ble_eq_true rfl) ?_
  intro p e s0 m args below meth c S hr hlocks hK hP ls hl
  have S : CallFix p m c cX0_hasCompany 4 s0 args wsX0_hasCompany RX0 := S
  obtain ⟨hx, hb, hml, hown, hts⟩ := id S
  have hin0 : ∀ w ∈ wsX00, w ∈ wsX0_hasCompany := fun w h => List.mem_cons_of_mem _ (List.mem_append_left _ (List.mem_append_right _ h))
  have hin3 : ∀ w ∈ wsX30, w ∈ wsX0_hasCompany := fun w h => List.mem_cons_of_mem _ (List.mem_append_right _ h)
  have hS : va_S (cA ad) s0.heap s0.heap [] := va_S.rf
  have hl : lv_has ls 4 [(0, .ref (ad (1 + 10 * r))), (1, .ref (ad (3 + 10 * r + i)))] := hl
  generalize hQ : MQ below (wPost D (cw cy ad (va_up rd r sg) ke tb t1 t2 t3 t4 t5 sb ss sw fd) (some (.int (z (1 < compL sg (sg (5 + 8 * i + 1)) N 0 0)))) (cA ad)) args s0 0 0 (cA ad) = Q
  refine lv_iconst (v := nI 0) hx hb dX0_hasCompany_0 (by decide) ?_
  refine lv_istore_n (lv' := [(2, .int (nI 0)), (0, .ref (ad (1 + 10 * r))), (1, .ref (ad (3 + 10 * r + i)))]) hx hb dX0_hasCompany_1 rfl hl (by decide) rfl (fun ls hl => ?_)
  refine lv_iconst (v := nI 0) hx hb dX0_hasCompany_2 (by decide) ?_
  refine lv_istore_n (lv' := [(3, .int (nI 0)), (2, .int (nI 0)), (0, .ref (ad (1 + 10 * r))), (1, .ref (ad (3 + 10 * r + i)))]) hx hb dX0_hasCompany_3 rfl hl (by decide) rfl (fun ls hl => ?_)
  have L_4 : ∀ (n : Nat) (j : Nat) (n1 : Nat) (H : Heap) (locs : List Loc) (ls : Array Slot), (j + n = N) → (n1 ≤ j) → (compL sg (sg (5 + 8 * i + 1)) N 0 0 = compL sg (sg (5 + 8 * i + 1)) n j n1) → va_P D vwCl (cw cy ad (va_up rd r sg) ke tb t1 t2 t3 t4 t5 sb ss sw fd) H → va_S (cA ad) s0.heap H locs → lv_has ls 4 [(3, .int (nI j)), (2, .int (nI n1)), (0, .ref (ad (1 + 10 * r))), (1, .ref (ad (3 + 10 * r + i)))] → W p l e (rmz 0 0) s0 m args below meth c H locs 0 0 Q (F0 m 4 ls []) := by
    intro n
    induction n with
    | zero =>
      intro j n1 H locs ls hj hn1 hF hP hS hl
      refine lv_iload_n hx hb dX0_hasCompany_4 rfl (lv_at hl 0 rfl) ?_
      refine lv_aload_n hx hb dX0_hasCompany_5 rfl (lv_at hl 2 rfl) ?_
      refine r_getR hx hb hts hin0 hown hK hP hr3 4 (by decide) (Or.inl (hts (.fieldLink RX0 24 "PennyRoad$Road" "size" "I") (by decide +kernel))) rfl dX0_hasCompany_6 ?_
      refine lv_top hN ?_
      refine lvn_icmp_ge (tgt := 37) hx hb dX0_hasCompany_9 (by decide) (by omega) (by omega) (fun c_9 => ?_) (fun c_9 => ?_)
      · skip
        have hE : compL sg (sg (5 + 8 * i + 1)) N 0 0 = n1 := hF
        refine lv_iload_n hx hb dX0_hasCompany_37 rfl (lv_at hl 1 rfl) ?_
        refine lv_iconst (v := nI 1) hx hb dX0_hasCompany_38 (by decide) ?_
        refine lvn_icmp_le (tgt := 46) hx hb dX0_hasCompany_39 (by decide) (by omega) (by omega) (fun c_39 => ?_) (fun c_39 => ?_)
        · skip
          refine lv_iconst (v := nI 0) hx hb dX0_hasCompany_46 (by decide) ?_
          subst hQ
          exact wq_rz hx hb hr hlocks hP hS dX0_hasCompany_47 (by subst_vars; first | (left; rfl) | (right; rfl) | (split <;> simp)) (by rw [hE]; first | exact rvI (z_f (by omega)) | exact rvI (z_t (by omega))) rfl
        · skip
          refine lv_iconst (v := nI 1) hx hb dX0_hasCompany_42 (by decide) ?_
          refine lv_goto (tgt := 47) hx hb dX0_hasCompany_43 (by decide) ?_
          subst hQ
          exact wq_rz hx hb hr hlocks hP hS dX0_hasCompany_47 (by subst_vars; first | (left; rfl) | (right; rfl) | (split <;> simp)) (by rw [hE]; first | exact rvI (z_f (by omega)) | exact rvI (z_t (by omega))) rfl
      · skip
        exfalso; omega
    | succ n ih_4 =>
      intro j n1 H locs ls hj hn1 hF hP hS hl
      refine lv_iload_n hx hb dX0_hasCompany_4 rfl (lv_at hl 0 rfl) ?_
      refine lv_aload_n hx hb dX0_hasCompany_5 rfl (lv_at hl 2 rfl) ?_
      refine r_getR hx hb hts hin0 hown hK hP hr3 4 (by decide) (Or.inl (hts (.fieldLink RX0 24 "PennyRoad$Road" "size" "I") (by decide +kernel))) rfl dX0_hasCompany_6 ?_
      refine lv_top hN ?_
      refine lvn_icmp_ge (tgt := 37) hx hb dX0_hasCompany_9 (by decide) (by omega) (by omega) (fun c_9 => ?_) (fun c_9 => ?_)
      · skip
        exfalso; omega
      · skip
        refine lv_aload_n hx hb dX0_hasCompany_12 rfl (lv_at hl 2 rfl) ?_
        refine r_getR hx hb hts hin0 hown hK hP hr3 5 (by decide) (Or.inl (hts (.fieldLink RX0 29 "PennyRoad$Road" "all" "[LPennyRoad$Walker;") (by decide +kernel))) rfl dX0_hasCompany_13 ?_
        refine lv_iload_n hx hb dX0_hasCompany_16 rfl (lv_at hl 0 rfl) ?_
        refine c_aldW hx hb hK hP r hr3 (by omega) dX0_hasCompany_17 ?_
        refine r_getW hx hb hts hin3 hown hK hP hr3 (by omega) 1 (by decide) (Or.inr (c_nest hK 4 rfl)) rfl dX0_hasCompany_18 ?_
        refine lv_aload_n hx hb dX0_hasCompany_21 rfl (lv_at hl 3 rfl) ?_
        refine r_getW hx hb hts hin3 hown hK hP hr3 (by omega) 1 (by decide) (Or.inr (c_nest hK 4 rfl)) rfl dX0_hasCompany_22 ?_
        refine lv_icmp_ne (tgt := 31) hx hb dX0_hasCompany_25 (by decide) (fun c_25 => ?_) (fun c_25 => ?_)
        · skip
          refine lv_iinc (v := nI (j + 1)) (lv' := [(3, .int (nI (j + 1))), (2, .int (nI n1)), (0, .ref (ad (1 + 10 * r))), (1, .ref (ad (3 + 10 * r + i)))]) hx hb dX0_hasCompany_31 hl (k := 0) rfl (nI_add _ _) (by decide) rfl (fun ls hl => ?_)
          refine lv_goto (tgt := 4) hx hb dX0_hasCompany_34 (by decide) ?_
          exact ih_4 (j + 1) (n1) _ _ ls (by omega) (by omega) (hF.trans (congrArg (compL sg (sg (5 + 8 * i + 1)) n (j + 1)) (if_neg c_25))) hP hS hl
        · skip
          refine lv_iinc (v := nI (n1 + 1)) (lv' := [(2, .int (nI (n1 + 1))), (3, .int (nI j)), (0, .ref (ad (1 + 10 * r))), (1, .ref (ad (3 + 10 * r + i)))]) hx hb dX0_hasCompany_28 hl (k := 1) rfl (nI_add _ _) (by decide) rfl (fun ls hl => ?_)
          refine lv_iinc (v := nI (j + 1)) (lv' := [(3, .int (nI (j + 1))), (2, .int (nI (n1 + 1))), (0, .ref (ad (1 + 10 * r))), (1, .ref (ad (3 + 10 * r + i)))]) hx hb dX0_hasCompany_31 hl (k := 1) rfl (nI_add _ _) (by decide) rfl (fun ls hl => ?_)
          refine lv_goto (tgt := 4) hx hb dX0_hasCompany_34 (by decide) ?_
          exact ih_4 (j + 1) (n1 + 1) _ _ ls (by omega) (by omega) (hF.trans (congrArg (compL sg (sg (5 + 8 * i + 1)) n (j + 1)) (if_pos c_25))) hP hS hl
  exact L_4 N 0 0 _ _ ls (by omega) (by omega) rfl hP hS hl
theorem i_X0_hasCompany : ciOk yX0_hasCompany cX0_hasCompany 4 (some .boolean) wsX0_hasCompany 1 := ⟨⟨_, rfl⟩, by decide +kernel⟩
set_option maxHeartbeats 1000000 in
set_option maxRecDepth 100000 in
theorem c_X0_paceOf {l : Launch} {D : va_G} {cy : Nat → ClassId} {ad : Nat → Nat} {rd : Nat → Nat → Int32} {ke : Int32} {tb : Nat → Int32} {t1 : Int32} {t2 : Int32} {t3 : Int32} {t4 : Int32} {t5 : Int32} {sb : Nat → Int32} {ss : Nat → Int32} {sw : Nat → Nat → Int64} {fd : Nat → Int32} {sg : Nat → Int32} {r : Nat} {i : Nat} {N : Nat} (hr3 : r < 3) (hi : i < N) (hN : sg 0 = nI N) (h8 : N ≤ 8) : Met l yX0_paceOf wsX0_paceOf (rmz 1 23) (wPre D (cK D cy ad) (cw cy ad (va_up rd r sg) ke tb t1 t2 t3 t4 t5 sb ss sw fd) [.ref (ad (1 + 10 * r)), .ref (ad (3 + 10 * r + i))]) (wPost D (cw cy ad (va_up rd r sg) ke tb t1 t2 t3 t4 t5 sb ss sw fd) (some (.int (paceF sg N i))) (cA ad)) 0 0 (cA ad) := by
  refine wq_entry rfl rfl (Nat.le_of_ble_eq_true rfl) ?_
  intro p e s0 m args below meth c S hr hlocks hK hP ls hl
  have S : CallFix p m c cX0_paceOf 3 s0 args wsX0_paceOf RX0 := S
  obtain ⟨hx, hb, hml, hown, hts⟩ := id S
  have hin3 : ∀ w ∈ wsX30, w ∈ wsX0_paceOf := fun w h => List.mem_cons_of_mem _ (List.mem_append_left _ (List.mem_append_right _ h))
  have hin0 : ∀ w ∈ wsX00, w ∈ wsX0_paceOf := fun w h => List.mem_cons_of_mem _ (List.mem_append_right _ h)
  have hS : va_S (cA ad) s0.heap s0.heap [] := va_S.rf
  have hl : lv_has ls 3 [(0, .ref (ad (1 + 10 * r))), (1, .ref (ad (3 + 10 * r + i)))] := hl
  generalize hQ : MQ below (wPost D (cw cy ad (va_up rd r sg) ke tb t1 t2 t3 t4 t5 sb ss sw fd) (some (.int (paceF sg N i))) (cA ad)) args s0 0 0 (cA ad) = Q
  refine lv_aload_n hx hb dX0_paceOf_0 rfl (lv_at hl 1 rfl) ?_
  refine r_getW hx hb hts hin3 hown hK hP hr3 (by omega) 4 (by decide) (Or.inr (c_nest hK 10 rfl)) rfl dX0_paceOf_1 ?_
  refine lv_bipush (v := nI 9) hx hb dX0_paceOf_4 (by decide) ?_
  have K_1 : ∀ (x_2 : Int32) (H : Heap) (locs : List Loc) (ls : Array Slot), x_2 = (if (sg (5 + 8 * i + 4)) ≤ (nI 9) then (nI 3) else (nI 2)) → va_P D vwCl (cw cy ad (va_up rd r sg) ke tb t1 t2 t3 t4 t5 sb ss sw fd) H → va_S (cA ad) s0.heap H locs → lv_has ls 3 [(0, .ref (ad (1 + 10 * r))), (1, .ref (ad (3 + 10 * r + i)))] → W p l e (rmz 1 23) s0 m args below meth c H locs 0 0 Q (F0 m 14 ls [.int (x_2)]) := by
    intro x_2 H locs ls ex_2 hP hS hl
    refine lv_istore_n (lv' := [(2, .int (x_2)), (0, .ref (ad (1 + 10 * r))), (1, .ref (ad (3 + 10 * r + i)))]) hx hb dX0_paceOf_14 rfl hl (by decide) rfl (fun ls hl => ?_)
    refine lv_aload_n hx hb dX0_paceOf_15 rfl (lv_at hl 2 rfl) ?_
    refine r_getW hx hb hts hin3 hown hK hP hr3 (by omega) 0 (by decide) (Or.inr (c_nest hK 1 rfl)) rfl dX0_paceOf_16 ?_
    by_cases c_19_2 : sg (5 + 8 * i + 0) = nI 2
    · skip
      refine lv_tableIn (tgt := 48) hx hb dX0_paceOf_19 (by rw [c_19_2]; decide) (by rw [c_19_2]; decide) (by rw [c_19_2]; rfl) (by decide) ?_
      refine lv_aload_n hx hb dX0_paceOf_48 rfl (lv_at hl 1 rfl) ?_
      refine lv_aload_n hx hb dX0_paceOf_49 rfl (lv_at hl 2 rfl) ?_
      refine wq_V S cK_ok hK hP hS (c_X0_hasCompany hr3 (by omega) hN h8) gX0_paceOf_X0_hasCompany i_X0_hasCompany rfl (c_rec hK hP (1 + 10 * r) (by omega) (cE_rd hr3) rfl) ⟨Nat.le_of_ble_eq_true rfl, Nat.le_of_ble_eq_true rfl⟩ rfl hl.1 (As := [.ref (ad (3 + 10 * r + i))]) (rest := []) (st1 := [.int (z (1 < compL sg (sg (5 + 8 * i + 1)) N 0 0))]) rfl rfl (Nat.le_of_ble_eq_true rfl) ⟨Nat.le_of_ble_eq_true rfl, Nat.le_of_ble_eq_true rfl⟩ dX0_paceOf_50 (fun H locs hP hS => ?_)
      refine lvz_if_eq (tgt := 62) hx hb dX0_paceOf_53 (by decide) (fun c_53 => ?_) (fun c_53 => ?_)
      · skip
        refine lv_iload_n hx hb dX0_paceOf_62 rfl (lv_at hl 0 rfl) ?_
        subst hQ
        exact wq_ri hx hb hr hlocks hP hS dX0_paceOf_63 (by subst_vars; first | (simp only [paceF, plainF, if_pos c_19_2, if_neg c_53]; done) | (simp only [paceF, plainF, if_pos c_19_2, if_neg (fun h9 => (comp_those hi h8).mp h9 c_53)]; done) | (simp only [paceF, plainF, if_pos c_19_2, if_pos ((comp_those hi h8).mpr c_53)]; done)) rfl
      · skip
        refine lv_iload_n hx hb dX0_paceOf_56 rfl (lv_at hl 0 rfl) ?_
        refine lv_iconst (v := nI 1) hx hb dX0_paceOf_57 (by decide) ?_
        refine lv_iadd hx hb dX0_paceOf_58 ?_
        refine lv_goto (tgt := 63) hx hb dX0_paceOf_59 (by decide) ?_
        subst hQ
        exact wq_ri hx hb hr hlocks hP hS dX0_paceOf_63 (by subst_vars; first | (simp only [paceF, plainF, if_pos c_19_2, if_pos c_53]; done) | (simp only [paceF, plainF, if_pos c_19_2, if_neg (fun h9 => (comp_those hi h8).mp h9 c_53)]; done) | (simp only [paceF, plainF, if_pos c_19_2, if_pos ((comp_those hi h8).mpr c_53)]; done)) rfl
    by_cases c_19_3 : sg (5 + 8 * i + 0) = nI 3
    · skip
      refine lv_tableIn (tgt := 64) hx hb dX0_paceOf_19 (by rw [c_19_3]; decide) (by rw [c_19_3]; decide) (by rw [c_19_3]; rfl) (by decide) ?_
      refine lv_iload_n hx hb dX0_paceOf_64 rfl (lv_at hl 0 rfl) ?_
      refine lv_iconst (v := nI 2) hx hb dX0_paceOf_65 (by decide) ?_
      refine lv_idiv hx hb dX0_paceOf_66 (by decide) ?_
      subst hQ
      exact wq_ri hx hb hr hlocks hP hS dX0_paceOf_67 (by subst_vars; first | (simp only [paceF, plainF, if_neg c_19_2, if_pos c_19_3]; done) | (simp only [paceF, plainF, if_pos c_19_2, if_neg (fun h9 => (comp_those hi h8).mp h9 c_53)]; done) | (simp only [paceF, plainF, if_pos c_19_2, if_pos ((comp_those hi h8).mpr c_53)]; done)) rfl
    by_cases c_19_4 : sg (5 + 8 * i + 0) = nI 4
    · skip
      refine lv_tableIn (tgt := 68) hx hb dX0_paceOf_19 (by rw [c_19_4]; decide) (by rw [c_19_4]; decide) (by rw [c_19_4]; rfl) (by decide) ?_
      refine lv_aload_n hx hb dX0_paceOf_68 rfl (lv_at hl 2 rfl) ?_
      refine r_getW hx hb hts hin3 hown hK hP hr3 (by omega) 3 (by decide) (Or.inr (c_nest hK 9 rfl)) rfl dX0_paceOf_69 ?_
      refine lv_if_ne (tgt := 81) hx hb dX0_paceOf_72 (by decide) (fun c_72 => ?_) (fun c_72 => ?_)
      · skip
        refine lv_iload_n hx hb dX0_paceOf_81 rfl (lv_at hl 0 rfl) ?_
        subst hQ
        exact wq_ri hx hb hr hlocks hP hS dX0_paceOf_82 (by subst_vars; first | (simp only [paceF, plainF, if_neg c_19_2, if_neg c_19_3, if_pos c_19_4, if_neg c_72]; done) | (simp only [paceF, plainF, if_pos c_19_2, if_neg (fun h9 => (comp_those hi h8).mp h9 c_53)]; done) | (simp only [paceF, plainF, if_pos c_19_2, if_pos ((comp_those hi h8).mpr c_53)]; done)) rfl
      · skip
        refine lv_iload_n hx hb dX0_paceOf_75 rfl (lv_at hl 0 rfl) ?_
        refine lv_iconst (v := nI 1) hx hb dX0_paceOf_76 (by decide) ?_
        refine lv_iadd hx hb dX0_paceOf_77 ?_
        refine lv_goto (tgt := 82) hx hb dX0_paceOf_78 (by decide) ?_
        subst hQ
        exact wq_ri hx hb hr hlocks hP hS dX0_paceOf_82 (by subst_vars; first | (simp only [paceF, plainF, if_neg c_19_2, if_neg c_19_3, if_pos c_19_4, if_pos c_72]; done) | (simp only [paceF, plainF, if_pos c_19_2, if_neg (fun h9 => (comp_those hi h8).mp h9 c_53)]; done) | (simp only [paceF, plainF, if_pos c_19_2, if_pos ((comp_those hi h8).mpr c_53)]; done)) rfl
    by_cases c_19_5 : sg (5 + 8 * i + 0) = nI 5
    · skip
      refine lv_tableIn (tgt := 83) hx hb dX0_paceOf_19 (by rw [c_19_5]; decide) (by rw [c_19_5]; decide) (by rw [c_19_5]; rfl) (by decide) ?_
      refine lv_iload_n hx hb dX0_paceOf_83 rfl (lv_at hl 0 rfl) ?_
      refine lv_iconst (v := nI 2) hx hb dX0_paceOf_84 (by decide) ?_
      refine lv_idiv hx hb dX0_paceOf_85 (by decide) ?_
      refine lv_aload_n hx hb dX0_paceOf_86 rfl (lv_at hl 1 rfl) ?_
      refine r_getR hx hb hts hin0 hown hK hP hr3 3 (by decide) (Or.inl (hts (.fieldLink RX0 21 "PennyRoad$Road" "rain" "I") (by decide +kernel))) rfl dX0_paceOf_87 ?_
      refine lv_iadd hx hb dX0_paceOf_90 ?_
      subst hQ
      exact wq_ri hx hb hr hlocks hP hS dX0_paceOf_91 (by subst_vars; first | (simp only [paceF, plainF, if_neg c_19_2, if_neg c_19_3, if_neg c_19_4, if_pos c_19_5]; done) | (simp only [paceF, plainF, if_pos c_19_2, if_neg (fun h9 => (comp_those hi h8).mp h9 c_53)]; done) | (simp only [paceF, plainF, if_pos c_19_2, if_pos ((comp_those hi h8).mpr c_53)]; done)) rfl
    refine lv_tableOut (tgt := 92) hx hb dX0_paceOf_19 (by have h0 : (sg (5 + 8 * i + 0)).toInt ≠ 2 := ne_int c_19_2; have h1 : (sg (5 + 8 * i + 0)).toInt ≠ 3 := ne_int c_19_3; have h2 : (sg (5 + 8 * i + 0)).toInt ≠ 4 := ne_int c_19_4; have h3 : (sg (5 + 8 * i + 0)).toInt ≠ 5 := ne_int c_19_5; omega) (by decide) ?_
    refine lv_iload_n hx hb dX0_paceOf_92 rfl (lv_at hl 0 rfl) ?_
    subst hQ
    exact wq_ri hx hb hr hlocks hP hS dX0_paceOf_93 (by subst_vars; first | (simp only [paceF, plainF, if_neg c_19_2, if_neg c_19_3, if_neg c_19_4, if_neg c_19_5]; done) | (simp only [paceF, plainF, if_pos c_19_2, if_neg (fun h9 => (comp_those hi h8).mp h9 c_53)]; done) | (simp only [paceF, plainF, if_pos c_19_2, if_pos ((comp_those hi h8).mpr c_53)]; done)) rfl
  refine lv_icmp_le (tgt := 13) hx hb dX0_paceOf_6 (by decide) (fun c_6 => ?_) (fun c_6 => ?_)
  · skip
    refine lv_iconst (v := nI 3) hx hb dX0_paceOf_13 (by decide) ?_
    exact K_1 (nI 3) _ _ ls (by simp only [if_pos c_6]) hP hS hl
  · skip
    refine lv_iconst (v := nI 2) hx hb dX0_paceOf_9 (by decide) ?_
    refine lv_goto (tgt := 14) hx hb dX0_paceOf_10 (by decide) ?_
    exact K_1 (nI 2) _ _ ls (by simp only [if_neg c_6]) hP hS hl
theorem i_X0_paceOf : ciOk yX0_paceOf cX0_paceOf 3 (some .int) wsX0_paceOf 1 := ⟨⟨_, rfl⟩, by decide +kernel⟩
set_option maxHeartbeats 1000000 in
set_option maxRecDepth 100000 in
theorem c_X0_payOf {l : Launch} {D : va_G} {cy : Nat → ClassId} {ad : Nat → Nat} {rd : Nat → Nat → Int32} {ke : Int32} {tb : Nat → Int32} {t1 : Int32} {t2 : Int32} {t3 : Int32} {t4 : Int32} {t5 : Int32} {sb : Nat → Int32} {ss : Nat → Int32} {sw : Nat → Nat → Int64} {fd : Nat → Int32} {sg : Nat → Int32} {r : Nat} {i : Nat} (hr3 : r < 3) (hi : i < 8) : Met l yX0_payOf wsX0_payOf (rmz 0 0) (wPre D (cK D cy ad) (cw cy ad (va_up rd r sg) ke tb t1 t2 t3 t4 t5 sb ss sw fd) [.ref (ad (1 + 10 * r)), .ref (ad (3 + 10 * r + i))]) (wPost D (cw cy ad (va_up rd r sg) ke tb t1 t2 t3 t4 t5 sb ss sw fd) (some (.int (payF sg i))) (cA ad)) 0 0 (cA ad) := by
  refine wq_entry rfl rfl (Nat.le_of_ble_eq_true rfl) ?_
  intro p e s0 m args below meth c S hr hlocks hK hP ls hl
  have S : CallFix p m c cX0_payOf 3 s0 args wsX0_payOf RX0 := S
  obtain ⟨hx, hb, hml, hown, hts⟩ := id S
  have hin3 : ∀ w ∈ wsX30, w ∈ wsX0_payOf := fun w h => List.mem_cons_of_mem _ (List.mem_append_left _ (List.mem_append_right _ h))
  have hin0 : ∀ w ∈ wsX00, w ∈ wsX0_payOf := fun w h => List.mem_cons_of_mem _ (List.mem_append_right _ h)
  have hS : va_S (cA ad) s0.heap s0.heap [] := va_S.rf
  have hl : lv_has ls 3 [(0, .ref (ad (1 + 10 * r))), (1, .ref (ad (3 + 10 * r + i)))] := hl
  generalize hQ : MQ below (wPost D (cw cy ad (va_up rd r sg) ke tb t1 t2 t3 t4 t5 sb ss sw fd) (some (.int (payF sg i))) (cA ad)) args s0 0 0 (cA ad) = Q
  refine lv_aload_n hx hb dX0_payOf_0 rfl (lv_at hl 1 rfl) ?_
  refine r_getW hx hb hts hin3 hown hK hP hr3 (by omega) 5 (by decide) (Or.inr (c_nest hK 12 rfl)) rfl dX0_payOf_1 ?_
  refine lv_aload_n hx hb dX0_payOf_4 rfl (lv_at hl 0 rfl) ?_
  refine r_getR hx hb hts hin0 hown hK hP hr3 2 (by decide) (Or.inl (hts (.fieldLink RX0 18 "PennyRoad$Road" "penny" "I") (by decide +kernel))) rfl dX0_payOf_5 ?_
  refine lv_aload_n hx hb dX0_payOf_8 rfl (lv_at hl 0 rfl) ?_
  refine r_getR hx hb hts hin0 hown hK hP hr3 3 (by decide) (Or.inl (hts (.fieldLink RX0 21 "PennyRoad$Road" "rain" "I") (by decide +kernel))) rfl dX0_payOf_9 ?_
  refine lv_iadd hx hb dX0_payOf_12 ?_
  refine lv_imul hx hb dX0_payOf_13 ?_
  refine lv_istore_n (lv' := [(2, .int ((sg (5 + 8 * i + 5)) * ((sg 3) + (sg 4)))), (0, .ref (ad (1 + 10 * r))), (1, .ref (ad (3 + 10 * r + i)))]) hx hb dX0_payOf_14 rfl hl (by decide) rfl (fun ls hl => ?_)
  refine lv_aload_n hx hb dX0_payOf_15 rfl (lv_at hl 2 rfl) ?_
  refine r_getW hx hb hts hin3 hown hK hP hr3 (by omega) 0 (by decide) (Or.inr (c_nest hK 1 rfl)) rfl dX0_payOf_16 ?_
  by_cases c_19_1 : sg (5 + 8 * i + 0) = nI 1
  · skip
    refine lv_tableIn (tgt := 52) hx hb dX0_payOf_19 (by rw [c_19_1]; decide) (by rw [c_19_1]; decide) (by rw [c_19_1]; rfl) (by decide) ?_
    refine lv_iload_n hx hb dX0_payOf_52 rfl (lv_at hl 0 rfl) ?_
    refine lv_iconst (v := nI 2) hx hb dX0_payOf_53 (by decide) ?_
    refine lv_iadd hx hb dX0_payOf_54 ?_
    subst hQ
    exact wq_ri hx hb hr hlocks hP hS dX0_payOf_55 (by simp only [payF, payP, Int32.mul_add, if_pos c_19_1]) rfl
  by_cases c_19_2 : sg (5 + 8 * i + 0) = nI 2
  · skip
    refine lv_tableIn (tgt := 56) hx hb dX0_payOf_19 (by rw [c_19_2]; decide) (by rw [c_19_2]; decide) (by rw [c_19_2]; rfl) (by decide) ?_
    refine lv_iconst (v := nI 2) hx hb dX0_payOf_56 (by decide) ?_
    refine lv_iload_n hx hb dX0_payOf_57 rfl (lv_at hl 0 rfl) ?_
    refine lv_imul hx hb dX0_payOf_58 ?_
    subst hQ
    exact wq_ri hx hb hr hlocks hP hS dX0_payOf_59 (by simp only [payF, payP, Int32.mul_add, if_neg c_19_1, if_pos c_19_2]) rfl
  by_cases c_19_3 : sg (5 + 8 * i + 0) = nI 3
  · skip
    refine lv_tableIn (tgt := 60) hx hb dX0_payOf_19 (by rw [c_19_3]; decide) (by rw [c_19_3]; decide) (by rw [c_19_3]; rfl) (by decide) ?_
    refine lv_iload_n hx hb dX0_payOf_60 rfl (lv_at hl 0 rfl) ?_
    refine lv_aload_n hx hb dX0_payOf_61 rfl (lv_at hl 2 rfl) ?_
    refine r_getW hx hb hts hin3 hown hK hP hr3 (by omega) 5 (by decide) (Or.inr (c_nest hK 12 rfl)) rfl dX0_payOf_62 ?_
    refine lv_iconst (v := nI 2) hx hb dX0_payOf_65 (by decide) ?_
    refine lv_idiv hx hb dX0_payOf_66 (by decide) ?_
    refine lv_iadd hx hb dX0_payOf_67 ?_
    subst hQ
    exact wq_ri hx hb hr hlocks hP hS dX0_payOf_68 (by simp only [payF, payP, Int32.mul_add, if_neg c_19_1, if_neg c_19_2, if_pos c_19_3]) rfl
  by_cases c_19_4 : sg (5 + 8 * i + 0) = nI 4
  · skip
    refine lv_tableIn (tgt := 69) hx hb dX0_payOf_19 (by rw [c_19_4]; decide) (by rw [c_19_4]; decide) (by rw [c_19_4]; rfl) (by decide) ?_
    refine lv_iload_n hx hb dX0_payOf_69 rfl (lv_at hl 0 rfl) ?_
    refine lv_iconst (v := nI 2) hx hb dX0_payOf_70 (by decide) ?_
    refine lv_iadd hx hb dX0_payOf_71 ?_
    subst hQ
    exact wq_ri hx hb hr hlocks hP hS dX0_payOf_72 (by simp only [payF, payP, Int32.mul_add, if_neg c_19_1, if_neg c_19_2, if_neg c_19_3, if_pos c_19_4]) rfl
  by_cases c_19_5 : sg (5 + 8 * i + 0) = nI 5
  · skip
    refine lv_tableIn (tgt := 73) hx hb dX0_payOf_19 (by rw [c_19_5]; decide) (by rw [c_19_5]; decide) (by rw [c_19_5]; rfl) (by decide) ?_
    refine lv_iconst (v := nI 0) hx hb dX0_payOf_73 (by decide) ?_
    subst hQ
    exact wq_ri hx hb hr hlocks hP hS dX0_payOf_74 (by simp only [payF, payP, Int32.mul_add, if_neg c_19_1, if_neg c_19_2, if_neg c_19_3, if_neg c_19_4, if_pos c_19_5]) rfl
  refine lv_tableOut (tgt := 75) hx hb dX0_payOf_19 (by have h0 : (sg (5 + 8 * i + 0)).toInt ≠ 1 := ne_int c_19_1; have h1 : (sg (5 + 8 * i + 0)).toInt ≠ 2 := ne_int c_19_2; have h2 : (sg (5 + 8 * i + 0)).toInt ≠ 3 := ne_int c_19_3; have h3 : (sg (5 + 8 * i + 0)).toInt ≠ 4 := ne_int c_19_4; have h4 : (sg (5 + 8 * i + 0)).toInt ≠ 5 := ne_int c_19_5; omega) (by decide) ?_
  refine lv_iload_n hx hb dX0_payOf_75 rfl (lv_at hl 0 rfl) ?_
  subst hQ
  exact wq_ri hx hb hr hlocks hP hS dX0_payOf_76 (by simp only [payF, payP, Int32.mul_add, if_neg c_19_1, if_neg c_19_2, if_neg c_19_3, if_neg c_19_4, if_neg c_19_5]) rfl
theorem i_X0_payOf : ciOk yX0_payOf cX0_payOf 3 (some .int) wsX0_payOf 1 := ⟨⟨_, rfl⟩, by decide +kernel⟩
set_option maxHeartbeats 1000000 in
set_option maxRecDepth 100000 in
theorem c_X0_wearOf {l : Launch} {D : va_G} {cy : Nat → ClassId} {ad : Nat → Nat} {rd : Nat → Nat → Int32} {ke : Int32} {tb : Nat → Int32} {t1 : Int32} {t2 : Int32} {t3 : Int32} {t4 : Int32} {t5 : Int32} {sb : Nat → Int32} {ss : Nat → Int32} {sw : Nat → Nat → Int64} {fd : Nat → Int32} {sg : Nat → Int32} {r : Nat} {i : Nat} (hr3 : r < 3) (hi : i < 8) : Met l yX0_wearOf wsX0_wearOf (rmz 0 0) (wPre D (cK D cy ad) (cw cy ad (va_up rd r sg) ke tb t1 t2 t3 t4 t5 sb ss sw fd) [.ref (ad (1 + 10 * r)), .ref (ad (3 + 10 * r + i))]) (wPost D (cw cy ad (va_up rd r sg) ke tb t1 t2 t3 t4 t5 sb ss sw fd) (some (.int (wearF sg i))) (cA ad)) 0 0 (cA ad) := by
  refine wq_entry rfl rfl (Nat.le_of_ble_eq_true rfl) ?_
  intro p e s0 m args below meth c S hr hlocks hK hP ls hl
  have S : CallFix p m c cX0_wearOf 3 s0 args wsX0_wearOf RX0 := S
  obtain ⟨hx, hb, hml, hown, hts⟩ := id S
  have hin0 : ∀ w ∈ wsX00, w ∈ wsX0_wearOf := fun w h => List.mem_cons_of_mem _ (List.mem_append_left _ (List.mem_append_right _ h))
  have hin3 : ∀ w ∈ wsX30, w ∈ wsX0_wearOf := fun w h => List.mem_cons_of_mem _ (List.mem_append_right _ h)
  have hS : va_S (cA ad) s0.heap s0.heap [] := va_S.rf
  have hl : lv_has ls 3 [(0, .ref (ad (1 + 10 * r))), (1, .ref (ad (3 + 10 * r + i)))] := hl
  generalize hQ : MQ below (wPost D (cw cy ad (va_up rd r sg) ke tb t1 t2 t3 t4 t5 sb ss sw fd) (some (.int (wearF sg i))) (cA ad)) args s0 0 0 (cA ad) = Q
  refine lv_aload_n hx hb dX0_wearOf_0 rfl (lv_at hl 0 rfl) ?_
  refine r_getR hx hb hts hin0 hown hK hP hr3 0 (by decide) (Or.inl (hts (.fieldLink RX0 9 "PennyRoad$Road" "hour" "I") (by decide +kernel))) rfl dX0_wearOf_1 ?_
  refine lv_iconst (v := nI 5) hx hb dX0_wearOf_4 (by decide) ?_
  refine lv_irem hx hb dX0_wearOf_5 (by decide) ?_
  have K_1 : ∀ (x_2 : Int32) (H : Heap) (locs : List Loc) (ls : Array Slot), x_2 = (if ((sg 1) - (sg 1) / (nI 5) * (nI 5)) = 0 then (nI 0) else (nI 1)) → va_P D vwCl (cw cy ad (va_up rd r sg) ke tb t1 t2 t3 t4 t5 sb ss sw fd) H → va_S (cA ad) s0.heap H locs → lv_has ls 3 [(0, .ref (ad (1 + 10 * r))), (1, .ref (ad (3 + 10 * r + i)))] → W p l e (rmz 0 0) s0 m args below meth c H locs 0 0 Q (F0 m 14 ls [.int (x_2)]) := by
    intro x_2 H locs ls ex_2 hP hS hl
    refine lv_istore_n (lv' := [(2, .int (x_2)), (0, .ref (ad (1 + 10 * r))), (1, .ref (ad (3 + 10 * r + i)))]) hx hb dX0_wearOf_14 rfl hl (by decide) rfl (fun ls hl => ?_)
    refine lv_aload_n hx hb dX0_wearOf_15 rfl (lv_at hl 2 rfl) ?_
    refine r_getW hx hb hts hin3 hown hK hP hr3 (by omega) 0 (by decide) (Or.inr (c_nest hK 1 rfl)) rfl dX0_wearOf_16 ?_
    by_cases c_19_1 : sg (5 + 8 * i + 0) = nI 1
    · skip
      refine lv_tableIn (tgt := 52) hx hb dX0_wearOf_19 (by rw [c_19_1]; decide) (by rw [c_19_1]; decide) (by rw [c_19_1]; rfl) (by decide) ?_
      refine lv_iload_n hx hb dX0_wearOf_52 rfl (lv_at hl 0 rfl) ?_
      subst hQ
      exact wq_ri hx hb hr hlocks hP hS dX0_wearOf_53 (by first | with_reducible rfl | (simp only [wearF, pedF, if_pos c_19_1]; done) | (simp only [wearF, pedF, if_pos c_19_1, Bool.false_eq_true, Bool.true_eq_false, and_true, true_and, false_and, and_false, and_self, not_true_eq_false, not_false_eq_true, if_true, if_false, reduceIte, or_false, false_or, true_or, or_true]; done) | (subst_vars; first | with_reducible rfl | (simp only [wearF, pedF, if_pos c_19_1]; done) | (simp only [wearF, pedF, if_pos c_19_1, Bool.false_eq_true, Bool.true_eq_false, and_true, true_and, false_and, and_false, and_self, not_true_eq_false, not_false_eq_true, if_true, if_false, reduceIte, or_false, false_or, true_or, or_true]; done)) | contradiction | rfl) rfl
    by_cases c_19_2 : sg (5 + 8 * i + 0) = nI 2
    · skip
      refine lv_tableIn (tgt := 64) hx hb dX0_wearOf_19 (by rw [c_19_2]; decide) (by rw [c_19_2]; decide) (by rw [c_19_2]; rfl) (by decide) ?_
      refine lv_iconst (v := nI 1) hx hb dX0_wearOf_64 (by decide) ?_
      subst hQ
      exact wq_ri hx hb hr hlocks hP hS dX0_wearOf_65 (by first | with_reducible rfl | (simp only [wearF, pedF, if_neg c_19_1, if_pos c_19_2]; done) | (simp only [wearF, pedF, if_neg c_19_1, if_pos c_19_2, Bool.false_eq_true, Bool.true_eq_false, and_true, true_and, false_and, and_false, and_self, not_true_eq_false, not_false_eq_true, if_true, if_false, reduceIte, or_false, false_or, true_or, or_true]; done) | (subst_vars; first | with_reducible rfl | (simp only [wearF, pedF, if_neg c_19_1, if_pos c_19_2]; done) | (simp only [wearF, pedF, if_neg c_19_1, if_pos c_19_2, Bool.false_eq_true, Bool.true_eq_false, and_true, true_and, false_and, and_false, and_self, not_true_eq_false, not_false_eq_true, if_true, if_false, reduceIte, or_false, false_or, true_or, or_true]; done)) | contradiction | rfl) rfl
    by_cases c_19_3 : sg (5 + 8 * i + 0) = nI 3
    · skip
      refine lv_tableIn (tgt := 54) hx hb dX0_wearOf_19 (by rw [c_19_3]; decide) (by rw [c_19_3]; decide) (by rw [c_19_3]; rfl) (by decide) ?_
      refine lv_iconst (v := nI 0) hx hb dX0_wearOf_54 (by decide) ?_
      subst hQ
      exact wq_ri hx hb hr hlocks hP hS dX0_wearOf_55 (by first | with_reducible rfl | (simp only [wearF, pedF, if_neg c_19_1, if_neg c_19_2, if_pos c_19_3]; done) | (simp only [wearF, pedF, if_neg c_19_1, if_neg c_19_2, if_pos c_19_3, Bool.false_eq_true, Bool.true_eq_false, and_true, true_and, false_and, and_false, and_self, not_true_eq_false, not_false_eq_true, if_true, if_false, reduceIte, or_false, false_or, true_or, or_true]; done) | (subst_vars; first | with_reducible rfl | (simp only [wearF, pedF, if_neg c_19_1, if_neg c_19_2, if_pos c_19_3]; done) | (simp only [wearF, pedF, if_neg c_19_1, if_neg c_19_2, if_pos c_19_3, Bool.false_eq_true, Bool.true_eq_false, and_true, true_and, false_and, and_false, and_self, not_true_eq_false, not_false_eq_true, if_true, if_false, reduceIte, or_false, false_or, true_or, or_true]; done)) | contradiction | rfl) rfl
    by_cases c_19_4 : sg (5 + 8 * i + 0) = nI 4
    · skip
      refine lv_tableIn (tgt := 56) hx hb dX0_wearOf_19 (by rw [c_19_4]; decide) (by rw [c_19_4]; decide) (by rw [c_19_4]; rfl) (by decide) ?_
      refine lv_iconst (v := nI 2) hx hb dX0_wearOf_56 (by decide) ?_
      refine lv_iload_n hx hb dX0_wearOf_57 rfl (lv_at hl 0 rfl) ?_
      refine lv_imul hx hb dX0_wearOf_58 ?_
      refine lv_iconst (v := nI 1) hx hb dX0_wearOf_59 (by decide) ?_
      refine lv_iadd hx hb dX0_wearOf_60 ?_
      subst hQ
      exact wq_ri hx hb hr hlocks hP hS dX0_wearOf_61 (by first | with_reducible rfl | (simp only [wearF, pedF, if_neg c_19_1, if_neg c_19_2, if_neg c_19_3, if_pos c_19_4]; done) | (simp only [wearF, pedF, if_neg c_19_1, if_neg c_19_2, if_neg c_19_3, if_pos c_19_4, Bool.false_eq_true, Bool.true_eq_false, and_true, true_and, false_and, and_false, and_self, not_true_eq_false, not_false_eq_true, if_true, if_false, reduceIte, or_false, false_or, true_or, or_true]; done) | (subst_vars; first | with_reducible rfl | (simp only [wearF, pedF, if_neg c_19_1, if_neg c_19_2, if_neg c_19_3, if_pos c_19_4]; done) | (simp only [wearF, pedF, if_neg c_19_1, if_neg c_19_2, if_neg c_19_3, if_pos c_19_4, Bool.false_eq_true, Bool.true_eq_false, and_true, true_and, false_and, and_false, and_self, not_true_eq_false, not_false_eq_true, if_true, if_false, reduceIte, or_false, false_or, true_or, or_true]; done)) | contradiction | rfl) rfl
    by_cases c_19_5 : sg (5 + 8 * i + 0) = nI 5
    · skip
      refine lv_tableIn (tgt := 62) hx hb dX0_wearOf_19 (by rw [c_19_5]; decide) (by rw [c_19_5]; decide) (by rw [c_19_5]; rfl) (by decide) ?_
      refine lv_iconst (v := nI 0) hx hb dX0_wearOf_62 (by decide) ?_
      subst hQ
      exact wq_ri hx hb hr hlocks hP hS dX0_wearOf_63 (by first | with_reducible rfl | (simp only [wearF, pedF, if_neg c_19_1, if_neg c_19_2, if_neg c_19_3, if_neg c_19_4, if_pos c_19_5]; done) | (simp only [wearF, pedF, if_neg c_19_1, if_neg c_19_2, if_neg c_19_3, if_neg c_19_4, if_pos c_19_5, Bool.false_eq_true, Bool.true_eq_false, and_true, true_and, false_and, and_false, and_self, not_true_eq_false, not_false_eq_true, if_true, if_false, reduceIte, or_false, false_or, true_or, or_true]; done) | (subst_vars; first | with_reducible rfl | (simp only [wearF, pedF, if_neg c_19_1, if_neg c_19_2, if_neg c_19_3, if_neg c_19_4, if_pos c_19_5]; done) | (simp only [wearF, pedF, if_neg c_19_1, if_neg c_19_2, if_neg c_19_3, if_neg c_19_4, if_pos c_19_5, Bool.false_eq_true, Bool.true_eq_false, and_true, true_and, false_and, and_false, and_self, not_true_eq_false, not_false_eq_true, if_true, if_false, reduceIte, or_false, false_or, true_or, or_true]; done)) | contradiction | rfl) rfl
    refine lv_tableOut (tgt := 64) hx hb dX0_wearOf_19 (by have h0 : (sg (5 + 8 * i + 0)).toInt ≠ 1 := ne_int c_19_1; have h1 : (sg (5 + 8 * i + 0)).toInt ≠ 2 := ne_int c_19_2; have h2 : (sg (5 + 8 * i + 0)).toInt ≠ 3 := ne_int c_19_3; have h3 : (sg (5 + 8 * i + 0)).toInt ≠ 4 := ne_int c_19_4; have h4 : (sg (5 + 8 * i + 0)).toInt ≠ 5 := ne_int c_19_5; omega) (by decide) ?_
    refine lv_iconst (v := nI 1) hx hb dX0_wearOf_64 (by decide) ?_
    subst hQ
    exact wq_ri hx hb hr hlocks hP hS dX0_wearOf_65 (by first | with_reducible rfl | (simp only [wearF, pedF, if_neg c_19_1, if_neg c_19_2, if_neg c_19_3, if_neg c_19_4, if_neg c_19_5]; done) | (simp only [wearF, pedF, if_neg c_19_1, if_neg c_19_2, if_neg c_19_3, if_neg c_19_4, if_neg c_19_5, Bool.false_eq_true, Bool.true_eq_false, and_true, true_and, false_and, and_false, and_self, not_true_eq_false, not_false_eq_true, if_true, if_false, reduceIte, or_false, false_or, true_or, or_true]; done) | (subst_vars; first | with_reducible rfl | (simp only [wearF, pedF, if_neg c_19_1, if_neg c_19_2, if_neg c_19_3, if_neg c_19_4, if_neg c_19_5]; done) | (simp only [wearF, pedF, if_neg c_19_1, if_neg c_19_2, if_neg c_19_3, if_neg c_19_4, if_neg c_19_5, Bool.false_eq_true, Bool.true_eq_false, and_true, true_and, false_and, and_false, and_self, not_true_eq_false, not_false_eq_true, if_true, if_false, reduceIte, or_false, false_or, true_or, or_true]; done)) | contradiction | rfl) rfl
  refine lv_if_ne (tgt := 13) hx hb dX0_wearOf_6 (by decide) (fun c_6 => ?_) (fun c_6 => ?_)
  · skip
    refine lv_iconst (v := nI 1) hx hb dX0_wearOf_13 (by decide) ?_
    exact K_1 (nI 1) _ _ ls (by simp only [if_neg c_6]) hP hS hl
  · skip
    refine lv_iconst (v := nI 0) hx hb dX0_wearOf_9 (by decide) ?_
    refine lv_goto (tgt := 14) hx hb dX0_wearOf_10 (by decide) ?_
    exact K_1 (nI 0) _ _ ls (by simp only [if_pos c_6]) hP hS hl
theorem i_X0_wearOf : ciOk yX0_wearOf cX0_wearOf 3 (some .int) wsX0_wearOf 1 := ⟨⟨_, rfl⟩, by decide +kernel⟩
set_option maxHeartbeats 1000000 in
set_option maxRecDepth 100000 in
theorem c_X0_arrive {l : Launch} {D : va_G} {cy : Nat → ClassId} {ad : Nat → Nat} {rd : Nat → Nat → Int32} {ke : Int32} {tb : Nat → Int32} {t1 : Int32} {t2 : Int32} {t3 : Int32} {t4 : Int32} {t5 : Int32} {sb : Nat → Int32} {ss : Nat → Int32} {sw : Nat → Nat → Int64} {fd : Nat → Int32} {sg : Nat → Int32} {r : Nat} {i : Nat} (hr3 : r < 3) (hi : i < 8) : Met l yX0_arrive wsX0_arrive (rmz 1 22) (wPre D (cK D cy ad) (cw cy ad (va_up rd r sg) ke tb t1 t2 t3 t4 t5 sb ss sw fd) [.ref (ad (1 + 10 * r)), .ref (ad (3 + 10 * r + i))]) (wPost D (cw cy ad (va_up rd r (arrF sg i)) ke tb t1 t2 t3 t4 t5 sb ss sw fd) none (cA ad)) 0 0 (cA ad) := by
  refine wq_entry rfl rfl (Nat.le_of_ble_eq_true rfl) ?_
  intro p e s0 m args below meth c S hr hlocks hK hP ls hl
  have S : CallFix p m c cX0_arrive 3 s0 args wsX0_arrive RX0 := S
  obtain ⟨hx, hb, hml, hown, hts⟩ := id S
  have hin3 : ∀ w ∈ wsX30, w ∈ wsX0_arrive := fun w h => List.mem_cons_of_mem _ (List.mem_append_left _ (List.mem_append_right _ h))
  have hin0 : ∀ w ∈ wsX00, w ∈ wsX0_arrive := fun w h => List.mem_cons_of_mem _ (List.mem_append_right _ h)
  have hS : va_S (cA ad) s0.heap s0.heap [] := va_S.rf
  have hl : lv_has ls 3 [(0, .ref (ad (1 + 10 * r))), (1, .ref (ad (3 + 10 * r + i)))] := hl
  generalize hQ : MQ below (wPost D (cw cy ad (va_up rd r (arrF sg i)) ke tb t1 t2 t3 t4 t5 sb ss sw fd) none (cA ad)) args s0 0 0 (cA ad) = Q
  refine lv_aload_n hx hb dX0_arrive_0 rfl (lv_at hl 1 rfl) ?_
  refine r_getW hx hb hts hin3 hown hK hP hr3 (by omega) 3 (by decide) (Or.inr (c_nest hK 9 rfl)) rfl dX0_arrive_1 ?_
  have K_1 : ∀ (w_2 : Nat → Int32) (H : Heap) (locs : List Loc) (ls : Array Slot), w_2 = (if (sg (5 + 8 * i + 3)) ≤ 0 then sg else (upd (upd (upd sg 2 ((sg 2) - (mn (payF sg i) (sg 2)))) (5 + 8 * i + 6) (mn (nI 999999) (((upd sg 2 ((sg 2) - (mn (payF sg i) (sg 2)))) (5 + 8 * i + 6)) + (mn (payF sg i) (sg 2))))) (5 + 8 * i + 3) (mx (nI 0) (((upd (upd sg 2 ((sg 2) - (mn (payF sg i) (sg 2)))) (5 + 8 * i + 6) (mn (nI 999999) (((upd sg 2 ((sg 2) - (mn (payF sg i) (sg 2)))) (5 + 8 * i + 6)) + (mn (payF sg i) (sg 2))))) (5 + 8 * i + 3)) - (wearF (upd (upd sg 2 ((sg 2) - (mn (payF sg i) (sg 2)))) (5 + 8 * i + 6) (mn (nI 999999) (((upd sg 2 ((sg 2) - (mn (payF sg i) (sg 2)))) (5 + 8 * i + 6)) + (mn (payF sg i) (sg 2))))) i))))) → va_P D vwCl (cw cy ad (va_up rd r w_2) ke tb t1 t2 t3 t4 t5 sb ss sw fd) H → va_S (cA ad) s0.heap H locs → lv_has ls 3 [(0, .ref (ad (1 + 10 * r))), (1, .ref (ad (3 + 10 * r + i)))] → W p l e (rmz 1 22) s0 m args below meth c H locs 0 0 Q (F0 m 63 ls []) := by
    intro w_2 H locs ls ew_2 hP hS hl
    refine lv_aload_n hx hb dX0_arrive_63 rfl (lv_at hl 1 rfl) ?_
    refine lv_iconst (v := nI 0) hx hb dX0_arrive_64 (by decide) ?_
    refine r_putW hx hb hts hin3 hown hK hP hS hr3 (by omega) 5 (by decide) (Or.inr (c_nest hK 12 rfl)) rfl (by decide +kernel) dX0_arrive_65 (fun H locs hP hS => ?_)
    refine lv_aload_n hx hb dX0_arrive_68 rfl (lv_at hl 1 rfl) ?_
    refine lv_iconst (v := nI 1) hx hb dX0_arrive_69 (by decide) ?_
    refine lv_aload_n hx hb dX0_arrive_70 rfl (lv_at hl 1 rfl) ?_
    refine r_getW hx hb hts hin3 hown hK hP hr3 (by omega) 2 (by decide) (Or.inr (c_nest hK 6 rfl)) rfl dX0_arrive_71 ?_
    refine lv_isub hx hb dX0_arrive_74 ?_
    refine r_putW hx hb hts hin3 hown hK hP hS hr3 (by omega) 2 (by decide) (Or.inr (c_nest hK 6 rfl)) rfl (by decide +kernel) dX0_arrive_75 (fun H locs hP hS => ?_)
    subst hQ
    exact wq_rv hx hb hr hlocks hP hS dX0_arrive_78 rfl (cwsg ((arrC_eq sg i).symm.trans (by subst_vars; rfl)))
  refine lv_if_le (tgt := 63) hx hb dX0_arrive_4 (by decide) (fun c_4 => ?_) (fun c_4 => ?_)
  · skip
    exact K_1 (sg) _ _ ls (by simp only [if_pos c_4]) hP hS hl
  · skip
    refine lv_aload_n hx hb dX0_arrive_7 rfl (lv_at hl 0 rfl) ?_
    refine lv_aload_n hx hb dX0_arrive_8 rfl (lv_at hl 1 rfl) ?_
    refine wq_V S cK_ok hK hP hS (c_X0_payOf hr3 (by omega)) gX0_arrive_X0_payOf i_X0_payOf rfl (c_rec hK hP (1 + 10 * r) (by omega) (cE_rd hr3) rfl) ⟨Nat.le_of_ble_eq_true rfl, Nat.le_of_ble_eq_true rfl⟩ rfl hl.1 (As := [.ref (ad (3 + 10 * r + i))]) (rest := []) (st1 := [.int (payF sg i)]) rfl rfl (Nat.le_of_ble_eq_true rfl) ⟨Nat.le_of_ble_eq_true rfl, Nat.le_of_ble_eq_true rfl⟩ dX0_arrive_9 (fun H locs hP hS => ?_)
    refine lv_aload_n hx hb dX0_arrive_12 rfl (lv_at hl 0 rfl) ?_
    refine r_getR hx hb hts hin0 hown hK hP hr3 1 (by decide) (Or.inl (hts (.fieldLink RX0 15 "PennyRoad$Road" "fund" "I") (by decide +kernel))) rfl dX0_arrive_13 ?_
    refine jm_min hx hb (hml.trans hl.1.symm) hown (hts (.methodLink RX0 63 Lib.Math.min.name) (by decide +kernel)) (hts (.static Lib.Math.min.name) (by decide +kernel)) (hts (.initialized "java/lang/Math") (by decide +kernel)) (hts (.code Lib.Math.min.name Lib.Math.min.code 2 (some .int)) (by decide +kernel)) (Nat.le_of_ble_eq_true rfl) (Nat.le_of_ble_eq_true rfl) ⟨Nat.le_of_ble_eq_true rfl, Nat.le_of_ble_eq_true rfl⟩ dX0_arrive_16 ?_
    refine lv_istore_n (lv' := [(2, .int (mn (payF sg i) (sg 2))), (0, .ref (ad (1 + 10 * r))), (1, .ref (ad (3 + 10 * r + i)))]) hx hb dX0_arrive_19 rfl hl (by decide) rfl (fun ls hl => ?_)
    refine lv_aload_n hx hb dX0_arrive_20 rfl (lv_at hl 1 rfl) ?_
    refine lv_dup hx hb dX0_arrive_21 rfl ?_
    refine r_getR hx hb hts hin0 hown hK hP hr3 1 (by decide) (Or.inl (hts (.fieldLink RX0 15 "PennyRoad$Road" "fund" "I") (by decide +kernel))) rfl dX0_arrive_22 ?_
    refine lv_iload_n hx hb dX0_arrive_25 rfl (lv_at hl 0 rfl) ?_
    refine lv_isub hx hb dX0_arrive_26 ?_
    refine r_putR hx hb hts hin0 hown hK hP hS hr3 1 (by decide) (x := 2) rfl (Or.inl (hts (.fieldLink RX0 15 "PennyRoad$Road" "fund" "I") (by decide +kernel))) rfl (by decide +kernel) dX0_arrive_27 (fun H locs hP hS => ?_)
    refine lv_aload_n hx hb dX0_arrive_30 rfl (lv_at hl 2 rfl) ?_
    refine lv_ldc (v := nI 999999) hx hb hown (hts (.constant RX0 90 (nI 999999)) (by decide +kernel)) dX0_arrive_31 ?_
    refine lv_aload_n hx hb dX0_arrive_33 rfl (lv_at hl 2 rfl) ?_
    refine r_getW hx hb hts hin3 hown hK hP hr3 (by omega) 6 (by decide) (Or.inr (c_nest hK 14 rfl)) rfl dX0_arrive_34 ?_
    refine lv_iload_n hx hb dX0_arrive_37 rfl (lv_at hl 0 rfl) ?_
    refine lv_iadd hx hb dX0_arrive_38 ?_
    refine jm_min hx hb (hml.trans hl.1.symm) hown (hts (.methodLink RX0 63 Lib.Math.min.name) (by decide +kernel)) (hts (.static Lib.Math.min.name) (by decide +kernel)) (hts (.initialized "java/lang/Math") (by decide +kernel)) (hts (.code Lib.Math.min.name Lib.Math.min.code 2 (some .int)) (by decide +kernel)) (Nat.le_of_ble_eq_true rfl) (Nat.le_of_ble_eq_true rfl) ⟨Nat.le_of_ble_eq_true rfl, Nat.le_of_ble_eq_true rfl⟩ dX0_arrive_39 ?_
    refine r_putW hx hb hts hin3 hown hK hP hS hr3 (by omega) 6 (by decide) (Or.inr (c_nest hK 14 rfl)) rfl (by decide +kernel) dX0_arrive_42 (fun H locs hP hS => ?_)
    refine lv_aload_n hx hb dX0_arrive_45 rfl (lv_at hl 2 rfl) ?_
    refine lv_iconst (v := nI 0) hx hb dX0_arrive_46 (by decide) ?_
    refine lv_aload_n hx hb dX0_arrive_47 rfl (lv_at hl 2 rfl) ?_
    refine r_getW hx hb hts hin3 hown hK hP hr3 (by omega) 3 (by decide) (Or.inr (c_nest hK 9 rfl)) rfl dX0_arrive_48 ?_
    refine lv_aload_n hx hb dX0_arrive_51 rfl (lv_at hl 1 rfl) ?_
    refine lv_aload_n hx hb dX0_arrive_52 rfl (lv_at hl 2 rfl) ?_
    refine wq_V S cK_ok hK hP hS (c_X0_wearOf hr3 (by omega)) gX0_arrive_X0_wearOf i_X0_wearOf rfl (c_rec hK hP (1 + 10 * r) (by omega) (cE_rd hr3) rfl) ⟨Nat.le_of_ble_eq_true rfl, Nat.le_of_ble_eq_true rfl⟩ rfl hl.1 (As := [.ref (ad (3 + 10 * r + i))]) (rest := [.int ((upd (upd sg 2 ((sg 2) - (mn (payF sg i) (sg 2)))) (5 + 8 * i + 6) (mn (nI 999999) (((upd sg 2 ((sg 2) - (mn (payF sg i) (sg 2)))) (5 + 8 * i + 6)) + (mn (payF sg i) (sg 2))))) (5 + 8 * i + 3)), .int (nI 0), .ref (ad (3 + 10 * r + i))]) (st1 := [.int (wearF (upd (upd sg 2 ((sg 2) - (mn (payF sg i) (sg 2)))) (5 + 8 * i + 6) (mn (nI 999999) (((upd sg 2 ((sg 2) - (mn (payF sg i) (sg 2)))) (5 + 8 * i + 6)) + (mn (payF sg i) (sg 2))))) i), .int ((upd (upd sg 2 ((sg 2) - (mn (payF sg i) (sg 2)))) (5 + 8 * i + 6) (mn (nI 999999) (((upd sg 2 ((sg 2) - (mn (payF sg i) (sg 2)))) (5 + 8 * i + 6)) + (mn (payF sg i) (sg 2))))) (5 + 8 * i + 3)), .int (nI 0), .ref (ad (3 + 10 * r + i))]) rfl rfl (Nat.le_of_ble_eq_true rfl) ⟨Nat.le_of_ble_eq_true rfl, Nat.le_of_ble_eq_true rfl⟩ dX0_arrive_53 (fun H locs hP hS => ?_)
    refine lv_isub hx hb dX0_arrive_56 ?_
    refine jm_max hx hb (hml.trans hl.1.symm) hown (hts (.methodLink RX0 97 Lib.Math.max.name) (by decide +kernel)) (hts (.static Lib.Math.max.name) (by decide +kernel)) (hts (.initialized "java/lang/Math") (by decide +kernel)) (hts (.code Lib.Math.max.name Lib.Math.max.code 2 (some .int)) (by decide +kernel)) (Nat.le_of_ble_eq_true rfl) (Nat.le_of_ble_eq_true rfl) ⟨Nat.le_of_ble_eq_true rfl, Nat.le_of_ble_eq_true rfl⟩ dX0_arrive_57 ?_
    refine r_putW hx hb hts hin3 hown hK hP hS hr3 (by omega) 3 (by decide) (Or.inr (c_nest hK 9 rfl)) rfl (by decide +kernel) dX0_arrive_60 (fun H locs hP hS => ?_)
    exact K_1 (upd (upd (upd sg 2 ((sg 2) - (mn (payF sg i) (sg 2)))) (5 + 8 * i + 6) (mn (nI 999999) (((upd sg 2 ((sg 2) - (mn (payF sg i) (sg 2)))) (5 + 8 * i + 6)) + (mn (payF sg i) (sg 2))))) (5 + 8 * i + 3) (mx (nI 0) (((upd (upd sg 2 ((sg 2) - (mn (payF sg i) (sg 2)))) (5 + 8 * i + 6) (mn (nI 999999) (((upd sg 2 ((sg 2) - (mn (payF sg i) (sg 2)))) (5 + 8 * i + 6)) + (mn (payF sg i) (sg 2))))) (5 + 8 * i + 3)) - (wearF (upd (upd sg 2 ((sg 2) - (mn (payF sg i) (sg 2)))) (5 + 8 * i + 6) (mn (nI 999999) (((upd sg 2 ((sg 2) - (mn (payF sg i) (sg 2)))) (5 + 8 * i + 6)) + (mn (payF sg i) (sg 2))))) i)))) _ _ ls (by simp only [if_neg c_4]) hP hS (lv_sub hl [1, 2] rfl)
theorem i_X0_arrive : ciOk yX0_arrive cX0_arrive 3 none wsX0_arrive 1 := ⟨⟨_, rfl⟩, by decide +kernel⟩
set_option maxHeartbeats 1000000 in
set_option maxRecDepth 100000 in
theorem c_X0_go {l : Launch} {D : va_G} {cy : Nat → ClassId} {ad : Nat → Nat} {rd : Nat → Nat → Int32} {ke : Int32} {tb : Nat → Int32} {t1 : Int32} {t2 : Int32} {t3 : Int32} {t4 : Int32} {t5 : Int32} {sb : Nat → Int32} {ss : Nat → Int32} {sw : Nat → Nat → Int64} {fd : Nat → Int32} {sg : Nat → Int32} {r : Nat} {i : Nat} {N : Nat} (hr3 : r < 3) (hi : i < N) (hN : sg 0 = nI N) (h8 : N ≤ 8) : Met l yX0_go wsX0_go (rmz 2 45) (wPre D (cK D cy ad) (cw cy ad (va_up rd r sg) ke tb t1 t2 t3 t4 t5 sb ss sw fd) [.ref (ad (1 + 10 * r)), .ref (ad (3 + 10 * r + i))]) (wPost D (cw cy ad (va_up rd r (goesF sg N i)) ke tb t1 t2 t3 t4 t5 sb ss sw fd) none (cA ad)) 0 0 (cA ad) := by
  refine wq_entry rfl rfl (Nat.le_of_ble_eq_true rfl) ?_
  intro p e s0 m args below meth c S hr hlocks hK hP ls hl
  have S : CallFix p m c cX0_go 3 s0 args wsX0_go RX0 := S
  obtain ⟨hx, hb, hml, hown, hts⟩ := id S
  have hin3 : ∀ w ∈ wsX30, w ∈ wsX0_go := fun w h => List.mem_cons_of_mem _ (List.mem_append_left _ (List.mem_append_right _ h))
  have hin0 : ∀ w ∈ wsX00, w ∈ wsX0_go := fun w h => List.mem_cons_of_mem _ (List.mem_append_right _ h)
  have hS : va_S (cA ad) s0.heap s0.heap [] := va_S.rf
  have hl : lv_has ls 3 [(0, .ref (ad (1 + 10 * r))), (1, .ref (ad (3 + 10 * r + i)))] := hl
  generalize hQ : MQ below (wPost D (cw cy ad (va_up rd r (goesF sg N i)) ke tb t1 t2 t3 t4 t5 sb ss sw fd) none (cA ad)) args s0 0 0 (cA ad) = Q
  refine lv_aload_n hx hb dX0_go_0 rfl (lv_at hl 0 rfl) ?_
  refine lv_aload_n hx hb dX0_go_1 rfl (lv_at hl 1 rfl) ?_
  refine wq_V S cK_ok hK hP hS (c_X0_paceOf hr3 (by omega) hN h8) gX0_go_X0_paceOf i_X0_paceOf rfl (c_rec hK hP (1 + 10 * r) (by omega) (cE_rd hr3) rfl) ⟨Nat.le_of_ble_eq_true rfl, Nat.le_of_ble_eq_true rfl⟩ rfl hl.1 (As := [.ref (ad (3 + 10 * r + i))]) (rest := []) (st1 := [.int (paceF sg N i)]) rfl rfl (Nat.le_of_ble_eq_true rfl) ⟨Nat.le_of_ble_eq_true rfl, Nat.le_of_ble_eq_true rfl⟩ dX0_go_2 (fun H locs hP hS => ?_)
  refine lv_aload_n hx hb dX0_go_5 rfl (lv_at hl 1 rfl) ?_
  refine wq_VN (host := "PennyRoad") S cK_ok hK hP hS (c_X3_milesToHatch hr3 (by omega)) gX0_go_X3_milesToHatch_n59 i_X3_milesToHatch (c_nest hK 43 rfl) (hts (.initialized RX3) (by decide +kernel)) (hts (.instanceMethod yX3_milesToHatch) (by decide +kernel)) (hts (.selects RX3 yX3_milesToHatch yX3_milesToHatch) (by decide +kernel)) (c_rec hK hP (3 + 10 * r + i) (by omega) (cE_wk hr3 (by omega)) rfl) ⟨Nat.le_of_ble_eq_true rfl, Nat.le_of_ble_eq_true rfl⟩ rfl hl.1 (As := []) (rest := [.int (paceF sg N i)]) (st1 := [.int (farF sg i), .int (paceF sg N i)]) rfl rfl (Nat.le_of_ble_eq_true rfl) ⟨Nat.le_of_ble_eq_true rfl, Nat.le_of_ble_eq_true rfl⟩ dX0_go_6 (fun H locs hP hS => ?_)
  refine jm_min hx hb (hml.trans hl.1.symm) hown (hts (.methodLink RX0 63 Lib.Math.min.name) (by decide +kernel)) (hts (.static Lib.Math.min.name) (by decide +kernel)) (hts (.initialized "java/lang/Math") (by decide +kernel)) (hts (.code Lib.Math.min.name Lib.Math.min.code 2 (some .int)) (by decide +kernel)) (Nat.le_of_ble_eq_true rfl) (Nat.le_of_ble_eq_true rfl) ⟨Nat.le_of_ble_eq_true rfl, Nat.le_of_ble_eq_true rfl⟩ dX0_go_9 ?_
  refine lv_istore_n (lv' := [(2, .int (mn (paceF sg N i) (farF sg i))), (0, .ref (ad (1 + 10 * r))), (1, .ref (ad (3 + 10 * r + i)))]) hx hb dX0_go_12 rfl hl (by decide) rfl (fun ls hl => ?_)
  refine lv_aload_n hx hb dX0_go_13 rfl (lv_at hl 2 rfl) ?_
  refine lv_dup hx hb dX0_go_14 rfl ?_
  refine r_getW hx hb hts hin3 hown hK hP hr3 (by omega) 1 (by decide) (Or.inr (c_nest hK 4 rfl)) rfl dX0_go_15 ?_
  refine lv_aload_n hx hb dX0_go_18 rfl (lv_at hl 2 rfl) ?_
  refine r_getW hx hb hts hin3 hown hK hP hr3 (by omega) 2 (by decide) (Or.inr (c_nest hK 6 rfl)) rfl dX0_go_19 ?_
  refine lv_iconst (v := nI 1) hx hb dX0_go_22 (by decide) ?_
  have K_1 : ∀ (x_2 : Int32) (H : Heap) (locs : List Loc) (ls : Array Slot), x_2 = (if (sg (5 + 8 * i + 2)) = (nI 1) then (mn (paceF sg N i) (farF sg i)) else (-(mn (paceF sg N i) (farF sg i)))) → va_P D vwCl (cw cy ad (va_up rd r sg) ke tb t1 t2 t3 t4 t5 sb ss sw fd) H → va_S (cA ad) s0.heap H locs → lv_has ls 3 [(2, .int (mn (paceF sg N i) (farF sg i))), (0, .ref (ad (1 + 10 * r))), (1, .ref (ad (3 + 10 * r + i)))] → W p l e (rmz 2 45) s0 m args below meth c H locs 0 0 Q (F0 m 32 ls [.int (x_2), .int (sg (5 + 8 * i + 1)), .ref (ad (3 + 10 * r + i))]) := by
    intro x_2 H locs ls ex_2 hP hS hl
    refine lv_iadd hx hb dX0_go_32 ?_
    refine r_putW hx hb hts hin3 hown hK hP hS hr3 (by omega) 1 (by decide) (Or.inr (c_nest hK 4 rfl)) rfl (by decide +kernel) dX0_go_33 (fun H locs hP hS => ?_)
    refine lv_aload_n hx hb dX0_go_36 rfl (lv_at hl 2 rfl) ?_
    refine lv_bipush (v := nI 12) hx hb dX0_go_37 (by decide) ?_
    refine lv_aload_n hx hb dX0_go_39 rfl (lv_at hl 2 rfl) ?_
    refine r_getW hx hb hts hin3 hown hK hP hr3 (by omega) 5 (by decide) (Or.inr (c_nest hK 12 rfl)) rfl dX0_go_40 ?_
    refine lv_iload_n hx hb dX0_go_43 rfl (lv_at hl 0 rfl) ?_
    refine lv_iadd hx hb dX0_go_44 ?_
    refine jm_min hx hb (hml.trans hl.1.symm) hown (hts (.methodLink RX0 63 Lib.Math.min.name) (by decide +kernel)) (hts (.static Lib.Math.min.name) (by decide +kernel)) (hts (.initialized "java/lang/Math") (by decide +kernel)) (hts (.code Lib.Math.min.name Lib.Math.min.code 2 (some .int)) (by decide +kernel)) (Nat.le_of_ble_eq_true rfl) (Nat.le_of_ble_eq_true rfl) ⟨Nat.le_of_ble_eq_true rfl, Nat.le_of_ble_eq_true rfl⟩ dX0_go_45 ?_
    refine r_putW hx hb hts hin3 hown hK hP hS hr3 (by omega) 5 (by decide) (Or.inr (c_nest hK 12 rfl)) rfl (by decide +kernel) dX0_go_48 (fun H locs hP hS => ?_)
    refine lv_aload_n hx hb dX0_go_51 rfl (lv_at hl 2 rfl) ?_
    refine lv_bipush (v := nI 99) hx hb dX0_go_52 (by decide) ?_
    refine lv_aload_n hx hb dX0_go_54 rfl (lv_at hl 2 rfl) ?_
    refine r_getW hx hb hts hin3 hown hK hP hr3 (by omega) 4 (by decide) (Or.inr (c_nest hK 10 rfl)) rfl dX0_go_55 ?_
    refine lv_iconst (v := nI 1) hx hb dX0_go_58 (by decide) ?_
    refine lv_iadd hx hb dX0_go_59 ?_
    refine jm_min hx hb (hml.trans hl.1.symm) hown (hts (.methodLink RX0 63 Lib.Math.min.name) (by decide +kernel)) (hts (.static Lib.Math.min.name) (by decide +kernel)) (hts (.initialized "java/lang/Math") (by decide +kernel)) (hts (.code Lib.Math.min.name Lib.Math.min.code 2 (some .int)) (by decide +kernel)) (Nat.le_of_ble_eq_true rfl) (Nat.le_of_ble_eq_true rfl) ⟨Nat.le_of_ble_eq_true rfl, Nat.le_of_ble_eq_true rfl⟩ dX0_go_60 ?_
    refine r_putW hx hb hts hin3 hown hK hP hS hr3 (by omega) 4 (by decide) (Or.inr (c_nest hK 10 rfl)) rfl (by decide +kernel) dX0_go_63 (fun H locs hP hS => ?_)
    refine lv_aload_n hx hb dX0_go_66 rfl (lv_at hl 2 rfl) ?_
    refine r_getW hx hb hts hin3 hown hK hP hr3 (by omega) 1 (by decide) (Or.inr (c_nest hK 4 rfl)) rfl dX0_go_67 ?_
    refine lv_bipush (v := nI 6) hx hb dX0_go_70 (by decide) ?_
    have K_3 : ∀ (w_4 : Nat → Int32) (H : Heap) (locs : List Loc) (ls : Array Slot), w_4 = (if ((upd (upd (upd sg (5 + 8 * i + 1) ((sg (5 + 8 * i + 1)) + (x_2))) (5 + 8 * i + 5) (mn (nI 12) (((upd sg (5 + 8 * i + 1) ((sg (5 + 8 * i + 1)) + (x_2))) (5 + 8 * i + 5)) + (mn (paceF sg N i) (farF sg i))))) (5 + 8 * i + 4) (mn (nI 99) (((upd (upd sg (5 + 8 * i + 1) ((sg (5 + 8 * i + 1)) + (x_2))) (5 + 8 * i + 5) (mn (nI 12) (((upd sg (5 + 8 * i + 1) ((sg (5 + 8 * i + 1)) + (x_2))) (5 + 8 * i + 5)) + (mn (paceF sg N i) (farF sg i))))) (5 + 8 * i + 4)) + (nI 1)))) (5 + 8 * i + 1)) = (nI 6) then (upd (upd (upd (upd sg (5 + 8 * i + 1) ((sg (5 + 8 * i + 1)) + (x_2))) (5 + 8 * i + 5) (mn (nI 12) (((upd sg (5 + 8 * i + 1) ((sg (5 + 8 * i + 1)) + (x_2))) (5 + 8 * i + 5)) + (mn (paceF sg N i) (farF sg i))))) (5 + 8 * i + 4) (mn (nI 99) (((upd (upd sg (5 + 8 * i + 1) ((sg (5 + 8 * i + 1)) + (x_2))) (5 + 8 * i + 5) (mn (nI 12) (((upd sg (5 + 8 * i + 1) ((sg (5 + 8 * i + 1)) + (x_2))) (5 + 8 * i + 5)) + (mn (paceF sg N i) (farF sg i))))) (5 + 8 * i + 4)) + (nI 1)))) (5 + 8 * i + 4) (nI 0)) else (upd (upd (upd sg (5 + 8 * i + 1) ((sg (5 + 8 * i + 1)) + (x_2))) (5 + 8 * i + 5) (mn (nI 12) (((upd sg (5 + 8 * i + 1) ((sg (5 + 8 * i + 1)) + (x_2))) (5 + 8 * i + 5)) + (mn (paceF sg N i) (farF sg i))))) (5 + 8 * i + 4) (mn (nI 99) (((upd (upd sg (5 + 8 * i + 1) ((sg (5 + 8 * i + 1)) + (x_2))) (5 + 8 * i + 5) (mn (nI 12) (((upd sg (5 + 8 * i + 1) ((sg (5 + 8 * i + 1)) + (x_2))) (5 + 8 * i + 5)) + (mn (paceF sg N i) (farF sg i))))) (5 + 8 * i + 4)) + (nI 1))))) → w_4 0 = nI N → va_P D vwCl (cw cy ad (va_up rd r w_4) ke tb t1 t2 t3 t4 t5 sb ss sw fd) H → va_S (cA ad) s0.heap H locs → lv_has ls 3 [(2, .int (mn (paceF sg N i) (farF sg i))), (0, .ref (ad (1 + 10 * r))), (1, .ref (ad (3 + 10 * r + i)))] → W p l e (rmz 2 45) s0 m args below meth c H locs 0 0 Q (F0 m 80 ls []) := by
      intro w_4 H locs ls ew_4 hm_4 hP hS hl
      refine lv_aload_n hx hb dX0_go_80 rfl (lv_at hl 2 rfl) ?_
      refine wq_VN (host := "PennyRoad") S cK_ok hK hP hS (c_X3_milesToHatch hr3 (by omega)) gX0_go_X3_milesToHatch_n59 i_X3_milesToHatch (c_nest hK 43 rfl) (hts (.initialized RX3) (by decide +kernel)) (hts (.instanceMethod yX3_milesToHatch) (by decide +kernel)) (hts (.selects RX3 yX3_milesToHatch yX3_milesToHatch) (by decide +kernel)) (c_rec hK hP (3 + 10 * r + i) (by omega) (cE_wk hr3 (by omega)) rfl) ⟨Nat.le_of_ble_eq_true rfl, Nat.le_of_ble_eq_true rfl⟩ rfl hl.1 (As := []) (rest := []) (st1 := [.int (farF w_4 i)]) rfl rfl (Nat.le_of_ble_eq_true rfl) ⟨Nat.le_of_ble_eq_true rfl, Nat.le_of_ble_eq_true rfl⟩ dX0_go_81 (fun H locs hP hS => ?_)
      refine lv_if_ne (tgt := 92) hx hb dX0_go_84 (by decide) (fun c_84 => ?_) (fun c_84 => ?_)
      · skip
        subst hQ
        exact wq_rv hx hb hr hlocks hP hS dX0_go_92 rfl (cwsg ((goC_eq sg N i).symm.trans (by subst_vars; exact ((if_neg c_84).trans rfl))))
      · skip
        refine lv_aload_n hx hb dX0_go_87 rfl (lv_at hl 1 rfl) ?_
        refine lv_aload_n hx hb dX0_go_88 rfl (lv_at hl 2 rfl) ?_
        refine wq_V S cK_ok hK hP hS (c_X0_arrive hr3 (by omega)) gX0_go_X0_arrive i_X0_arrive rfl (c_rec hK hP (1 + 10 * r) (by omega) (cE_rd hr3) rfl) ⟨Nat.le_of_ble_eq_true rfl, Nat.le_of_ble_eq_true rfl⟩ rfl hl.1 (As := [.ref (ad (3 + 10 * r + i))]) (rest := []) (st1 := []) rfl rfl (Nat.le_of_ble_eq_true rfl) ⟨Nat.le_of_ble_eq_true rfl, Nat.le_of_ble_eq_true rfl⟩ dX0_go_89 (fun H locs hP hS => ?_)
        subst hQ
        exact wq_rv hx hb hr hlocks hP hS dX0_go_92 rfl (cwsg ((goC_eq sg N i).symm.trans (by subst_vars; exact ((if_pos c_84).trans rfl))))
    refine lv_icmp_ne (tgt := 80) hx hb dX0_go_72 (by decide) (fun c_72 => ?_) (fun c_72 => ?_)
    · skip
      exact K_3 (upd (upd (upd sg (5 + 8 * i + 1) ((sg (5 + 8 * i + 1)) + (x_2))) (5 + 8 * i + 5) (mn (nI 12) (((upd sg (5 + 8 * i + 1) ((sg (5 + 8 * i + 1)) + (x_2))) (5 + 8 * i + 5)) + (mn (paceF sg N i) (farF sg i))))) (5 + 8 * i + 4) (mn (nI 99) (((upd (upd sg (5 + 8 * i + 1) ((sg (5 + 8 * i + 1)) + (x_2))) (5 + 8 * i + 5) (mn (nI 12) (((upd sg (5 + 8 * i + 1) ((sg (5 + 8 * i + 1)) + (x_2))) (5 + 8 * i + 5)) + (mn (paceF sg N i) (farF sg i))))) (5 + 8 * i + 4)) + (nI 1)))) _ _ ls (by simp only [if_neg c_72]) ((upd_0 (by omega)).trans ((upd_0 (by omega)).trans ((upd_0 (by omega)).trans hN))) hP hS hl
    · skip
      refine lv_aload_n hx hb dX0_go_75 rfl (lv_at hl 2 rfl) ?_
      refine lv_iconst (v := nI 0) hx hb dX0_go_76 (by decide) ?_
      refine r_putW hx hb hts hin3 hown hK hP hS hr3 (by omega) 4 (by decide) (Or.inr (c_nest hK 10 rfl)) rfl (by decide +kernel) dX0_go_77 (fun H locs hP hS => ?_)
      exact K_3 (upd (upd (upd (upd sg (5 + 8 * i + 1) ((sg (5 + 8 * i + 1)) + (x_2))) (5 + 8 * i + 5) (mn (nI 12) (((upd sg (5 + 8 * i + 1) ((sg (5 + 8 * i + 1)) + (x_2))) (5 + 8 * i + 5)) + (mn (paceF sg N i) (farF sg i))))) (5 + 8 * i + 4) (mn (nI 99) (((upd (upd sg (5 + 8 * i + 1) ((sg (5 + 8 * i + 1)) + (x_2))) (5 + 8 * i + 5) (mn (nI 12) (((upd sg (5 + 8 * i + 1) ((sg (5 + 8 * i + 1)) + (x_2))) (5 + 8 * i + 5)) + (mn (paceF sg N i) (farF sg i))))) (5 + 8 * i + 4)) + (nI 1)))) (5 + 8 * i + 4) (nI 0)) _ _ ls (by simp only [if_pos c_72]) ((upd_0 (by omega)).trans ((upd_0 (by omega)).trans ((upd_0 (by omega)).trans ((upd_0 (by omega)).trans hN)))) hP hS hl
  refine lv_icmp_ne (tgt := 30) hx hb dX0_go_23 (by decide) (fun c_23 => ?_) (fun c_23 => ?_)
  · skip
    refine lv_iload_n hx hb dX0_go_30 rfl (lv_at hl 0 rfl) ?_
    refine lv_ineg hx hb dX0_go_31 ?_
    exact K_1 (-(mn (paceF sg N i) (farF sg i))) _ _ ls (by simp only [if_neg c_23]) hP hS hl
  · skip
    refine lv_iload_n hx hb dX0_go_26 rfl (lv_at hl 0 rfl) ?_
    refine lv_goto (tgt := 32) hx hb dX0_go_27 (by decide) ?_
    exact K_1 (mn (paceF sg N i) (farF sg i)) _ _ ls (by simp only [if_pos c_23]) hP hS hl
theorem i_X0_go : ciOk yX0_go cX0_go 3 none wsX0_go 1 := ⟨⟨_, rfl⟩, by decide +kernel⟩
set_option maxHeartbeats 1000000 in
set_option maxRecDepth 100000 in
theorem c_X0_passHour {l : Launch} {D : va_G} {cy : Nat → ClassId} {ad : Nat → Nat} {rd : Nat → Nat → Int32} {ke : Int32} {tb : Nat → Int32} {t1 : Int32} {t2 : Int32} {t3 : Int32} {t4 : Int32} {t5 : Int32} {sb : Nat → Int32} {ss : Nat → Int32} {sw : Nat → Nat → Int64} {fd : Nat → Int32} {sg : Nat → Int32} {r : Nat} {N : Nat} (hr3 : r < 3) (hN : sg 0 = nI N) (h8 : N ≤ 8) : Met l yX0_passHour wsX0_passHour (rmz 3 67) (wPre D (cK D cy ad) (cw cy ad (va_up rd r sg) ke tb t1 t2 t3 t4 t5 sb ss sw fd) [.ref (ad (1 + 10 * r))]) (wPost D (cw cy ad (va_up rd r (hourF N sg)) ke tb t1 t2 t3 t4 t5 sb ss sw fd) none (cA ad)) 0 0 (cA ad) := by
  refine wq_entry rfl rfl (Nat.le_of_ble_eq_true rfl) ?_
  intro p e s0 m args below meth c S hr hlocks hK hP ls hl
  have S : CallFix p m c cX0_passHour 2 s0 args wsX0_passHour RX0 := S
  obtain ⟨hx, hb, hml, hown, hts⟩ := id S
  have hin0 : ∀ w ∈ wsX00, w ∈ wsX0_passHour := fun w h => List.mem_cons_of_mem _ (List.mem_append_left _ (List.mem_append_right _ h))
  have hin3 : ∀ w ∈ wsX30, w ∈ wsX0_passHour := fun w h => List.mem_cons_of_mem _ (List.mem_append_right _ h)
  have hS : va_S (cA ad) s0.heap s0.heap [] := va_S.rf
  have hl : lv_has ls 2 [(0, .ref (ad (1 + 10 * r)))] := hl
  generalize hQ : MQ below (wPost D (cw cy ad (va_up rd r (hourF N sg)) ke tb t1 t2 t3 t4 t5 sb ss sw fd) none (cA ad)) args s0 0 0 (cA ad) = Q
  refine lv_iconst (v := nI 0) hx hb dX0_passHour_0 (by decide) ?_
  refine lv_istore_n (lv' := [(1, .int (nI 0)), (0, .ref (ad (1 + 10 * r)))]) hx hb dX0_passHour_1 rfl hl (by decide) rfl (fun ls hl => ?_)
  have L_2 : ∀ (n : Nat) (j : Nat) (sz : Nat → Int32) (H : Heap) (locs : List Loc) (ls : Array Slot), (j + n = N) → (sz 0 = nI N) → (hourL N N 0 sg = hourL N n j sz) → va_P D vwCl (cw cy ad (va_up rd r sz) ke tb t1 t2 t3 t4 t5 sb ss sw fd) H → va_S (cA ad) s0.heap H locs → lv_has ls 2 [(1, .int (nI j)), (0, .ref (ad (1 + 10 * r)))] → W p l e (rmz 3 67) s0 m args below meth c H locs 0 0 Q (F0 m 2 ls []) := by
    intro n
    induction n with
    | zero =>
      intro j sz H locs ls hj hm hF hP hS hl
      refine lv_iload_n hx hb dX0_passHour_2 rfl (lv_at hl 0 rfl) ?_
      refine lv_aload_n hx hb dX0_passHour_3 rfl (lv_at hl 1 rfl) ?_
      refine r_getR hx hb hts hin0 hown hK hP hr3 4 (by decide) (Or.inl (hts (.fieldLink RX0 24 "PennyRoad$Road" "size" "I") (by decide +kernel))) rfl dX0_passHour_4 ?_
      refine lv_top hm ?_
      refine lvn_icmp_ge (tgt := 38) hx hb dX0_passHour_7 (by decide) (by omega) (by omega) (fun c_7 => ?_) (fun c_7 => ?_)
      · skip
        have hF : hourL N N 0 sg = sz := hF
        subst hF
        refine lv_aload_n hx hb dX0_passHour_38 rfl (lv_at hl 1 rfl) ?_
        refine lv_dup hx hb dX0_passHour_39 rfl ?_
        refine r_getR hx hb hts hin0 hown hK hP hr3 0 (by decide) (Or.inl (hts (.fieldLink RX0 9 "PennyRoad$Road" "hour" "I") (by decide +kernel))) rfl dX0_passHour_40 ?_
        refine lv_iconst (v := nI 1) hx hb dX0_passHour_43 (by decide) ?_
        refine lv_iadd hx hb dX0_passHour_44 ?_
        refine r_putR hx hb hts hin0 hown hK hP hS hr3 0 (by decide) (x := 1) rfl (Or.inl (hts (.fieldLink RX0 9 "PennyRoad$Road" "hour" "I") (by decide +kernel))) rfl (by decide +kernel) dX0_passHour_45 (fun H locs hP hS => ?_)
        subst hQ
        exact wq_rv hx hb hr hlocks hP hS dX0_passHour_48 rfl rfl
      · skip
        exfalso; omega
    | succ n ih_2 =>
      intro j sz H locs ls hj hm hF hP hS hl
      refine lv_iload_n hx hb dX0_passHour_2 rfl (lv_at hl 0 rfl) ?_
      refine lv_aload_n hx hb dX0_passHour_3 rfl (lv_at hl 1 rfl) ?_
      refine r_getR hx hb hts hin0 hown hK hP hr3 4 (by decide) (Or.inl (hts (.fieldLink RX0 24 "PennyRoad$Road" "size" "I") (by decide +kernel))) rfl dX0_passHour_4 ?_
      refine lv_top hm ?_
      refine lvn_icmp_ge (tgt := 38) hx hb dX0_passHour_7 (by decide) (by omega) (by omega) (fun c_7 => ?_) (fun c_7 => ?_)
      · skip
        exfalso; omega
      · skip
        refine lv_aload_n hx hb dX0_passHour_10 rfl (lv_at hl 1 rfl) ?_
        refine r_getR hx hb hts hin0 hown hK hP hr3 5 (by decide) (Or.inl (hts (.fieldLink RX0 29 "PennyRoad$Road" "all" "[LPennyRoad$Walker;") (by decide +kernel))) rfl dX0_passHour_11 ?_
        refine lv_iload_n hx hb dX0_passHour_14 rfl (lv_at hl 0 rfl) ?_
        refine c_aldW hx hb hK hP r hr3 (by omega) dX0_passHour_15 ?_
        refine r_getW hx hb hts hin3 hown hK hP hr3 (by omega) 7 (by decide) (Or.inr (c_nest hK 16 rfl)) rfl dX0_passHour_16 ?_
        have K_1 : ∀ (w_2 : Nat → Int32) (H : Heap) (locs : List Loc) (ls : Array Slot), w_2 = (if (sz (5 + 8 * j + 7)) = 0 then (goesF sz N j) else sz) → w_2 0 = nI N → va_P D vwCl (cw cy ad (va_up rd r w_2) ke tb t1 t2 t3 t4 t5 sb ss sw fd) H → va_S (cA ad) s0.heap H locs → lv_has ls 2 [(1, .int (nI j)), (0, .ref (ad (1 + 10 * r)))] → W p l e (rmz 3 67) s0 m args below meth c H locs 0 0 Q (F0 m 32 ls []) := by
          intro w_2 H locs ls ew_2 hm_2 hP hS hl
          refine lv_iinc (v := nI (j + 1)) (lv' := [(1, .int (nI (j + 1))), (0, .ref (ad (1 + 10 * r)))]) hx hb dX0_passHour_32 hl (k := 0) rfl (nI_add _ _) (by decide) rfl (fun ls hl => ?_)
          refine lv_goto (tgt := 2) hx hb dX0_passHour_35 (by decide) ?_
          exact ih_2 (j + 1) _ _ _ ls (by omega) hm_2 (by subst ew_2; exact hF) hP hS hl
        refine lv_if_ne (tgt := 32) hx hb dX0_passHour_19 (by decide) (fun c_19 => ?_) (fun c_19 => ?_)
        · skip
          exact K_1 (sz) _ _ ls (by simp only [if_neg c_19]) hm hP hS hl
        · skip
          refine lv_aload_n hx hb dX0_passHour_22 rfl (lv_at hl 1 rfl) ?_
          refine lv_aload_n hx hb dX0_passHour_23 rfl (lv_at hl 1 rfl) ?_
          refine r_getR hx hb hts hin0 hown hK hP hr3 5 (by decide) (Or.inl (hts (.fieldLink RX0 29 "PennyRoad$Road" "all" "[LPennyRoad$Walker;") (by decide +kernel))) rfl dX0_passHour_24 ?_
          refine lv_iload_n hx hb dX0_passHour_27 rfl (lv_at hl 0 rfl) ?_
          refine c_aldW hx hb hK hP r hr3 (by omega) dX0_passHour_28 ?_
          refine wq_V S cK_ok hK hP hS (c_X0_go hr3 (by omega) hm h8) gX0_passHour_X0_go i_X0_go rfl (c_rec hK hP (1 + 10 * r) (by omega) (cE_rd hr3) rfl) ⟨Nat.le_of_ble_eq_true rfl, Nat.le_of_ble_eq_true rfl⟩ rfl hl.1 (As := [.ref (ad (3 + 10 * r + j))]) (rest := []) (st1 := []) rfl rfl (Nat.le_of_ble_eq_true rfl) ⟨Nat.le_of_ble_eq_true rfl, Nat.le_of_ble_eq_true rfl⟩ dX0_passHour_29 (fun H locs hP hS => ?_)
          exact K_1 (goesF sz N j) _ _ ls (by simp only [if_pos c_19]) (goesF_0.trans hm) hP hS hl
  exact L_2 N 0 sg _ _ ls (by omega) hN rfl hP hS hl
theorem i_X0_passHour : ciOk yX0_passHour cX0_passHour 2 none wsX0_passHour 0 := ⟨⟨_, rfl⟩, by decide +kernel⟩
set_option maxHeartbeats 1000000 in
set_option maxRecDepth 100000 in
theorem c_X0_passHours {l : Launch} {D : va_G} {cy : Nat → ClassId} {ad : Nat → Nat} {rd : Nat → Nat → Int32} {ke : Int32} {tb : Nat → Int32} {t1 : Int32} {t2 : Int32} {t3 : Int32} {t4 : Int32} {t5 : Int32} {sb : Nat → Int32} {ss : Nat → Int32} {sw : Nat → Nat → Int64} {fd : Nat → Int32} {sg : Nat → Int32} {r : Nat} {q : Nat} {N : Nat} (hr3 : r < 3) (hN : sg 0 = nI N) (h8 : N ≤ 8) (hq : q < 2 ^ 31) : Met l yX0_passHours wsX0_passHours (rmz 4 88) (wPre D (cK D cy ad) (cw cy ad (va_up rd r sg) ke tb t1 t2 t3 t4 t5 sb ss sw fd) [.ref (ad (1 + 10 * r)), .int (nI q)]) (wPost D (cw cy ad (va_up rd r (hrsF N q sg)) ke tb t1 t2 t3 t4 t5 sb ss sw fd) none (cA ad)) 0 0 (cA ad) := by
  refine wq_entry rfl rfl (Nat.le_of_ble_eq_true rfl) ?_
  intro p e s0 m args below meth c S hr hlocks hK hP ls hl
  have S : CallFix p m c cX0_passHours 3 s0 args wsX0_passHours RX0 := S
  obtain ⟨hx, hb, hml, hown, hts⟩ := id S
  have hin0 : ∀ w ∈ wsX00, w ∈ wsX0_passHours := fun w h => List.mem_cons_of_mem _ (List.mem_append_left _ (List.mem_append_right _ h))
  have hin3 : ∀ w ∈ wsX30, w ∈ wsX0_passHours := fun w h => List.mem_cons_of_mem _ (List.mem_append_right _ h)
  have hS : va_S (cA ad) s0.heap s0.heap [] := va_S.rf
  have hl : lv_has ls 3 [(0, .ref (ad (1 + 10 * r))), (1, .int (nI q))] := hl
  generalize hQ : MQ below (wPost D (cw cy ad (va_up rd r (hrsF N q sg)) ke tb t1 t2 t3 t4 t5 sb ss sw fd) none (cA ad)) args s0 0 0 (cA ad) = Q
  refine lv_iconst (v := nI 0) hx hb dX0_passHours_0 (by decide) ?_
  refine lv_istore_n (lv' := [(2, .int (nI 0)), (0, .ref (ad (1 + 10 * r))), (1, .int (nI q))]) hx hb dX0_passHours_1 rfl hl (by decide) rfl (fun ls hl => ?_)
  have L_2 : ∀ (n : Nat) (j : Nat) (sz : Nat → Int32) (H : Heap) (locs : List Loc) (ls : Array Slot), (j + n = q) → (sz 0 = nI N) → (hrsF N q sg = hrsF N n sz) → va_P D vwCl (cw cy ad (va_up rd r sz) ke tb t1 t2 t3 t4 t5 sb ss sw fd) H → va_S (cA ad) s0.heap H locs → lv_has ls 3 [(2, .int (nI j)), (0, .ref (ad (1 + 10 * r))), (1, .int (nI q))] → W p l e (rmz 4 88) s0 m args below meth c H locs 0 0 Q (F0 m 2 ls []) := by
    intro n
    induction n with
    | zero =>
      intro j sz H locs ls hj hm hF hP hS hl
      refine lv_iload_n hx hb dX0_passHours_2 rfl (lv_at hl 0 rfl) ?_
      refine lv_iload_n hx hb dX0_passHours_3 rfl (lv_at hl 2 rfl) ?_
      refine lvn_icmp_ge (tgt := 17) hx hb dX0_passHours_4 (by decide) (by omega) (by omega) (fun c_4 => ?_) (fun c_4 => ?_)
      · skip
        have hF : hrsF N q sg = sz := hF
        subst hF
        subst hQ
        exact wq_rv hx hb hr hlocks hP hS dX0_passHours_17 rfl rfl
      · skip
        exfalso; omega
    | succ n ih_2 =>
      intro j sz H locs ls hj hm hF hP hS hl
      refine lv_iload_n hx hb dX0_passHours_2 rfl (lv_at hl 0 rfl) ?_
      refine lv_iload_n hx hb dX0_passHours_3 rfl (lv_at hl 2 rfl) ?_
      refine lvn_icmp_ge (tgt := 17) hx hb dX0_passHours_4 (by decide) (by omega) (by omega) (fun c_4 => ?_) (fun c_4 => ?_)
      · skip
        exfalso; omega
      · skip
        refine lv_aload_n hx hb dX0_passHours_7 rfl (lv_at hl 1 rfl) ?_
        refine wq_V S cK_ok hK hP hS (c_X0_passHour hr3 hm h8) gX0_passHours_X0_passHour i_X0_passHour rfl (c_rec hK hP (1 + 10 * r) (by omega) (cE_rd hr3) rfl) ⟨Nat.le_of_ble_eq_true rfl, Nat.le_of_ble_eq_true rfl⟩ rfl hl.1 (As := []) (rest := []) (st1 := []) rfl rfl (Nat.le_of_ble_eq_true rfl) ⟨Nat.le_of_ble_eq_true rfl, Nat.le_of_ble_eq_true rfl⟩ dX0_passHours_8 (fun H locs hP hS => ?_)
        refine lv_iinc (v := nI (j + 1)) (lv' := [(2, .int (nI (j + 1))), (0, .ref (ad (1 + 10 * r))), (1, .int (nI q))]) hx hb dX0_passHours_11 hl (k := 0) rfl (nI_add _ _) (by decide) rfl (fun ls hl => ?_)
        refine lv_goto (tgt := 2) hx hb dX0_passHours_14 (by decide) ?_
        exact ih_2 (j + 1) _ _ _ ls (by omega) (hourF_0.trans hm) hF hP hS hl
  exact L_2 q 0 sg _ _ ls (by omega) hN rfl hP hS hl
theorem i_X0_passHours : ciOk yX0_passHours cX0_passHours 3 none wsX0_passHours 1 := ⟨⟨_, rfl⟩, by decide +kernel⟩
set_option maxHeartbeats 1000000 in
set_option maxRecDepth 100000 in
theorem c_X0_takeFrom {l : Launch} {D : va_G} {cy : Nat → ClassId} {ad : Nat → Nat} {rd : Nat → Nat → Int32} {ke : Int32} {tb : Nat → Int32} {t1 : Int32} {t2 : Int32} {t3 : Int32} {t4 : Int32} {t5 : Int32} {sb : Nat → Int32} {ss : Nat → Int32} {sw : Nat → Nat → Int64} {fd : Nat → Int32} {sg : Nat → Int32} {r : Nat} {q : Nat} {N : Nat} (hr3 : r < 3) (hq3 : q < 3) (hqr : q ≠ r) (hN : rd q 0 = nI N) (h8 : N ≤ 8) : Met l yX0_takeFrom wsX0_takeFrom (rmz 1 21) (wPre D (cK D cy ad) (cw cy ad (va_up rd r sg) ke tb t1 t2 t3 t4 t5 sb ss sw fd) [.ref (ad (1 + 10 * r)), .ref (ad (1 + 10 * q))]) (wPost D (cw cy ad (va_up rd r (cpn (5 + 8 * N) (rd q) sg)) ke tb t1 t2 t3 t4 t5 sb ss sw fd) none (cA ad)) 0 0 (cA ad) := by
  refine wq_entry rfl rfl (Nat.le_of_ble_eq_true rfl) ?_
  intro p e s0 m args below meth c S hr hlocks hK hP ls hl
  have S : CallFix p m c cX0_takeFrom 3 s0 args wsX0_takeFrom RX0 := S
  obtain ⟨hx, hb, hml, hown, hts⟩ := id S
  have hin0 : ∀ w ∈ wsX00, w ∈ wsX0_takeFrom := fun w h => List.mem_cons_of_mem _ (List.mem_append_left _ (List.mem_append_right _ h))
  have hin3 : ∀ w ∈ wsX30, w ∈ wsX0_takeFrom := fun w h => List.mem_cons_of_mem _ (List.mem_append_right _ h)
  have hS : va_S (cA ad) s0.heap s0.heap [] := va_S.rf
  have hl : lv_has ls 3 [(0, .ref (ad (1 + 10 * r))), (1, .ref (ad (1 + 10 * q)))] := hl
  generalize hQ : MQ below (wPost D (cw cy ad (va_up rd r (cpn (5 + 8 * N) (rd q) sg)) ke tb t1 t2 t3 t4 t5 sb ss sw fd) none (cA ad)) args s0 0 0 (cA ad) = Q
  refine lv_aload_n hx hb dX0_takeFrom_0 rfl (lv_at hl 0 rfl) ?_
  refine lv_aload_n hx hb dX0_takeFrom_1 rfl (lv_at hl 1 rfl) ?_
  refine c_get (v := .int (rd q 1)) (C := RX0) (T := TX0) (N := 6) hx hb hts hin0 hown hK hP (1 + 10 * q) (by omega) (cE_rd hq3) rfl 0 (by decide) (Or.inl (hts (.fieldLink RX0 9 "PennyRoad$Road" "hour" "I") (by decide +kernel))) (by rw [va_up_ne _ _ hqr]; rfl) dX0_takeFrom_2 ?_
  refine r_putR hx hb hts hin0 hown hK hP hS hr3 0 (by decide) (x := 1) rfl (Or.inl (hts (.fieldLink RX0 9 "PennyRoad$Road" "hour" "I") (by decide +kernel))) rfl (by decide +kernel) dX0_takeFrom_5 (fun H locs hP hS => ?_)
  refine lv_aload_n hx hb dX0_takeFrom_8 rfl (lv_at hl 0 rfl) ?_
  refine lv_aload_n hx hb dX0_takeFrom_9 rfl (lv_at hl 1 rfl) ?_
  refine c_get (v := .int (rd q 2)) (C := RX0) (T := TX0) (N := 6) hx hb hts hin0 hown hK hP (1 + 10 * q) (by omega) (cE_rd hq3) rfl 1 (by decide) (Or.inl (hts (.fieldLink RX0 15 "PennyRoad$Road" "fund" "I") (by decide +kernel))) (by rw [va_up_ne _ _ hqr]; rfl) dX0_takeFrom_10 ?_
  refine r_putR hx hb hts hin0 hown hK hP hS hr3 1 (by decide) (x := 2) rfl (Or.inl (hts (.fieldLink RX0 15 "PennyRoad$Road" "fund" "I") (by decide +kernel))) rfl (by decide +kernel) dX0_takeFrom_13 (fun H locs hP hS => ?_)
  refine lv_aload_n hx hb dX0_takeFrom_16 rfl (lv_at hl 0 rfl) ?_
  refine lv_aload_n hx hb dX0_takeFrom_17 rfl (lv_at hl 1 rfl) ?_
  refine c_get (v := .int (rd q 3)) (C := RX0) (T := TX0) (N := 6) hx hb hts hin0 hown hK hP (1 + 10 * q) (by omega) (cE_rd hq3) rfl 2 (by decide) (Or.inl (hts (.fieldLink RX0 18 "PennyRoad$Road" "penny" "I") (by decide +kernel))) (by rw [va_up_ne _ _ hqr]; rfl) dX0_takeFrom_18 ?_
  refine r_putR hx hb hts hin0 hown hK hP hS hr3 2 (by decide) (x := 3) rfl (Or.inl (hts (.fieldLink RX0 18 "PennyRoad$Road" "penny" "I") (by decide +kernel))) rfl (by decide +kernel) dX0_takeFrom_21 (fun H locs hP hS => ?_)
  refine lv_aload_n hx hb dX0_takeFrom_24 rfl (lv_at hl 0 rfl) ?_
  refine lv_aload_n hx hb dX0_takeFrom_25 rfl (lv_at hl 1 rfl) ?_
  refine c_get (v := .int (rd q 4)) (C := RX0) (T := TX0) (N := 6) hx hb hts hin0 hown hK hP (1 + 10 * q) (by omega) (cE_rd hq3) rfl 3 (by decide) (Or.inl (hts (.fieldLink RX0 21 "PennyRoad$Road" "rain" "I") (by decide +kernel))) (by rw [va_up_ne _ _ hqr]; rfl) dX0_takeFrom_26 ?_
  refine r_putR hx hb hts hin0 hown hK hP hS hr3 3 (by decide) (x := 4) rfl (Or.inl (hts (.fieldLink RX0 21 "PennyRoad$Road" "rain" "I") (by decide +kernel))) rfl (by decide +kernel) dX0_takeFrom_29 (fun H locs hP hS => ?_)
  refine lv_aload_n hx hb dX0_takeFrom_32 rfl (lv_at hl 0 rfl) ?_
  refine lv_aload_n hx hb dX0_takeFrom_33 rfl (lv_at hl 1 rfl) ?_
  refine c_get (v := .int (rd q 0)) (C := RX0) (T := TX0) (N := 6) hx hb hts hin0 hown hK hP (1 + 10 * q) (by omega) (cE_rd hq3) rfl 4 (by decide) (Or.inl (hts (.fieldLink RX0 24 "PennyRoad$Road" "size" "I") (by decide +kernel))) (by rw [va_up_ne _ _ hqr]; rfl) dX0_takeFrom_34 ?_
  refine r_putR hx hb hts hin0 hown hK hP hS hr3 4 (by decide) (x := 0) rfl (Or.inl (hts (.fieldLink RX0 24 "PennyRoad$Road" "size" "I") (by decide +kernel))) rfl (by decide +kernel) dX0_takeFrom_37 (fun H locs hP hS => ?_)
  refine lv_iconst (v := nI 0) hx hb dX0_takeFrom_40 (by decide) ?_
  refine lv_istore_n (lv' := [(2, .int (nI 0)), (0, .ref (ad (1 + 10 * r))), (1, .ref (ad (1 + 10 * q)))]) hx hb dX0_takeFrom_41 rfl hl (by decide) rfl (fun ls hl => ?_)
  have L_42 : ∀ (n : Nat) (j : Nat) (H : Heap) (locs : List Loc) (ls : Array Slot), (j + n = N) → va_P D vwCl (cw cy ad (va_up rd r (cpn (5 + 8 * j) (rd q) sg)) ke tb t1 t2 t3 t4 t5 sb ss sw fd) H → va_S (cA ad) s0.heap H locs → lv_has ls 3 [(2, .int (nI j)), (0, .ref (ad (1 + 10 * r))), (1, .ref (ad (1 + 10 * q)))] → W p l e (rmz 1 21) s0 m args below meth c H locs 0 0 Q (F0 m 42 ls []) := by
    intro n
    induction n with
    | zero =>
      intro j H locs ls hj hP hS hl
      refine lv_iload_n hx hb dX0_takeFrom_42 rfl (lv_at hl 0 rfl) ?_
      refine lv_aload_n hx hb dX0_takeFrom_43 rfl (lv_at hl 1 rfl) ?_
      refine r_getR hx hb hts hin0 hown hK hP hr3 4 (by decide) (Or.inl (hts (.fieldLink RX0 24 "PennyRoad$Road" "size" "I") (by decide +kernel))) rfl dX0_takeFrom_44 ?_
      refine lv_top (cpn_0'.trans hN) ?_
      refine lvn_icmp_ge (tgt := 71) hx hb dX0_takeFrom_47 (by decide) (by omega) (by omega) (fun c_47 => ?_) (fun c_47 => ?_)
      · skip
        have hj9 : j = N := by omega
        subst hj9
        subst hQ
        exact wq_rv hx hb hr hlocks hP hS dX0_takeFrom_71 rfl rfl
      · skip
        exfalso; omega
    | succ n ih_42 =>
      intro j H locs ls hj hP hS hl
      refine lv_iload_n hx hb dX0_takeFrom_42 rfl (lv_at hl 0 rfl) ?_
      refine lv_aload_n hx hb dX0_takeFrom_43 rfl (lv_at hl 1 rfl) ?_
      refine r_getR hx hb hts hin0 hown hK hP hr3 4 (by decide) (Or.inl (hts (.fieldLink RX0 24 "PennyRoad$Road" "size" "I") (by decide +kernel))) rfl dX0_takeFrom_44 ?_
      refine lv_top (cpn_0'.trans hN) ?_
      refine lvn_icmp_ge (tgt := 71) hx hb dX0_takeFrom_47 (by decide) (by omega) (by omega) (fun c_47 => ?_) (fun c_47 => ?_)
      · skip
        exfalso; omega
      · skip
        refine lv_aload_n hx hb dX0_takeFrom_50 rfl (lv_at hl 1 rfl) ?_
        refine r_getR hx hb hts hin0 hown hK hP hr3 5 (by decide) (Or.inl (hts (.fieldLink RX0 29 "PennyRoad$Road" "all" "[LPennyRoad$Walker;") (by decide +kernel))) rfl dX0_takeFrom_51 ?_
        refine lv_iload_n hx hb dX0_takeFrom_54 rfl (lv_at hl 0 rfl) ?_
        refine c_aldW hx hb hK hP r hr3 (by omega) dX0_takeFrom_55 ?_
        refine lv_aload_n hx hb dX0_takeFrom_56 rfl (lv_at hl 2 rfl) ?_
        refine c_get (v := .ref (ad (2 + 10 * q))) (C := RX0) (T := TX0) (N := 6) hx hb hts hin0 hown hK hP (1 + 10 * q) (by omega) (cE_rd hq3) rfl 5 (by decide) (Or.inl (hts (.fieldLink RX0 29 "PennyRoad$Road" "all" "[LPennyRoad$Walker;") (by decide +kernel))) (by rw [va_up_ne _ _ hqr]; rfl) dX0_takeFrom_57 ?_
        refine lv_iload_n hx hb dX0_takeFrom_60 rfl (lv_at hl 0 rfl) ?_
        refine c_aldW hx hb hK hP q hq3 (by omega) dX0_takeFrom_61 ?_
        refine wq_VN (host := "PennyRoad") S cK_ok hK hP hS (c_X3_becomeLike hr3 hq3 hqr (by omega)) gX0_takeFrom_X3_becomeLike_n34 i_X3_becomeLike (c_nest hK 48 rfl) (hts (.initialized RX3) (by decide +kernel)) (hts (.instanceMethod yX3_becomeLike) (by decide +kernel)) (hts (.selects RX3 yX3_becomeLike yX3_becomeLike) (by decide +kernel)) (c_rec hK hP (3 + 10 * r + j) (by omega) (cE_wk hr3 (by omega)) rfl) ⟨Nat.le_of_ble_eq_true rfl, Nat.le_of_ble_eq_true rfl⟩ rfl hl.1 (As := [.ref (ad (3 + 10 * q + j))]) (rest := []) (st1 := []) rfl rfl (Nat.le_of_ble_eq_true rfl) ⟨Nat.le_of_ble_eq_true rfl, Nat.le_of_ble_eq_true rfl⟩ dX0_takeFrom_62 (fun H locs hP hS => ?_)
        refine lv_iinc (v := nI (j + 1)) (lv' := [(2, .int (nI (j + 1))), (0, .ref (ad (1 + 10 * r))), (1, .ref (ad (1 + 10 * q)))]) hx hb dX0_takeFrom_65 hl (k := 0) rfl (nI_add _ _) (by decide) rfl (fun ls hl => ?_)
        refine lv_goto (tgt := 42) hx hb dX0_takeFrom_68 (by decide) ?_
        exact ih_42 (j + 1) _ _ ls (by omega) (by rw [take_s] at hP; exact hP) hS hl
  exact L_42 N 0 _ _ ls (by omega) (by rw [← take_0]; exact hP) hS hl
theorem i_X0_takeFrom : ciOk yX0_takeFrom cX0_takeFrom 3 none wsX0_takeFrom 1 := ⟨⟨_, rfl⟩, by decide +kernel⟩
