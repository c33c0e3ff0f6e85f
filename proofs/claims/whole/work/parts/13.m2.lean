set_option maxHeartbeats 4000000 in
set_option maxRecDepth 100000 in
theorem c_X5_together {l : Launch} {D : va_G} {cy : Nat → ClassId} {ad : Nat → Nat} {sr kS ot asd stt : Nat → Int32} {ik : Int32} {tp : Nat → Int32} {td fr tt vl wr : Int32} {bo so : Nat → Int32} {nu mv : Nat → Int64} {k : Nat} {N : Nat} (hN : sr 0 = nI N) (h8 : N ≤ 8) (hk : k < 8) : Met l yX5_together wsX5_together (rmz 2 43) (wPre D (mK D cy ad) (mw cy ad sr kS ot asd stt ik tp td fr tt vl wr bo so nu mv) [.ref (ad 0), .int (nI k)]) (wPost D (mw cy ad sr kS ot asd stt ik tp td fr tt vl wr bo so nu mv) (some (.int (sumL sr k N 0 (nI 0)))) (mA ad)) 0 0 (mA ad) := by
  refine wq_entry rfl rfl (Nat.le_of_ble_eq_true rfl) ?_
  intro p e s0 m args below meth c S hr hlocks hK hP ls hl
  have S : CallFix p m c cX5_together 4 s0 args wsX5_together RX5 := S
  obtain ⟨hx, hb, hml, hown, hts⟩ := id S
  have hin : ∀ w ∈ wsX50, w ∈ wsX5_together := fun w h => List.mem_cons_of_mem _ (List.mem_append_right _ h)
  have hS : va_S (mA ad) s0.heap s0.heap [] := va_S.rf
  have hl : lv_has ls 4 [(0, .ref (ad 0)), (1, .int (nI k))] := hl
  generalize hQ : MQ below (wPost D (mw cy ad sr kS ot asd stt ik tp td fr tt vl wr bo so nu mv) (some (.int (sumL sr k N 0 (nI 0)))) (mA ad)) args s0 0 0 (mA ad) = Q
  refine lv_iconst (v := nI 0) hx hb dX5_together_0 (by decide) ?_
  refine lv_istore_n (lv' := [(2, .int (nI 0)), (0, .ref (ad 0)), (1, .int (nI k))]) hx hb dX5_together_1 rfl hl (by decide) rfl (fun ls hl => ?_)
  refine lv_iconst (v := nI 0) hx hb dX5_together_2 (by decide) ?_
  refine lv_istore_n (lv' := [(3, .int (nI 0)), (2, .int (nI 0)), (0, .ref (ad 0)), (1, .int (nI k))]) hx hb dX5_together_3 rfl hl (by decide) rfl (fun ls hl => ?_)
  have L_4 : ∀ (n : Nat) (j : Nat) (acc : Int32) (H : Heap) (locs : List Loc) (ls : Array Slot), j + n = N → sumL sr k N 0 (nI 0) = sumL sr k n j acc → va_P D vwCl (mw cy ad sr kS ot asd stt ik tp td fr tt vl wr bo so nu mv) H → va_S (mA ad) s0.heap H locs → lv_has ls 4 [(3, .int (nI j)), (2, .int (acc)), (0, .ref (ad 0)), (1, .int (nI k))] → W p l e (rmz 2 43) s0 m args below meth c H locs 0 0 Q (F0 m 4 ls []) := by
    intro n
    induction n with
    | zero =>
      intro j acc H locs ls hj hF hP hS hl
      refine lv_iload_n hx hb dX5_together_4 rfl (lv_at hl 0 rfl) ?_
      refine lv_aload_n hx hb dX5_together_5 rfl (lv_at hl 2 rfl) ?_
      refine m_get hx hb hts hin hown hK hP 0 (by decide) (hts (.fieldLink RX5 7 "PennyRoadModel" "s" "[I") (by decide +kernel)) rfl dX5_together_6 ?_
      refine lv_iconst (v := nI 0) hx hb dX5_together_9 (by decide) ?_
      refine m_ald hx hb hK hP 1 rfl (by decide) (by omega) dX5_together_10 ?_
      refine lv_top hN ?_
      refine lvn_icmp_ge (tgt := 29) hx hb dX5_together_11 (by decide) (by omega) (by omega) (fun c_11 => ?_) (fun c_11 => ?_)
      · skip
        refine lv_iload_n hx hb dX5_together_29 rfl (lv_at hl 1 rfl) ?_
        subst hQ
        exact wq_ri hx hb hr hlocks hP hS dX5_together_30 (by rw [hF]; rfl) rfl
      · skip
        exfalso; omega
    | succ n ih_4 =>
      intro j acc H locs ls hj hF hP hS hl
      refine lv_iload_n hx hb dX5_together_4 rfl (lv_at hl 0 rfl) ?_
      refine lv_aload_n hx hb dX5_together_5 rfl (lv_at hl 2 rfl) ?_
      refine m_get hx hb hts hin hown hK hP 0 (by decide) (hts (.fieldLink RX5 7 "PennyRoadModel" "s" "[I") (by decide +kernel)) rfl dX5_together_6 ?_
      refine lv_iconst (v := nI 0) hx hb dX5_together_9 (by decide) ?_
      refine m_ald hx hb hK hP 1 rfl (by decide) (by omega) dX5_together_10 ?_
      refine lv_top hN ?_
      refine lvn_icmp_ge (tgt := 29) hx hb dX5_together_11 (by decide) (by omega) (by omega) (fun c_11 => ?_) (fun c_11 => ?_)
      · skip
        exfalso; omega
      · skip
        refine lv_iload_n hx hb dX5_together_14 rfl (lv_at hl 1 rfl) ?_
        refine lv_aload_n hx hb dX5_together_15 rfl (lv_at hl 2 rfl) ?_
        refine lv_iload_n hx hb dX5_together_16 rfl (lv_at hl 0 rfl) ?_
        refine lv_iload_n hx hb dX5_together_17 rfl (lv_at hl 3 rfl) ?_
        refine wq_V S mK_ok hK hP hS (c_X5_its (by omega) (by omega)) gX5_together_X5_its i_X5_its rfl (m_rec hK hP) ⟨Nat.le_of_ble_eq_true rfl, Nat.le_of_ble_eq_true rfl⟩ rfl hl.1 (As := [.int (nI j), .int (nI k)]) (rest := [.int (acc)]) (st1 := [.int (sr (5 + 8 * j + k)), .int (acc)]) rfl rfl (Nat.le_of_ble_eq_true rfl) ⟨Nat.le_of_ble_eq_true rfl, Nat.le_of_ble_eq_true rfl⟩ dX5_together_18 (fun H locs hP hS => ?_)
        refine lv_iadd hx hb dX5_together_21 ?_
        refine lv_istore_n (lv' := [(2, .int ((acc) + (sr (5 + 8 * j + k)))), (3, .int (nI j)), (0, .ref (ad 0)), (1, .int (nI k))]) hx hb dX5_together_22 rfl hl (by decide) rfl (fun ls hl => ?_)
        refine lv_iinc (v := nI (j + 1)) (lv' := [(3, .int (nI (j + 1))), (2, .int ((acc) + (sr (5 + 8 * j + k)))), (0, .ref (ad 0)), (1, .int (nI k))]) hx hb dX5_together_23 hl (k := 1) rfl (nI_add _ _) (by decide) rfl (fun ls hl => ?_)
        refine lv_goto (tgt := 4) hx hb dX5_together_26 (by decide) ?_
        exact ih_4 (j + 1) _ _ _ ls (by omega) (by exact hF) hP hS hl
  exact L_4 N 0 (nI 0) _ _ ls (by omega) rfl hP hS hl
theorem i_X5_together : ciOk yX5_together cX5_together 4 (some .int) wsX5_together 1 := ⟨⟨_, rfl⟩, by decide +kernel⟩
set_option maxHeartbeats 4000000 in
set_option maxRecDepth 100000 in
theorem c_X5_thoseWith {l : Launch} {D : va_G} {cy : Nat → ClassId} {ad : Nat → Nat} {sr kS ot asd stt : Nat → Int32} {ik : Int32} {tp : Nat → Int32} {td fr tt vl wr : Int32} {bo so : Nat → Int32} {nu mv : Nat → Int64} {k : Nat} {N : Nat} (hN : sr 0 = nI N) (h8 : N ≤ 8) (hk : k < 8) : Met l yX5_thoseWith wsX5_thoseWith (rmz 2 43) (wPre D (mK D cy ad) (mw cy ad sr kS ot asd stt ik tp td fr tt vl wr bo so nu mv) [.ref (ad 0), .int (nI k)]) (wPost D (mw cy ad sr kS ot asd stt ik tp td fr tt vl wr bo so nu mv) (some (.int (withL sr k N 0 (nI 0)))) (mA ad)) 0 0 (mA ad) := by
  refine wq_entry rfl rfl (Nat.le_of_ble_eq_true rfl) ?_
  intro p e s0 m args below meth c S hr hlocks hK hP ls hl
  have S : CallFix p m c cX5_thoseWith 4 s0 args wsX5_thoseWith RX5 := S
  obtain ⟨hx, hb, hml, hown, hts⟩ := id S
  have hin : ∀ w ∈ wsX50, w ∈ wsX5_thoseWith := fun w h => List.mem_cons_of_mem _ (List.mem_append_right _ h)
  have hS : va_S (mA ad) s0.heap s0.heap [] := va_S.rf
  have hl : lv_has ls 4 [(0, .ref (ad 0)), (1, .int (nI k))] := hl
  generalize hQ : MQ below (wPost D (mw cy ad sr kS ot asd stt ik tp td fr tt vl wr bo so nu mv) (some (.int (withL sr k N 0 (nI 0)))) (mA ad)) args s0 0 0 (mA ad) = Q
  refine lv_iconst (v := nI 0) hx hb dX5_thoseWith_0 (by decide) ?_
  refine lv_istore_n (lv' := [(2, .int (nI 0)), (0, .ref (ad 0)), (1, .int (nI k))]) hx hb dX5_thoseWith_1 rfl hl (by decide) rfl (fun ls hl => ?_)
  refine lv_iconst (v := nI 0) hx hb dX5_thoseWith_2 (by decide) ?_
  refine lv_istore_n (lv' := [(3, .int (nI 0)), (2, .int (nI 0)), (0, .ref (ad 0)), (1, .int (nI k))]) hx hb dX5_thoseWith_3 rfl hl (by decide) rfl (fun ls hl => ?_)
  have L_4 : ∀ (n : Nat) (j : Nat) (acc : Int32) (H : Heap) (locs : List Loc) (ls : Array Slot), j + n = N → withL sr k N 0 (nI 0) = withL sr k n j acc → va_P D vwCl (mw cy ad sr kS ot asd stt ik tp td fr tt vl wr bo so nu mv) H → va_S (mA ad) s0.heap H locs → lv_has ls 4 [(3, .int (nI j)), (2, .int (acc)), (0, .ref (ad 0)), (1, .int (nI k))] → W p l e (rmz 2 43) s0 m args below meth c H locs 0 0 Q (F0 m 4 ls []) := by
    intro n
    induction n with
    | zero =>
      intro j acc H locs ls hj hF hP hS hl
      refine lv_iload_n hx hb dX5_thoseWith_4 rfl (lv_at hl 0 rfl) ?_
      refine lv_aload_n hx hb dX5_thoseWith_5 rfl (lv_at hl 2 rfl) ?_
      refine m_get hx hb hts hin hown hK hP 0 (by decide) (hts (.fieldLink RX5 7 "PennyRoadModel" "s" "[I") (by decide +kernel)) rfl dX5_thoseWith_6 ?_
      refine lv_iconst (v := nI 0) hx hb dX5_thoseWith_9 (by decide) ?_
      refine m_ald hx hb hK hP 1 rfl (by decide) (by omega) dX5_thoseWith_10 ?_
      refine lv_top hN ?_
      refine lvn_icmp_ge (tgt := 39) hx hb dX5_thoseWith_11 (by decide) (by omega) (by omega) (fun c_11 => ?_) (fun c_11 => ?_)
      · skip
        refine lv_iload_n hx hb dX5_thoseWith_39 rfl (lv_at hl 1 rfl) ?_
        subst hQ
        exact wq_ri hx hb hr hlocks hP hS dX5_thoseWith_40 (by rw [hF]; rfl) rfl
      · skip
        exfalso; omega
    | succ n ih_4 =>
      intro j acc H locs ls hj hF hP hS hl
      refine lv_iload_n hx hb dX5_thoseWith_4 rfl (lv_at hl 0 rfl) ?_
      refine lv_aload_n hx hb dX5_thoseWith_5 rfl (lv_at hl 2 rfl) ?_
      refine m_get hx hb hts hin hown hK hP 0 (by decide) (hts (.fieldLink RX5 7 "PennyRoadModel" "s" "[I") (by decide +kernel)) rfl dX5_thoseWith_6 ?_
      refine lv_iconst (v := nI 0) hx hb dX5_thoseWith_9 (by decide) ?_
      refine m_ald hx hb hK hP 1 rfl (by decide) (by omega) dX5_thoseWith_10 ?_
      refine lv_top hN ?_
      refine lvn_icmp_ge (tgt := 39) hx hb dX5_thoseWith_11 (by decide) (by omega) (by omega) (fun c_11 => ?_) (fun c_11 => ?_)
      · skip
        exfalso; omega
      · skip
        refine lv_iload_n hx hb dX5_thoseWith_14 rfl (lv_at hl 1 rfl) ?_
        refine lv_aload_n hx hb dX5_thoseWith_15 rfl (lv_at hl 2 rfl) ?_
        refine lv_iload_n hx hb dX5_thoseWith_16 rfl (lv_at hl 0 rfl) ?_
        refine lv_iload_n hx hb dX5_thoseWith_17 rfl (lv_at hl 3 rfl) ?_
        refine wq_V S mK_ok hK hP hS (c_X5_its (by omega) (by omega)) gX5_thoseWith_X5_its i_X5_its rfl (m_rec hK hP) ⟨Nat.le_of_ble_eq_true rfl, Nat.le_of_ble_eq_true rfl⟩ rfl hl.1 (As := [.int (nI j), .int (nI k)]) (rest := [.int (acc)]) (st1 := [.int (sr (5 + 8 * j + k)), .int (acc)]) rfl rfl (Nat.le_of_ble_eq_true rfl) ⟨Nat.le_of_ble_eq_true rfl, Nat.le_of_ble_eq_true rfl⟩ dX5_thoseWith_18 (fun H locs hP hS => ?_)
        have K_1 : ∀ (x_2 : Int32) (H : Heap) (locs : List Loc) (ls : Array Slot), x_2 = (if (sr (5 + 8 * j + k)) ≤ 0 then (nI 0) else ((nI 1) <<< ((nI j) &&& 31))) → va_P D vwCl (mw cy ad sr kS ot asd stt ik tp td fr tt vl wr bo so nu mv) H → va_S (mA ad) s0.heap H locs → lv_has ls 4 [(3, .int (nI j)), (2, .int (acc)), (0, .ref (ad 0)), (1, .int (nI k))] → W p l e (rmz 2 43) s0 m args below meth c H locs 0 0 Q (F0 m 31 ls [.int (x_2), .int (acc)]) := by
          intro x_2 H locs ls ex_2 hP hS hl
          refine lv_ior hx hb dX5_thoseWith_31 ?_
          refine lv_istore_n (lv' := [(2, .int ((acc) ||| (x_2))), (3, .int (nI j)), (0, .ref (ad 0)), (1, .int (nI k))]) hx hb dX5_thoseWith_32 rfl hl (by decide) rfl (fun ls hl => ?_)
          refine lv_iinc (v := nI (j + 1)) (lv' := [(3, .int (nI (j + 1))), (2, .int ((acc) ||| (x_2))), (0, .ref (ad 0)), (1, .int (nI k))]) hx hb dX5_thoseWith_33 hl (k := 1) rfl (nI_add _ _) (by decide) rfl (fun ls hl => ?_)
          refine lv_goto (tgt := 4) hx hb dX5_thoseWith_36 (by decide) ?_
          exact ih_4 (j + 1) _ _ _ ls (by omega) (by subst ex_2; exact hF) hP hS hl
        refine lv_if_le (tgt := 30) hx hb dX5_thoseWith_21 (by decide) (fun c_21 => ?_) (fun c_21 => ?_)
        · skip
          refine lv_iconst (v := nI 0) hx hb dX5_thoseWith_30 (by decide) ?_
          exact K_1 (nI 0) _ _ ls (by simp only [if_pos c_21]) hP hS hl
        · skip
          refine lv_iconst (v := nI 1) hx hb dX5_thoseWith_24 (by decide) ?_
          refine lv_iload_n hx hb dX5_thoseWith_25 rfl (lv_at hl 0 rfl) ?_
          refine lv_ishl hx hb dX5_thoseWith_26 ?_
          refine lv_goto (tgt := 31) hx hb dX5_thoseWith_27 (by decide) ?_
          exact K_1 ((nI 1) <<< ((nI j) &&& 31)) _ _ ls (by simp only [if_neg c_21]) hP hS hl
  exact L_4 N 0 (nI 0) _ _ ls (by omega) rfl hP hS hl
theorem i_X5_thoseWith : ciOk yX5_thoseWith cX5_thoseWith 4 (some .int) wsX5_thoseWith 1 := ⟨⟨_, rfl⟩, by decide +kernel⟩
set_option maxHeartbeats 4000000 in
set_option maxRecDepth 100000 in
theorem c_X5_road {l : Launch} {D : va_G} {cy : Nat → ClassId} {ad : Nat → Nat} {sr kS ot asd stt : Nat → Int32} {ik : Int32} {tp : Nat → Int32} {td fr tt vl wr : Int32} {bo so : Nat → Int32} {nu mv : Nat → Int64} {q : Int32} {v : Int32} : Met l yX5_road wsX5_road (rmz 1 25) (wPre D (mK D cy ad) (mw cy ad sr kS ot asd stt ik tp td fr tt vl wr bo so nu mv) [.ref (ad 0), .int (q), .int (v)]) (mPub D cy ad (some (.int (if rg 0 2 q ∧ rg 0 (roadM q).toInt v then sr (2 + q.toNatClampNeg) else -1000000001))) (if rg 0 2 q ∧ rg 0 (roadM q).toInt v then upd sr (2 + q.toNatClampNeg) v else sr) kS (if rg 0 2 q ∧ rg 0 (roadM q).toInt v then stt else fnd stt 0) ik tp td bo so nu) 0 0 (mA ad) := by
  refine wq_entry rfl rfl (Nat.le_of_ble_eq_true rfl) ?_
  intro p e s0 m args below meth c S hr hlocks hK hP ls hl
  have S : CallFix p m c cX5_road 4 s0 args wsX5_road RX5 := S
  obtain ⟨hx, hb, hml, hown, hts⟩ := id S
  have hin : ∀ w ∈ wsX50, w ∈ wsX5_road := fun w h => List.mem_cons_of_mem _ (List.mem_append_right _ h)
  have hS : va_S (mA ad) s0.heap s0.heap [] := va_S.rf
  have hl : lv_has ls 4 [(0, .ref (ad 0)), (1, .int (q)), (2, .int (v))] := hl
  generalize hQ : MQ below (mPub D cy ad (some (.int (if rg 0 2 q ∧ rg 0 (roadM q).toInt v then sr (2 + q.toNatClampNeg) else -1000000001))) (if rg 0 2 q ∧ rg 0 (roadM q).toInt v then upd sr (2 + q.toNatClampNeg) v else sr) kS (if rg 0 2 q ∧ rg 0 (roadM q).toInt v then stt else fnd stt 0) ik tp td bo so nu) args s0 0 0 (mA ad) = Q
  refine lv_iload_n hx hb dX5_road_0 rfl (lv_at hl 1 rfl) ?_
  refine lv_i2l (v := (q).toInt64) hx hb dX5_road_1 rfl ?_
  refine lv_lconst (v := 0) hx hb dX5_road_2 (by decide) ?_
  refine lv_ldc2 (v := 2) hx hb hown (hts (.constantLong RX5 58 (2)) (by decide +kernel)) dX5_road_3 ?_
  refine sq_S S (c_X5_inY) gX5_road_X5_in i_X5_in ⟨Nat.le_of_ble_eq_true rfl, Nat.le_of_ble_eq_true rfl⟩ rfl hl.1 (As := [.long ((q).toInt64), .long (0), .long (2)]) (rest := []) (st1 := [.int (z (rg 0 2 (q)))]) rfl rfl (Nat.le_of_ble_eq_true rfl) ⟨Nat.le_of_ble_eq_true rfl, Nat.le_of_ble_eq_true rfl⟩ dX5_road_6 ?_
  refine lvz_if_eq (tgt := 47) hx hb dX5_road_9 (by decide) (fun c_9 => ?_) (fun c_9 => ?_)
  · skip
    refine lv_iconst (v := nI 0) hx hb dX5_road_47 (by decide) ?_
    refine lv_istore_n (lv' := [(3, .int (nI 0)), (0, .ref (ad 0)), (1, .int (q)), (2, .int (v))]) hx hb dX5_road_48 rfl hl (by decide) rfl (fun ls hl => ?_)
    refine lv_iload_n hx hb dX5_road_49 rfl (lv_at hl 0 rfl) ?_
    refine lv_if_eq (tgt := 64) hx hb dX5_road_50 (by decide) (fun c_50 => ?_) (fun c_50 => ?_)
    · skip
      refine lv_aload_n hx hb dX5_road_64 rfl (lv_at hl 1 rfl) ?_
      refine lv_ldc (v := (-1000000001)) hx hb hown (hts (.constant RX5 41 ((-1000000001))) (by decide +kernel)) dX5_road_65 ?_
      refine wq_V S mK_ok hK hP hS (c_X5_finds (t := 0) (by decide)) gX5_road_X5_finds i_X5_finds rfl (m_rec hK hP) ⟨Nat.le_of_ble_eq_true rfl, Nat.le_of_ble_eq_true rfl⟩ rfl hl.1 (As := [.int ((-1000000001))]) (rest := []) (st1 := [.int ((-1000000001))]) rfl rfl (Nat.le_of_ble_eq_true rfl) ⟨Nat.le_of_ble_eq_true rfl, Nat.le_of_ble_eq_true rfl⟩ dX5_road_67 (fun H locs hP hS => ?_)
      subst hQ
      exact mp_ri hx hb hr hlocks hP hS dX5_road_70 (by first | rfl | (simp only [fnd, roadM, if_neg c_9, if_pos c_50]; done) | (simp only [fnd, roadM, c_9, if_pos c_50, Bool.false_eq_true, Bool.true_eq_false, and_true, true_and, false_and, and_false, and_self, not_true_eq_false, not_false_eq_true, if_true, if_false, reduceIte, or_false, false_or, true_or, or_true]; done) | (subst_vars; first | rfl | (simp only [fnd, roadM, if_neg c_9, if_pos c_50]; done) | (simp only [fnd, roadM, c_9, if_pos c_50, Bool.false_eq_true, Bool.true_eq_false, and_true, true_and, false_and, and_false, and_self, not_true_eq_false, not_false_eq_true, if_true, if_false, reduceIte, or_false, false_or, true_or, or_true]; done))) (by first | rfl | (simp only [fnd, roadM, if_neg c_9, if_pos c_50]; done) | (simp only [fnd, roadM, c_9, if_pos c_50, Bool.false_eq_true, Bool.true_eq_false, and_true, true_and, false_and, and_false, and_self, not_true_eq_false, not_false_eq_true, if_true, if_false, reduceIte, or_false, false_or, true_or, or_true]; done) | (subst_vars; first | rfl | (simp only [fnd, roadM, if_neg c_9, if_pos c_50]; done) | (simp only [fnd, roadM, c_9, if_pos c_50, Bool.false_eq_true, Bool.true_eq_false, and_true, true_and, false_and, and_false, and_self, not_true_eq_false, not_false_eq_true, if_true, if_false, reduceIte, or_false, false_or, true_or, or_true]; done)))
    · skip
      exact absurd c_50 (by decide)
  · skip
    refine lv_iload_n hx hb dX5_road_12 rfl (lv_at hl 2 rfl) ?_
    refine lv_i2l (v := (v).toInt64) hx hb dX5_road_13 rfl ?_
    refine lv_lconst (v := 0) hx hb dX5_road_14 (by decide) ?_
    refine lv_iload_n hx hb dX5_road_15 rfl (lv_at hl 1 rfl) ?_
    have K_1 : ∀ (x_2 : Int64) (H : Heap) (locs : List Loc) (ls : Array Slot), x_2 = (if (q) = 0 then 999999 else (if (q) = (nI 1) then 20 else 1)) → va_P D vwCl (mw cy ad sr kS ot asd stt ik tp td fr tt vl wr bo so nu mv) H → va_S (mA ad) s0.heap H locs → lv_has ls 4 [(0, .ref (ad 0)), (1, .int (q)), (2, .int (v))] → W p l e (rmz 1 25) s0 m args below meth c H locs 0 0 Q (F0 m 37 ls [.long (x_2), .long (0), .long ((v).toInt64)]) := by
      intro x_2 H locs ls ex_2 hP hS hl
      refine sq_S S (c_X5_inY) gX5_road_X5_in i_X5_in ⟨Nat.le_of_ble_eq_true rfl, Nat.le_of_ble_eq_true rfl⟩ rfl hl.1 (As := [.long ((v).toInt64), .long (0), .long (x_2)]) (rest := []) (st1 := [.int (z (rg 0 (x_2).toInt (v)))]) rfl rfl (Nat.le_of_ble_eq_true rfl) ⟨Nat.le_of_ble_eq_true rfl, Nat.le_of_ble_eq_true rfl⟩ dX5_road_37 ?_
      refine lvz_if_eq (tgt := 47) hx hb dX5_road_40 (by decide) (fun c_40 => ?_) (fun c_40 => ?_)
      · skip
        refine lv_iconst (v := nI 0) hx hb dX5_road_47 (by decide) ?_
        refine lv_istore_n (lv' := [(3, .int (nI 0)), (0, .ref (ad 0)), (1, .int (q)), (2, .int (v))]) hx hb dX5_road_48 rfl hl (by decide) rfl (fun ls hl => ?_)
        refine lv_iload_n hx hb dX5_road_49 rfl (lv_at hl 0 rfl) ?_
        refine lv_if_eq (tgt := 64) hx hb dX5_road_50 (by decide) (fun c_50 => ?_) (fun c_50 => ?_)
        · skip
          refine lv_aload_n hx hb dX5_road_64 rfl (lv_at hl 1 rfl) ?_
          refine lv_ldc (v := (-1000000001)) hx hb hown (hts (.constant RX5 41 ((-1000000001))) (by decide +kernel)) dX5_road_65 ?_
          refine wq_V S mK_ok hK hP hS (c_X5_finds (t := 0) (by decide)) gX5_road_X5_finds i_X5_finds rfl (m_rec hK hP) ⟨Nat.le_of_ble_eq_true rfl, Nat.le_of_ble_eq_true rfl⟩ rfl hl.1 (As := [.int ((-1000000001))]) (rest := []) (st1 := [.int ((-1000000001))]) rfl rfl (Nat.le_of_ble_eq_true rfl) ⟨Nat.le_of_ble_eq_true rfl, Nat.le_of_ble_eq_true rfl⟩ dX5_road_67 (fun H locs hP hS => ?_)
          subst hQ
          exact mp_ri hx hb hr hlocks hP hS dX5_road_70 (by first | rfl | (simp only [fnd, roadM, if_pos c_9, if_neg c_40, if_pos c_50]; done) | (simp only [fnd, roadM, c_9, c_40, if_pos c_50, Bool.false_eq_true, Bool.true_eq_false, and_true, true_and, false_and, and_false, and_self, not_true_eq_false, not_false_eq_true, if_true, if_false, reduceIte, or_false, false_or, true_or, or_true]; done) | (subst_vars; first | rfl | (simp only [fnd, roadM, if_pos c_9, if_neg c_40, if_pos c_50]; done) | (simp only [fnd, roadM, c_9, c_40, if_pos c_50, Bool.false_eq_true, Bool.true_eq_false, and_true, true_and, false_and, and_false, and_self, not_true_eq_false, not_false_eq_true, if_true, if_false, reduceIte, or_false, false_or, true_or, or_true]; done))) (by first | rfl | (simp only [fnd, roadM, if_pos c_9, if_neg c_40, if_pos c_50]; done) | (simp only [fnd, roadM, c_9, c_40, if_pos c_50, Bool.false_eq_true, Bool.true_eq_false, and_true, true_and, false_and, and_false, and_self, not_true_eq_false, not_false_eq_true, if_true, if_false, reduceIte, or_false, false_or, true_or, or_true]; done) | (subst_vars; first | rfl | (simp only [fnd, roadM, if_pos c_9, if_neg c_40, if_pos c_50]; done) | (simp only [fnd, roadM, c_9, c_40, if_pos c_50, Bool.false_eq_true, Bool.true_eq_false, and_true, true_and, false_and, and_false, and_self, not_true_eq_false, not_false_eq_true, if_true, if_false, reduceIte, or_false, false_or, true_or, or_true]; done)))
        · skip
          exact absurd c_50 (by decide)
      · skip
        refine lv_iconst (v := nI 1) hx hb dX5_road_43 (by decide) ?_
        refine lv_goto (tgt := 48) hx hb dX5_road_44 (by decide) ?_
        refine lv_istore_n (lv' := [(3, .int (nI 1)), (0, .ref (ad 0)), (1, .int (q)), (2, .int (v))]) hx hb dX5_road_48 rfl hl (by decide) rfl (fun ls hl => ?_)
        refine lv_iload_n hx hb dX5_road_49 rfl (lv_at hl 0 rfl) ?_
        refine lv_if_eq (tgt := 64) hx hb dX5_road_50 (by decide) (fun c_50 => ?_) (fun c_50 => ?_)
        · skip
          exact absurd c_50 (by decide)
        · skip
          obtain ⟨i, h_i, h_i2, rfl⟩ := rg_ix (a := 0) (b := 2) (by decide) c_9
          have hcl_i : (nI i).toNatClampNeg = i := nI_clamp (by omega)
          refine lv_aload_n hx hb dX5_road_53 rfl (lv_at hl 1 rfl) ?_
          refine lv_iconst (v := nI 2) hx hb dX5_road_54 (by decide) ?_
          refine lv_iload_n hx hb dX5_road_55 rfl (lv_at hl 2 rfl) ?_
          refine lvn_iadd hx hb dX5_road_56 ?_
          refine lv_iload_n hx hb dX5_road_57 rfl (lv_at hl 3 rfl) ?_
          refine wq_V S mK_ok hK hP hS (c_X5_becomes (by omega)) gX5_road_X5_becomes i_X5_becomes rfl (m_rec hK hP) ⟨Nat.le_of_ble_eq_true rfl, Nat.le_of_ble_eq_true rfl⟩ rfl hl.1 (As := [.int (nI (2 + i)), .int (v)]) (rest := []) (st1 := [.int (sr (2 + i))]) rfl rfl (Nat.le_of_ble_eq_true rfl) ⟨Nat.le_of_ble_eq_true rfl, Nat.le_of_ble_eq_true rfl⟩ dX5_road_58 (fun H locs hP hS => ?_)
          refine lv_goto (tgt := 70) hx hb dX5_road_61 (by decide) ?_
          subst hQ
          exact mp_ri hx hb hr hlocks hP hS dX5_road_70 (by first | rfl | (simp only [fnd, roadM, if_pos c_9, if_pos c_40, if_neg c_50]; done) | (simp only [fnd, roadM, hcl_i, c_9, c_40, if_neg c_50, Bool.false_eq_true, Bool.true_eq_false, and_true, true_and, false_and, and_false, and_self, not_true_eq_false, not_false_eq_true, if_true, if_false, reduceIte, or_false, false_or, true_or, or_true]; done) | (subst_vars; first | rfl | (simp only [fnd, roadM, if_pos c_9, if_pos c_40, if_neg c_50]; done) | (simp only [fnd, roadM, hcl_i, c_9, c_40, if_neg c_50, Bool.false_eq_true, Bool.true_eq_false, and_true, true_and, false_and, and_false, and_self, not_true_eq_false, not_false_eq_true, if_true, if_false, reduceIte, or_false, false_or, true_or, or_true]; done))) (by first | rfl | (simp only [fnd, roadM, if_pos c_9, if_pos c_40, if_neg c_50]; done) | (simp only [fnd, roadM, hcl_i, c_9, c_40, if_neg c_50, Bool.false_eq_true, Bool.true_eq_false, and_true, true_and, false_and, and_false, and_self, not_true_eq_false, not_false_eq_true, if_true, if_false, reduceIte, or_false, false_or, true_or, or_true]; done) | (subst_vars; first | rfl | (simp only [fnd, roadM, if_pos c_9, if_pos c_40, if_neg c_50]; done) | (simp only [fnd, roadM, hcl_i, c_9, c_40, if_neg c_50, Bool.false_eq_true, Bool.true_eq_false, and_true, true_and, false_and, and_false, and_self, not_true_eq_false, not_false_eq_true, if_true, if_false, reduceIte, or_false, false_or, true_or, or_true]; done)))
    refine lv_if_ne (tgt := 25) hx hb dX5_road_16 (by decide) (fun c_16 => ?_) (fun c_16 => ?_)
    · skip
      refine lv_iload_n hx hb dX5_road_25 rfl (lv_at hl 1 rfl) ?_
      refine lv_iconst (v := nI 1) hx hb dX5_road_26 (by decide) ?_
      refine lv_icmp_ne (tgt := 36) hx hb dX5_road_27 (by decide) (fun c_27 => ?_) (fun c_27 => ?_)
      · skip
        refine lv_lconst (v := 1) hx hb dX5_road_36 (by decide) ?_
        exact K_1 (1) _ _ ls (by simp only [if_neg c_16, if_neg c_27]) hP hS hl
      · skip
        refine lv_ldc2 (v := 20) hx hb hown (hts (.constantLong RX5 62 (20)) (by decide +kernel)) dX5_road_30 ?_
        refine lv_goto (tgt := 37) hx hb dX5_road_33 (by decide) ?_
        exact K_1 (20) _ _ ls (by simp only [if_neg c_16, if_pos c_27]) hP hS hl
    · skip
      refine lv_ldc2 (v := 999999) hx hb hown (hts (.constantLong RX5 60 (999999)) (by decide +kernel)) dX5_road_19 ?_
      refine lv_goto (tgt := 37) hx hb dX5_road_22 (by decide) ?_
      exact K_1 (999999) _ _ ls (by simp only [if_pos c_16]) hP hS hl
theorem i_X5_road : ciOk yX5_road cX5_road 4 (some .int) wsX5_road 2 := ⟨⟨_, rfl⟩, by decide +kernel⟩
set_option maxHeartbeats 4000000 in
set_option maxRecDepth 100000 in
theorem c_X5_at {l : Launch} {D : va_G} {cy : Nat → ClassId} {ad : Nat → Nat} {sr kS ot asd stt : Nat → Int32} {ik : Int32} {tp : Nat → Int32} {td fr tt vl wr : Int32} {bo so : Nat → Int32} {nu mv : Nat → Int64} {q : Int32} {N : Nat} (hN : sr 0 = nI N) (h8 : N ≤ 8) : Met l yX5_at wsX5_at (rmz 3 66) (wPre D (mK D cy ad) (mw cy ad sr kS ot asd stt ik tp td fr tt vl wr bo so nu mv) [.ref (ad 0), .int (q)]) (mPub D cy ad (some (.int (if rg 0 12 q then thoseL sr q N 0 (nI 0) else -1000000001))) sr kS (if rg 0 12 q then stt else fnd stt 0) ik tp td bo so nu) 0 0 (mA ad) := by
  refine wq_entry rfl rfl (Nat.le_of_ble_eq_true rfl) ?_
  intro p e s0 m args below meth c S hr hlocks hK hP ls hl
  have S : CallFix p m c cX5_at 2 s0 args wsX5_at RX5 := S
  obtain ⟨hx, hb, hml, hown, hts⟩ := id S
  have hin : ∀ w ∈ wsX50, w ∈ wsX5_at := fun w h => List.mem_cons_of_mem _ (List.mem_append_right _ h)
  have hS : va_S (mA ad) s0.heap s0.heap [] := va_S.rf
  have hl : lv_has ls 2 [(0, .ref (ad 0)), (1, .int (q))] := hl
  generalize hQ : MQ below (mPub D cy ad (some (.int (if rg 0 12 q then thoseL sr q N 0 (nI 0) else -1000000001))) sr kS (if rg 0 12 q then stt else fnd stt 0) ik tp td bo so nu) args s0 0 0 (mA ad) = Q
  refine lv_iload_n hx hb dX5_at_0 rfl (lv_at hl 1 rfl) ?_
  refine sq_S S (c_X5_isMile) gX5_at_X5_isMile i_X5_isMile ⟨Nat.le_of_ble_eq_true rfl, Nat.le_of_ble_eq_true rfl⟩ rfl hl.1 (As := [.int (q)]) (rest := []) (st1 := [.int (z (rg 0 12 (q)))]) rfl rfl (Nat.le_of_ble_eq_true rfl) ⟨Nat.le_of_ble_eq_true rfl, Nat.le_of_ble_eq_true rfl⟩ dX5_at_1 ?_
  refine lvz_if_eq (tgt := 15) hx hb dX5_at_4 (by decide) (fun c_4 => ?_) (fun c_4 => ?_)
  · skip
    refine lv_aload_n hx hb dX5_at_15 rfl (lv_at hl 0 rfl) ?_
    refine lv_ldc (v := (-1000000001)) hx hb hown (hts (.constant RX5 41 ((-1000000001))) (by decide +kernel)) dX5_at_16 ?_
    refine wq_V S mK_ok hK hP hS (c_X5_finds (t := 0) (by decide)) gX5_at_X5_finds i_X5_finds rfl (m_rec hK hP) ⟨Nat.le_of_ble_eq_true rfl, Nat.le_of_ble_eq_true rfl⟩ rfl hl.1 (As := [.int ((-1000000001))]) (rest := []) (st1 := [.int ((-1000000001))]) rfl rfl (Nat.le_of_ble_eq_true rfl) ⟨Nat.le_of_ble_eq_true rfl, Nat.le_of_ble_eq_true rfl⟩ dX5_at_18 (fun H locs hP hS => ?_)
    subst hQ
    exact mp_ri hx hb hr hlocks hP hS dX5_at_21 (by first | rfl | (simp only [fnd, if_neg c_4]; done) | (simp only [fnd, c_4, Bool.false_eq_true, Bool.true_eq_false, and_true, true_and, false_and, and_false, and_self, not_true_eq_false, not_false_eq_true, if_true, if_false, reduceIte, or_false, false_or, true_or, or_true]; done) | (subst_vars; first | rfl | (simp only [fnd, if_neg c_4]; done) | (simp only [fnd, c_4, Bool.false_eq_true, Bool.true_eq_false, and_true, true_and, false_and, and_false, and_self, not_true_eq_false, not_false_eq_true, if_true, if_false, reduceIte, or_false, false_or, true_or, or_true]; done))) (by first | rfl | (simp only [fnd, if_neg c_4]; done) | (simp only [fnd, c_4, Bool.false_eq_true, Bool.true_eq_false, and_true, true_and, false_and, and_false, and_self, not_true_eq_false, not_false_eq_true, if_true, if_false, reduceIte, or_false, false_or, true_or, or_true]; done) | (subst_vars; first | rfl | (simp only [fnd, if_neg c_4]; done) | (simp only [fnd, c_4, Bool.false_eq_true, Bool.true_eq_false, and_true, true_and, false_and, and_false, and_self, not_true_eq_false, not_false_eq_true, if_true, if_false, reduceIte, or_false, false_or, true_or, or_true]; done)))
  · skip
    refine lv_aload_n hx hb dX5_at_7 rfl (lv_at hl 0 rfl) ?_
    refine lv_iload_n hx hb dX5_at_8 rfl (lv_at hl 1 rfl) ?_
    refine wq_V S mK_ok hK hP hS (c_X5_thoseAt hN h8) gX5_at_X5_thoseAt i_X5_thoseAt rfl (m_rec hK hP) ⟨Nat.le_of_ble_eq_true rfl, Nat.le_of_ble_eq_true rfl⟩ rfl hl.1 (As := [.int (q)]) (rest := []) (st1 := [.int (thoseL sr (q) N 0 (nI 0))]) rfl rfl (Nat.le_of_ble_eq_true rfl) ⟨Nat.le_of_ble_eq_true rfl, Nat.le_of_ble_eq_true rfl⟩ dX5_at_9 (fun H locs hP hS => ?_)
    refine lv_goto (tgt := 21) hx hb dX5_at_12 (by decide) ?_
    subst hQ
    exact mp_ri hx hb hr hlocks hP hS dX5_at_21 (by first | rfl | (simp only [fnd, if_pos c_4]; done) | (simp only [fnd, c_4, Bool.false_eq_true, Bool.true_eq_false, and_true, true_and, false_and, and_false, and_self, not_true_eq_false, not_false_eq_true, if_true, if_false, reduceIte, or_false, false_or, true_or, or_true]; done) | (subst_vars; first | rfl | (simp only [fnd, if_pos c_4]; done) | (simp only [fnd, c_4, Bool.false_eq_true, Bool.true_eq_false, and_true, true_and, false_and, and_false, and_self, not_true_eq_false, not_false_eq_true, if_true, if_false, reduceIte, or_false, false_or, true_or, or_true]; done))) (by first | rfl | (simp only [fnd, if_pos c_4]; done) | (simp only [fnd, c_4, Bool.false_eq_true, Bool.true_eq_false, and_true, true_and, false_and, and_false, and_self, not_true_eq_false, not_false_eq_true, if_true, if_false, reduceIte, or_false, false_or, true_or, or_true]; done) | (subst_vars; first | rfl | (simp only [fnd, if_pos c_4]; done) | (simp only [fnd, c_4, Bool.false_eq_true, Bool.true_eq_false, and_true, true_and, false_and, and_false, and_self, not_true_eq_false, not_false_eq_true, if_true, if_false, reduceIte, or_false, false_or, true_or, or_true]; done)))
theorem i_X5_at : ciOk yX5_at cX5_at 2 (some .int) wsX5_at 1 := ⟨⟨_, rfl⟩, by decide +kernel⟩
set_option maxHeartbeats 4000000 in
set_option maxRecDepth 100000 in
theorem c_X5_walker {l : Launch} {D : va_G} {cy : Nat → ClassId} {ad : Nat → Nat} {sr kS ot asd stt : Nat → Int32} {ik : Int32} {tp : Nat → Int32} {td fr tt vl wr : Int32} {bo so : Nat → Int32} {nu mv : Nat → Int64} {q : Int32} {o : Int32} {N : Nat} (hN : sr 0 = nI N) (h8 : N ≤ 8) : Met l yX5_walker wsX5_walker (rmz 2 45) (wPre D (mK D cy ad) (mw cy ad sr kS ot asd stt ik tp td fr tt vl wr bo so nu mv) [.ref (ad 0), .int (q), .int (o)]) (mPub D cy ad (some (.int (if rg 0 5 q ∧ rg 0 12 o then (if N = 8 then -1000000002 else nI N) else -1000000001))) (if rg 0 5 q ∧ rg 0 12 o then (if N = 8 then sr else addF sr N q o) else sr) kS (if rg 0 5 q ∧ rg 0 12 o then (if N = 8 then fnd stt 1 else stt) else fnd stt 0) ik tp td bo so nu) 0 0 (mA ad) := by
  refine wq_entry rfl rfl (Nat.le_of_ble_eq_true rfl) ?_
  intro p e s0 m args below meth c S hr hlocks hK hP ls hl
  have S : CallFix p m c cX5_walker 3 s0 args wsX5_walker RX5 := S
  obtain ⟨hx, hb, hml, hown, hts⟩ := id S
  have hin : ∀ w ∈ wsX50, w ∈ wsX5_walker := fun w h => List.mem_cons_of_mem _ (List.mem_append_right _ h)
  have hS : va_S (mA ad) s0.heap s0.heap [] := va_S.rf
  have hl : lv_has ls 3 [(0, .ref (ad 0)), (1, .int (q)), (2, .int (o))] := hl
  generalize hQ : MQ below (mPub D cy ad (some (.int (if rg 0 5 q ∧ rg 0 12 o then (if N = 8 then -1000000002 else nI N) else -1000000001))) (if rg 0 5 q ∧ rg 0 12 o then (if N = 8 then sr else addF sr N q o) else sr) kS (if rg 0 5 q ∧ rg 0 12 o then (if N = 8 then fnd stt 1 else stt) else fnd stt 0) ik tp td bo so nu) args s0 0 0 (mA ad) = Q
  refine lv_iload_n hx hb dX5_walker_0 rfl (lv_at hl 1 rfl) ?_
  refine sq_S S (c_X5_isKind) gX5_walker_X5_isKind i_X5_isKind ⟨Nat.le_of_ble_eq_true rfl, Nat.le_of_ble_eq_true rfl⟩ rfl hl.1 (As := [.int (q)]) (rest := []) (st1 := [.int (z (rg 0 5 (q)))]) rfl rfl (Nat.le_of_ble_eq_true rfl) ⟨Nat.le_of_ble_eq_true rfl, Nat.le_of_ble_eq_true rfl⟩ dX5_walker_1 ?_
  refine lvz_if_eq (tgt := 14) hx hb dX5_walker_4 (by decide) (fun c_4 => ?_) (fun c_4 => ?_)
  · skip
    refine lv_aload_n hx hb dX5_walker_14 rfl (lv_at hl 0 rfl) ?_
    refine lv_ldc (v := (-1000000001)) hx hb hown (hts (.constant RX5 41 ((-1000000001))) (by decide +kernel)) dX5_walker_15 ?_
    refine wq_V S mK_ok hK hP hS (c_X5_finds (t := 0) (by decide)) gX5_walker_X5_finds i_X5_finds rfl (m_rec hK hP) ⟨Nat.le_of_ble_eq_true rfl, Nat.le_of_ble_eq_true rfl⟩ rfl hl.1 (As := [.int ((-1000000001))]) (rest := []) (st1 := [.int ((-1000000001))]) rfl rfl (Nat.le_of_ble_eq_true rfl) ⟨Nat.le_of_ble_eq_true rfl, Nat.le_of_ble_eq_true rfl⟩ dX5_walker_17 (fun H locs hP hS => ?_)
    subst hQ
    exact mp_ri hx hb hr hlocks hP hS dX5_walker_20 (by first | rfl | (simp only [fnd, if_neg c_4]; done) | (simp only [fnd, c_4, Bool.false_eq_true, Bool.true_eq_false, and_true, true_and, false_and, and_false, and_self, not_true_eq_false, not_false_eq_true, if_true, if_false, reduceIte, or_false, false_or, true_or, or_true]; done) | (subst_vars; first | rfl | (simp only [fnd, if_neg c_4]; done) | (simp only [fnd, c_4, Bool.false_eq_true, Bool.true_eq_false, and_true, true_and, false_and, and_false, and_self, not_true_eq_false, not_false_eq_true, if_true, if_false, reduceIte, or_false, false_or, true_or, or_true]; done))) (by first | rfl | (simp only [fnd, if_neg c_4]; done) | (simp only [fnd, c_4, Bool.false_eq_true, Bool.true_eq_false, and_true, true_and, false_and, and_false, and_self, not_true_eq_false, not_false_eq_true, if_true, if_false, reduceIte, or_false, false_or, true_or, or_true]; done) | (subst_vars; first | rfl | (simp only [fnd, if_neg c_4]; done) | (simp only [fnd, c_4, Bool.false_eq_true, Bool.true_eq_false, and_true, true_and, false_and, and_false, and_self, not_true_eq_false, not_false_eq_true, if_true, if_false, reduceIte, or_false, false_or, true_or, or_true]; done)))
  · skip
    refine lv_iload_n hx hb dX5_walker_7 rfl (lv_at hl 2 rfl) ?_
    refine sq_S S (c_X5_isMile) gX5_walker_X5_isMile i_X5_isMile ⟨Nat.le_of_ble_eq_true rfl, Nat.le_of_ble_eq_true rfl⟩ rfl hl.1 (As := [.int (o)]) (rest := []) (st1 := [.int (z (rg 0 12 (o)))]) rfl rfl (Nat.le_of_ble_eq_true rfl) ⟨Nat.le_of_ble_eq_true rfl, Nat.le_of_ble_eq_true rfl⟩ dX5_walker_8 ?_
    refine lvz_if_ne (tgt := 21) hx hb dX5_walker_11 (by decide) (fun c_11 => ?_) (fun c_11 => ?_)
    · skip
      refine lv_aload_n hx hb dX5_walker_21 rfl (lv_at hl 0 rfl) ?_
      refine m_get hx hb hts hin hown hK hP 0 (by decide) (hts (.fieldLink RX5 7 "PennyRoadModel" "s" "[I") (by decide +kernel)) rfl dX5_walker_22 ?_
      refine lv_iconst (v := nI 0) hx hb dX5_walker_25 (by decide) ?_
      refine m_ald hx hb hK hP 1 rfl (by decide) (by omega) dX5_walker_26 ?_
      refine lv_top hN ?_
      refine lv_bipush (v := nI 8) hx hb dX5_walker_27 (by decide) ?_
      refine lvn_icmp_ne (tgt := 41) hx hb dX5_walker_29 (by decide) (by omega) (by omega) (fun c_29 => ?_) (fun c_29 => ?_)
      · skip
        refine lv_aload_n hx hb dX5_walker_41 rfl (lv_at hl 0 rfl) ?_
        refine lv_iload_n hx hb dX5_walker_42 rfl (lv_at hl 1 rfl) ?_
        refine lv_iload_n hx hb dX5_walker_43 rfl (lv_at hl 2 rfl) ?_
        refine wq_V S mK_ok hK hP hS (c_X5_adds hN (by omega)) gX5_walker_X5_adds i_X5_adds rfl (m_rec hK hP) ⟨Nat.le_of_ble_eq_true rfl, Nat.le_of_ble_eq_true rfl⟩ rfl hl.1 (As := [.int (q), .int (o)]) (rest := []) (st1 := [.int (nI N)]) rfl rfl (Nat.le_of_ble_eq_true rfl) ⟨Nat.le_of_ble_eq_true rfl, Nat.le_of_ble_eq_true rfl⟩ dX5_walker_44 (fun H locs hP hS => ?_)
        subst hQ
        exact mp_ri hx hb hr hlocks hP hS dX5_walker_47 (by first | rfl | (simp only [fnd, if_pos c_4, if_pos c_11, if_neg c_29]; done) | (simp only [fnd, c_4, c_11, if_neg c_29, Bool.false_eq_true, Bool.true_eq_false, and_true, true_and, false_and, and_false, and_self, not_true_eq_false, not_false_eq_true, if_true, if_false, reduceIte, or_false, false_or, true_or, or_true]; done) | (subst_vars; first | rfl | (simp only [fnd, if_pos c_4, if_pos c_11, if_neg c_29]; done) | (simp only [fnd, c_4, c_11, if_neg c_29, Bool.false_eq_true, Bool.true_eq_false, and_true, true_and, false_and, and_false, and_self, not_true_eq_false, not_false_eq_true, if_true, if_false, reduceIte, or_false, false_or, true_or, or_true]; done))) (by first | rfl | (simp only [fnd, if_pos c_4, if_pos c_11, if_neg c_29]; done) | (simp only [fnd, c_4, c_11, if_neg c_29, Bool.false_eq_true, Bool.true_eq_false, and_true, true_and, false_and, and_false, and_self, not_true_eq_false, not_false_eq_true, if_true, if_false, reduceIte, or_false, false_or, true_or, or_true]; done) | (subst_vars; first | rfl | (simp only [fnd, if_pos c_4, if_pos c_11, if_neg c_29]; done) | (simp only [fnd, c_4, c_11, if_neg c_29, Bool.false_eq_true, Bool.true_eq_false, and_true, true_and, false_and, and_false, and_self, not_true_eq_false, not_false_eq_true, if_true, if_false, reduceIte, or_false, false_or, true_or, or_true]; done)))
      · skip
        refine lv_aload_n hx hb dX5_walker_32 rfl (lv_at hl 0 rfl) ?_
        refine lv_ldc (v := (-1000000002)) hx hb hown (hts (.constant RX5 83 ((-1000000002))) (by decide +kernel)) dX5_walker_33 ?_
        refine wq_V S mK_ok hK hP hS (c_X5_finds (t := 1) (by decide)) gX5_walker_X5_finds i_X5_finds rfl (m_rec hK hP) ⟨Nat.le_of_ble_eq_true rfl, Nat.le_of_ble_eq_true rfl⟩ rfl hl.1 (As := [.int ((-1000000002))]) (rest := []) (st1 := [.int ((-1000000002))]) rfl rfl (Nat.le_of_ble_eq_true rfl) ⟨Nat.le_of_ble_eq_true rfl, Nat.le_of_ble_eq_true rfl⟩ dX5_walker_35 (fun H locs hP hS => ?_)
        refine lv_goto (tgt := 47) hx hb dX5_walker_38 (by decide) ?_
        subst hQ
        exact mp_ri hx hb hr hlocks hP hS dX5_walker_47 (by first | rfl | (simp only [fnd, if_pos c_4, if_pos c_11, if_pos c_29]; done) | (simp only [fnd, c_4, c_11, if_pos c_29, Bool.false_eq_true, Bool.true_eq_false, and_true, true_and, false_and, and_false, and_self, not_true_eq_false, not_false_eq_true, if_true, if_false, reduceIte, or_false, false_or, true_or, or_true]; done) | (subst_vars; first | rfl | (simp only [fnd, if_pos c_4, if_pos c_11, if_pos c_29]; done) | (simp only [fnd, c_4, c_11, if_pos c_29, Bool.false_eq_true, Bool.true_eq_false, and_true, true_and, false_and, and_false, and_self, not_true_eq_false, not_false_eq_true, if_true, if_false, reduceIte, or_false, false_or, true_or, or_true]; done))) (by first | rfl | (simp only [fnd, if_pos c_4, if_pos c_11, if_pos c_29]; done) | (simp only [fnd, c_4, c_11, if_pos c_29, Bool.false_eq_true, Bool.true_eq_false, and_true, true_and, false_and, and_false, and_self, not_true_eq_false, not_false_eq_true, if_true, if_false, reduceIte, or_false, false_or, true_or, or_true]; done) | (subst_vars; first | rfl | (simp only [fnd, if_pos c_4, if_pos c_11, if_pos c_29]; done) | (simp only [fnd, c_4, c_11, if_pos c_29, Bool.false_eq_true, Bool.true_eq_false, and_true, true_and, false_and, and_false, and_self, not_true_eq_false, not_false_eq_true, if_true, if_false, reduceIte, or_false, false_or, true_or, or_true]; done)))
    · skip
      refine lv_aload_n hx hb dX5_walker_14 rfl (lv_at hl 0 rfl) ?_
      refine lv_ldc (v := (-1000000001)) hx hb hown (hts (.constant RX5 41 ((-1000000001))) (by decide +kernel)) dX5_walker_15 ?_
      refine wq_V S mK_ok hK hP hS (c_X5_finds (t := 0) (by decide)) gX5_walker_X5_finds i_X5_finds rfl (m_rec hK hP) ⟨Nat.le_of_ble_eq_true rfl, Nat.le_of_ble_eq_true rfl⟩ rfl hl.1 (As := [.int ((-1000000001))]) (rest := []) (st1 := [.int ((-1000000001))]) rfl rfl (Nat.le_of_ble_eq_true rfl) ⟨Nat.le_of_ble_eq_true rfl, Nat.le_of_ble_eq_true rfl⟩ dX5_walker_17 (fun H locs hP hS => ?_)
      subst hQ
      exact mp_ri hx hb hr hlocks hP hS dX5_walker_20 (by first | rfl | (simp only [fnd, if_pos c_4, if_neg c_11]; done) | (simp only [fnd, c_4, c_11, Bool.false_eq_true, Bool.true_eq_false, and_true, true_and, false_and, and_false, and_self, not_true_eq_false, not_false_eq_true, if_true, if_false, reduceIte, or_false, false_or, true_or, or_true]; done) | (subst_vars; first | rfl | (simp only [fnd, if_pos c_4, if_neg c_11]; done) | (simp only [fnd, c_4, c_11, Bool.false_eq_true, Bool.true_eq_false, and_true, true_and, false_and, and_false, and_self, not_true_eq_false, not_false_eq_true, if_true, if_false, reduceIte, or_false, false_or, true_or, or_true]; done))) (by first | rfl | (simp only [fnd, if_pos c_4, if_neg c_11]; done) | (simp only [fnd, c_4, c_11, Bool.false_eq_true, Bool.true_eq_false, and_true, true_and, false_and, and_false, and_self, not_true_eq_false, not_false_eq_true, if_true, if_false, reduceIte, or_false, false_or, true_or, or_true]; done) | (subst_vars; first | rfl | (simp only [fnd, if_pos c_4, if_neg c_11]; done) | (simp only [fnd, c_4, c_11, Bool.false_eq_true, Bool.true_eq_false, and_true, true_and, false_and, and_false, and_self, not_true_eq_false, not_false_eq_true, if_true, if_false, reduceIte, or_false, false_or, true_or, or_true]; done)))
theorem i_X5_walker : ciOk yX5_walker cX5_walker 3 (some .int) wsX5_walker 2 := ⟨⟨_, rfl⟩, by decide +kernel⟩
set_option maxHeartbeats 4000000 in
set_option maxRecDepth 100000 in
theorem c_X5_of {l : Launch} {D : va_G} {cy : Nat → ClassId} {ad : Nat → Nat} {sr kS ot asd stt : Nat → Int32} {ik : Int32} {tp : Nat → Int32} {td fr tt vl wr : Int32} {bo so : Nat → Int32} {nu mv : Nat → Int64} {q : Int32} {o : Int32} {N : Nat} (hN : sr 0 = nI N) (h8 : N ≤ 8) : Met l yX5_of wsX5_of (rmz 4 88) (wPre D (mK D cy ad) (mw cy ad sr kS ot asd stt ik tp td fr tt vl wr bo so nu mv) [.ref (ad 0), .int (q), .int (o)]) (mPub D cy ad (some (.int (if isN N q ∧ rg 0 9 o then (if 7 < o.toNatClampNeg then (if o.toNatClampNeg = 8 then paceF sr N q.toNatClampNeg else payF sr q.toNatClampNeg) else sr (5 + 8 * q.toNatClampNeg + o.toNatClampNeg)) else -1000000001))) sr kS (if isN N q ∧ rg 0 9 o then stt else fnd stt 0) ik tp td bo so nu) 0 0 (mA ad) := by
  refine wq_entry rfl rfl (Nat.le_of_ble_eq_true rfl) ?_
  intro p e s0 m args below meth c S hr hlocks hK hP ls hl
  have S : CallFix p m c cX5_of 3 s0 args wsX5_of RX5 := S
  obtain ⟨hx, hb, hml, hown, hts⟩ := id S
  have hin : ∀ w ∈ wsX50, w ∈ wsX5_of := fun w h => List.mem_cons_of_mem _ (List.mem_append_right _ h)
  have hS : va_S (mA ad) s0.heap s0.heap [] := va_S.rf
  have hl : lv_has ls 3 [(0, .ref (ad 0)), (1, .int (q)), (2, .int (o))] := hl
  generalize hQ : MQ below (mPub D cy ad (some (.int (if isN N q ∧ rg 0 9 o then (if 7 < o.toNatClampNeg then (if o.toNatClampNeg = 8 then paceF sr N q.toNatClampNeg else payF sr q.toNatClampNeg) else sr (5 + 8 * q.toNatClampNeg + o.toNatClampNeg)) else -1000000001))) sr kS (if isN N q ∧ rg 0 9 o then stt else fnd stt 0) ik tp td bo so nu) args s0 0 0 (mA ad) = Q
  refine lv_aload_n hx hb dX5_of_0 rfl (lv_at hl 0 rfl) ?_
  refine lv_iload_n hx hb dX5_of_1 rfl (lv_at hl 1 rfl) ?_
  refine wq_V S mK_ok hK hP hS (c_X5_isWalker hN h8) gX5_of_X5_isWalker i_X5_isWalker rfl (m_rec hK hP) ⟨Nat.le_of_ble_eq_true rfl, Nat.le_of_ble_eq_true rfl⟩ rfl hl.1 (As := [.int (q)]) (rest := []) (st1 := [.int (z (isN N (q)))]) rfl rfl (Nat.le_of_ble_eq_true rfl) ⟨Nat.le_of_ble_eq_true rfl, Nat.le_of_ble_eq_true rfl⟩ dX5_of_2 (fun H locs hP hS => ?_)
  refine lvz_if_eq (tgt := 20) hx hb dX5_of_5 (by decide) (fun c_5 => ?_) (fun c_5 => ?_)
  · skip
    refine lv_aload_n hx hb dX5_of_20 rfl (lv_at hl 0 rfl) ?_
    refine lv_ldc (v := (-1000000001)) hx hb hown (hts (.constant RX5 41 ((-1000000001))) (by decide +kernel)) dX5_of_21 ?_
    refine wq_V S mK_ok hK hP hS (c_X5_finds (t := 0) (by decide)) gX5_of_X5_finds i_X5_finds rfl (m_rec hK hP) ⟨Nat.le_of_ble_eq_true rfl, Nat.le_of_ble_eq_true rfl⟩ rfl hl.1 (As := [.int ((-1000000001))]) (rest := []) (st1 := [.int ((-1000000001))]) rfl rfl (Nat.le_of_ble_eq_true rfl) ⟨Nat.le_of_ble_eq_true rfl, Nat.le_of_ble_eq_true rfl⟩ dX5_of_23 (fun H locs hP hS => ?_)
    subst hQ
    exact mp_ri hx hb hr hlocks hP hS dX5_of_26 (by first | rfl | (simp only [fnd, if_neg c_5]; done) | (simp only [fnd, c_5, Bool.false_eq_true, Bool.true_eq_false, and_true, true_and, false_and, and_false, and_self, not_true_eq_false, not_false_eq_true, if_true, if_false, reduceIte, or_false, false_or, true_or, or_true]; done) | (subst_vars; first | rfl | (simp only [fnd, if_neg c_5]; done) | (simp only [fnd, c_5, Bool.false_eq_true, Bool.true_eq_false, and_true, true_and, false_and, and_false, and_self, not_true_eq_false, not_false_eq_true, if_true, if_false, reduceIte, or_false, false_or, true_or, or_true]; done))) (by first | rfl | (simp only [fnd, if_neg c_5]; done) | (simp only [fnd, c_5, Bool.false_eq_true, Bool.true_eq_false, and_true, true_and, false_and, and_false, and_self, not_true_eq_false, not_false_eq_true, if_true, if_false, reduceIte, or_false, false_or, true_or, or_true]; done) | (subst_vars; first | rfl | (simp only [fnd, if_neg c_5]; done) | (simp only [fnd, c_5, Bool.false_eq_true, Bool.true_eq_false, and_true, true_and, false_and, and_false, and_self, not_true_eq_false, not_false_eq_true, if_true, if_false, reduceIte, or_false, false_or, true_or, or_true]; done)))
  · skip
    refine lv_iload_n hx hb dX5_of_8 rfl (lv_at hl 2 rfl) ?_
    refine lv_i2l (v := (o).toInt64) hx hb dX5_of_9 rfl ?_
    refine lv_lconst (v := 0) hx hb dX5_of_10 (by decide) ?_
    refine lv_ldc2 (v := 9) hx hb hown (hts (.constantLong RX5 87 (9)) (by decide +kernel)) dX5_of_11 ?_
    refine sq_S S (c_X5_inY) gX5_of_X5_in i_X5_in ⟨Nat.le_of_ble_eq_true rfl, Nat.le_of_ble_eq_true rfl⟩ rfl hl.1 (As := [.long ((o).toInt64), .long (0), .long (9)]) (rest := []) (st1 := [.int (z (rg 0 9 (o)))]) rfl rfl (Nat.le_of_ble_eq_true rfl) ⟨Nat.le_of_ble_eq_true rfl, Nat.le_of_ble_eq_true rfl⟩ dX5_of_14 ?_
    refine lvz_if_ne (tgt := 27) hx hb dX5_of_17 (by decide) (fun c_17 => ?_) (fun c_17 => ?_)
    · skip
      obtain ⟨i, h_i, rfl⟩ := isN_ix h8 c_5
      have hcl_i : (nI i).toNatClampNeg = i := nI_clamp (by omega)
      obtain ⟨k, h_k, h_k2, rfl⟩ := rg_ix (a := 0) (b := 9) (by decide) c_17
      have hcl_k : (nI k).toNatClampNeg = k := nI_clamp (by omega)
      refine lv_iload_n hx hb dX5_of_27 rfl (lv_at hl 2 rfl) ?_
      refine lv_bipush (v := nI 7) hx hb dX5_of_28 (by decide) ?_
      refine lvn_icmp_gt (tgt := 42) hx hb dX5_of_30 (by decide) (by omega) (by omega) (fun c_30 => ?_) (fun c_30 => ?_)
      · skip
        refine lv_iload_n hx hb dX5_of_42 rfl (lv_at hl 2 rfl) ?_
        refine lv_bipush (v := nI 8) hx hb dX5_of_43 (by decide) ?_
        refine lvn_icmp_ne (tgt := 56) hx hb dX5_of_45 (by decide) (by omega) (by omega) (fun c_45 => ?_) (fun c_45 => ?_)
        · skip
          refine lv_aload_n hx hb dX5_of_56 rfl (lv_at hl 0 rfl) ?_
          refine lv_iload_n hx hb dX5_of_57 rfl (lv_at hl 1 rfl) ?_
          refine wq_V S mK_ok hK hP hS (c_X5_payOf (by omega)) gX5_of_X5_payOf i_X5_payOf rfl (m_rec hK hP) ⟨Nat.le_of_ble_eq_true rfl, Nat.le_of_ble_eq_true rfl⟩ rfl hl.1 (As := [.int (nI i)]) (rest := []) (st1 := [.int (payF sr i)]) rfl rfl (Nat.le_of_ble_eq_true rfl) ⟨Nat.le_of_ble_eq_true rfl, Nat.le_of_ble_eq_true rfl⟩ dX5_of_58 (fun H locs hP hS => ?_)
          subst hQ
          exact mp_ri hx hb hr hlocks hP hS dX5_of_61 (by first | rfl | (simp only [fnd, if_pos c_5, if_pos c_17, if_pos c_30, if_neg c_45]; done) | (simp only [fnd, hcl_i, hcl_k, c_5, c_17, if_pos c_30, if_neg c_45, Bool.false_eq_true, Bool.true_eq_false, and_true, true_and, false_and, and_false, and_self, not_true_eq_false, not_false_eq_true, if_true, if_false, reduceIte, or_false, false_or, true_or, or_true]; done) | (subst_vars; first | rfl | (simp only [fnd, if_pos c_5, if_pos c_17, if_pos c_30, if_neg c_45]; done) | (simp only [fnd, hcl_i, hcl_k, c_5, c_17, if_pos c_30, if_neg c_45, Bool.false_eq_true, Bool.true_eq_false, and_true, true_and, false_and, and_false, and_self, not_true_eq_false, not_false_eq_true, if_true, if_false, reduceIte, or_false, false_or, true_or, or_true]; done))) (by first | rfl | (simp only [fnd, if_pos c_5, if_pos c_17, if_pos c_30, if_neg c_45]; done) | (simp only [fnd, hcl_i, hcl_k, c_5, c_17, if_pos c_30, if_neg c_45, Bool.false_eq_true, Bool.true_eq_false, and_true, true_and, false_and, and_false, and_self, not_true_eq_false, not_false_eq_true, if_true, if_false, reduceIte, or_false, false_or, true_or, or_true]; done) | (subst_vars; first | rfl | (simp only [fnd, if_pos c_5, if_pos c_17, if_pos c_30, if_neg c_45]; done) | (simp only [fnd, hcl_i, hcl_k, c_5, c_17, if_pos c_30, if_neg c_45, Bool.false_eq_true, Bool.true_eq_false, and_true, true_and, false_and, and_false, and_self, not_true_eq_false, not_false_eq_true, if_true, if_false, reduceIte, or_false, false_or, true_or, or_true]; done)))
        · skip
          refine lv_aload_n hx hb dX5_of_48 rfl (lv_at hl 0 rfl) ?_
          refine lv_iload_n hx hb dX5_of_49 rfl (lv_at hl 1 rfl) ?_
          refine wq_V S mK_ok hK hP hS (c_X5_paceOf (by omega) hN h8) gX5_of_X5_paceOf i_X5_paceOf rfl (m_rec hK hP) ⟨Nat.le_of_ble_eq_true rfl, Nat.le_of_ble_eq_true rfl⟩ rfl hl.1 (As := [.int (nI i)]) (rest := []) (st1 := [.int (paceF sr N i)]) rfl rfl (Nat.le_of_ble_eq_true rfl) ⟨Nat.le_of_ble_eq_true rfl, Nat.le_of_ble_eq_true rfl⟩ dX5_of_50 (fun H locs hP hS => ?_)
          refine lv_goto (tgt := 61) hx hb dX5_of_53 (by decide) ?_
          subst hQ
          exact mp_ri hx hb hr hlocks hP hS dX5_of_61 (by first | rfl | (simp only [fnd, if_pos c_5, if_pos c_17, if_pos c_30, if_pos c_45]; done) | (simp only [fnd, hcl_i, hcl_k, c_5, c_17, if_pos c_30, if_pos c_45, Bool.false_eq_true, Bool.true_eq_false, and_true, true_and, false_and, and_false, and_self, not_true_eq_false, not_false_eq_true, if_true, if_false, reduceIte, or_false, false_or, true_or, or_true]; done) | (subst_vars; first | rfl | (simp only [fnd, if_pos c_5, if_pos c_17, if_pos c_30, if_pos c_45]; done) | (simp only [fnd, hcl_i, hcl_k, c_5, c_17, if_pos c_30, if_pos c_45, Bool.false_eq_true, Bool.true_eq_false, and_true, true_and, false_and, and_false, and_self, not_true_eq_false, not_false_eq_true, if_true, if_false, reduceIte, or_false, false_or, true_or, or_true]; done))) (by first | rfl | (simp only [fnd, if_pos c_5, if_pos c_17, if_pos c_30, if_pos c_45]; done) | (simp only [fnd, hcl_i, hcl_k, c_5, c_17, if_pos c_30, if_pos c_45, Bool.false_eq_true, Bool.true_eq_false, and_true, true_and, false_and, and_false, and_self, not_true_eq_false, not_false_eq_true, if_true, if_false, reduceIte, or_false, false_or, true_or, or_true]; done) | (subst_vars; first | rfl | (simp only [fnd, if_pos c_5, if_pos c_17, if_pos c_30, if_pos c_45]; done) | (simp only [fnd, hcl_i, hcl_k, c_5, c_17, if_pos c_30, if_pos c_45, Bool.false_eq_true, Bool.true_eq_false, and_true, true_and, false_and, and_false, and_self, not_true_eq_false, not_false_eq_true, if_true, if_false, reduceIte, or_false, false_or, true_or, or_true]; done)))
      · skip
        refine lv_aload_n hx hb dX5_of_33 rfl (lv_at hl 0 rfl) ?_
        refine lv_iload_n hx hb dX5_of_34 rfl (lv_at hl 1 rfl) ?_
        refine lv_iload_n hx hb dX5_of_35 rfl (lv_at hl 2 rfl) ?_
        refine wq_V S mK_ok hK hP hS (c_X5_its (by omega) (by omega)) gX5_of_X5_its i_X5_its rfl (m_rec hK hP) ⟨Nat.le_of_ble_eq_true rfl, Nat.le_of_ble_eq_true rfl⟩ rfl hl.1 (As := [.int (nI i), .int (nI k)]) (rest := []) (st1 := [.int (sr (5 + 8 * i + k))]) rfl rfl (Nat.le_of_ble_eq_true rfl) ⟨Nat.le_of_ble_eq_true rfl, Nat.le_of_ble_eq_true rfl⟩ dX5_of_36 (fun H locs hP hS => ?_)
        refine lv_goto (tgt := 61) hx hb dX5_of_39 (by decide) ?_
        subst hQ
        exact mp_ri hx hb hr hlocks hP hS dX5_of_61 (by first | rfl | (simp only [fnd, if_pos c_5, if_pos c_17, if_neg c_30]; done) | (simp only [fnd, hcl_i, hcl_k, c_5, c_17, if_neg c_30, Bool.false_eq_true, Bool.true_eq_false, and_true, true_and, false_and, and_false, and_self, not_true_eq_false, not_false_eq_true, if_true, if_false, reduceIte, or_false, false_or, true_or, or_true]; done) | (subst_vars; first | rfl | (simp only [fnd, if_pos c_5, if_pos c_17, if_neg c_30]; done) | (simp only [fnd, hcl_i, hcl_k, c_5, c_17, if_neg c_30, Bool.false_eq_true, Bool.true_eq_false, and_true, true_and, false_and, and_false, and_self, not_true_eq_false, not_false_eq_true, if_true, if_false, reduceIte, or_false, false_or, true_or, or_true]; done))) (by first | rfl | (simp only [fnd, if_pos c_5, if_pos c_17, if_neg c_30]; done) | (simp only [fnd, hcl_i, hcl_k, c_5, c_17, if_neg c_30, Bool.false_eq_true, Bool.true_eq_false, and_true, true_and, false_and, and_false, and_self, not_true_eq_false, not_false_eq_true, if_true, if_false, reduceIte, or_false, false_or, true_or, or_true]; done) | (subst_vars; first | rfl | (simp only [fnd, if_pos c_5, if_pos c_17, if_neg c_30]; done) | (simp only [fnd, hcl_i, hcl_k, c_5, c_17, if_neg c_30, Bool.false_eq_true, Bool.true_eq_false, and_true, true_and, false_and, and_false, and_self, not_true_eq_false, not_false_eq_true, if_true, if_false, reduceIte, or_false, false_or, true_or, or_true]; done)))
    · skip
      refine lv_aload_n hx hb dX5_of_20 rfl (lv_at hl 0 rfl) ?_
      refine lv_ldc (v := (-1000000001)) hx hb hown (hts (.constant RX5 41 ((-1000000001))) (by decide +kernel)) dX5_of_21 ?_
      refine wq_V S mK_ok hK hP hS (c_X5_finds (t := 0) (by decide)) gX5_of_X5_finds i_X5_finds rfl (m_rec hK hP) ⟨Nat.le_of_ble_eq_true rfl, Nat.le_of_ble_eq_true rfl⟩ rfl hl.1 (As := [.int ((-1000000001))]) (rest := []) (st1 := [.int ((-1000000001))]) rfl rfl (Nat.le_of_ble_eq_true rfl) ⟨Nat.le_of_ble_eq_true rfl, Nat.le_of_ble_eq_true rfl⟩ dX5_of_23 (fun H locs hP hS => ?_)
      subst hQ
      exact mp_ri hx hb hr hlocks hP hS dX5_of_26 (by first | rfl | (simp only [fnd, if_pos c_5, if_neg c_17]; done) | (simp only [fnd, c_5, c_17, Bool.false_eq_true, Bool.true_eq_false, and_true, true_and, false_and, and_false, and_self, not_true_eq_false, not_false_eq_true, if_true, if_false, reduceIte, or_false, false_or, true_or, or_true]; done) | (subst_vars; first | rfl | (simp only [fnd, if_pos c_5, if_neg c_17]; done) | (simp only [fnd, c_5, c_17, Bool.false_eq_true, Bool.true_eq_false, and_true, true_and, false_and, and_false, and_self, not_true_eq_false, not_false_eq_true, if_true, if_false, reduceIte, or_false, false_or, true_or, or_true]; done))) (by first | rfl | (simp only [fnd, if_pos c_5, if_neg c_17]; done) | (simp only [fnd, c_5, c_17, Bool.false_eq_true, Bool.true_eq_false, and_true, true_and, false_and, and_false, and_self, not_true_eq_false, not_false_eq_true, if_true, if_false, reduceIte, or_false, false_or, true_or, or_true]; done) | (subst_vars; first | rfl | (simp only [fnd, if_pos c_5, if_neg c_17]; done) | (simp only [fnd, c_5, c_17, Bool.false_eq_true, Bool.true_eq_false, and_true, true_and, false_and, and_false, and_self, not_true_eq_false, not_false_eq_true, if_true, if_false, reduceIte, or_false, false_or, true_or, or_true]; done)))
theorem i_X5_of : ciOk yX5_of cX5_of 3 (some .int) wsX5_of 2 := ⟨⟨_, rfl⟩, by decide +kernel⟩
set_option maxHeartbeats 4000000 in
set_option maxRecDepth 100000 in
theorem c_X5_set {l : Launch} {D : va_G} {cy : Nat → ClassId} {ad : Nat → Nat} {sr kS ot asd stt : Nat → Int32} {ik : Int32} {tp : Nat → Int32} {td fr tt vl wr : Int32} {bo so : Nat → Int32} {nu mv : Nat → Int64} {q : Int32} {o : Int32} {v : Int32} {N : Nat} (hN : sr 0 = nI N) (h8 : N ≤ 8) : Met l yX5_set wsX5_set (rmz 2 46) (wPre D (mK D cy ad) (mw cy ad sr kS ot asd stt ik tp td fr tt vl wr bo so nu mv) [.ref (ad 0), .int (q), .int (o), .int (v)]) (mPub D cy ad (some (.int (if isN N q ∧ rg 1 7 o ∧ rg 0 ((mostF o).toInt64).toInt v then sr (5 + 8 * q.toNatClampNeg + o.toNatClampNeg) else -1000000001))) (if isN N q ∧ rg 1 7 o ∧ rg 0 ((mostF o).toInt64).toInt v then upd sr (5 + 8 * q.toNatClampNeg + o.toNatClampNeg) v else sr) kS (if isN N q ∧ rg 1 7 o ∧ rg 0 ((mostF o).toInt64).toInt v then stt else fnd stt 0) ik tp td bo so nu) 0 0 (mA ad) := by
  refine wq_entry rfl rfl (Nat.le_of_ble_eq_true rfl) ?_
  intro p e s0 m args below meth c S hr hlocks hK hP ls hl
  have S : CallFix p m c cX5_set 5 s0 args wsX5_set RX5 := S
  obtain ⟨hx, hb, hml, hown, hts⟩ := id S
  have hin : ∀ w ∈ wsX50, w ∈ wsX5_set := fun w h => List.mem_cons_of_mem _ (List.mem_append_right _ h)
  have hS : va_S (mA ad) s0.heap s0.heap [] := va_S.rf
  have hl : lv_has ls 5 [(0, .ref (ad 0)), (1, .int (q)), (2, .int (o)), (3, .int (v))] := hl
  generalize hQ : MQ below (mPub D cy ad (some (.int (if isN N q ∧ rg 1 7 o ∧ rg 0 ((mostF o).toInt64).toInt v then sr (5 + 8 * q.toNatClampNeg + o.toNatClampNeg) else -1000000001))) (if isN N q ∧ rg 1 7 o ∧ rg 0 ((mostF o).toInt64).toInt v then upd sr (5 + 8 * q.toNatClampNeg + o.toNatClampNeg) v else sr) kS (if isN N q ∧ rg 1 7 o ∧ rg 0 ((mostF o).toInt64).toInt v then stt else fnd stt 0) ik tp td bo so nu) args s0 0 0 (mA ad) = Q
  refine lv_iload_n hx hb dX5_set_0 rfl (lv_at hl 2 rfl) ?_
  refine lv_i2l (v := (o).toInt64) hx hb dX5_set_1 rfl ?_
  refine lv_lconst (v := 1) hx hb dX5_set_2 (by decide) ?_
  refine lv_ldc2 (v := 7) hx hb hown (hts (.constantLong RX5 96 (7)) (by decide +kernel)) dX5_set_3 ?_
  refine sq_S S (c_X5_inY) gX5_set_X5_in i_X5_in ⟨Nat.le_of_ble_eq_true rfl, Nat.le_of_ble_eq_true rfl⟩ rfl hl.1 (As := [.long ((o).toInt64), .long (1), .long (7)]) (rest := []) (st1 := [.int (z (rg 1 7 (o)))]) rfl rfl (Nat.le_of_ble_eq_true rfl) ⟨Nat.le_of_ble_eq_true rfl, Nat.le_of_ble_eq_true rfl⟩ dX5_set_6 ?_
  refine lvz_if_eq (tgt := 30) hx hb dX5_set_9 (by decide) (fun c_9 => ?_) (fun c_9 => ?_)
  · skip
    refine lv_iconst (v := nI 0) hx hb dX5_set_30 (by decide) ?_
    refine lv_istore (lv' := [(4, .int (nI 0)), (0, .ref (ad 0)), (1, .int (q)), (2, .int (o)), (3, .int (v))]) hx hb dX5_set_31 hl (by decide) rfl (fun ls hl => ?_)
    refine lv_aload_n hx hb dX5_set_33 rfl (lv_at hl 1 rfl) ?_
    refine lv_iload_n hx hb dX5_set_34 rfl (lv_at hl 2 rfl) ?_
    refine wq_V S mK_ok hK hP hS (c_X5_isWalker hN h8) gX5_set_X5_isWalker i_X5_isWalker rfl (m_rec hK hP) ⟨Nat.le_of_ble_eq_true rfl, Nat.le_of_ble_eq_true rfl⟩ rfl hl.1 (As := [.int (q)]) (rest := []) (st1 := [.int (z (isN N (q)))]) rfl rfl (Nat.le_of_ble_eq_true rfl) ⟨Nat.le_of_ble_eq_true rfl, Nat.le_of_ble_eq_true rfl⟩ dX5_set_35 (fun H locs hP hS => ?_)
    refine lvz_if_eq (tgt := 59) hx hb dX5_set_38 (by decide) (fun c_38 => ?_) (fun c_38 => ?_)
    · skip
      refine lv_aload_n hx hb dX5_set_59 rfl (lv_at hl 1 rfl) ?_
      refine lv_ldc (v := (-1000000001)) hx hb hown (hts (.constant RX5 41 ((-1000000001))) (by decide +kernel)) dX5_set_60 ?_
      refine wq_V S mK_ok hK hP hS (c_X5_finds (t := 0) (by decide)) gX5_set_X5_finds i_X5_finds rfl (m_rec hK hP) ⟨Nat.le_of_ble_eq_true rfl, Nat.le_of_ble_eq_true rfl⟩ rfl hl.1 (As := [.int ((-1000000001))]) (rest := []) (st1 := [.int ((-1000000001))]) rfl rfl (Nat.le_of_ble_eq_true rfl) ⟨Nat.le_of_ble_eq_true rfl, Nat.le_of_ble_eq_true rfl⟩ dX5_set_62 (fun H locs hP hS => ?_)
      subst hQ
      exact mp_ri hx hb hr hlocks hP hS dX5_set_65 (by first | rfl | (simp only [fnd, if_neg c_9, if_neg c_38]; done) | (simp only [fnd, c_9, c_38, Bool.false_eq_true, Bool.true_eq_false, and_true, true_and, false_and, and_false, and_self, not_true_eq_false, not_false_eq_true, if_true, if_false, reduceIte, or_false, false_or, true_or, or_true]; done) | (subst_vars; first | rfl | (simp only [fnd, if_neg c_9, if_neg c_38]; done) | (simp only [fnd, c_9, c_38, Bool.false_eq_true, Bool.true_eq_false, and_true, true_and, false_and, and_false, and_self, not_true_eq_false, not_false_eq_true, if_true, if_false, reduceIte, or_false, false_or, true_or, or_true]; done))) (by first | rfl | (simp only [fnd, if_neg c_9, if_neg c_38]; done) | (simp only [fnd, c_9, c_38, Bool.false_eq_true, Bool.true_eq_false, and_true, true_and, false_and, and_false, and_self, not_true_eq_false, not_false_eq_true, if_true, if_false, reduceIte, or_false, false_or, true_or, or_true]; done) | (subst_vars; first | rfl | (simp only [fnd, if_neg c_9, if_neg c_38]; done) | (simp only [fnd, c_9, c_38, Bool.false_eq_true, Bool.true_eq_false, and_true, true_and, false_and, and_false, and_self, not_true_eq_false, not_false_eq_true, if_true, if_false, reduceIte, or_false, false_or, true_or, or_true]; done)))
    · skip
      refine lv_iload hx hb dX5_set_41 (lv_at hl 0 rfl) ?_
      refine lv_if_eq (tgt := 59) hx hb dX5_set_43 (by decide) (fun c_43 => ?_) (fun c_43 => ?_)
      · skip
        refine lv_aload_n hx hb dX5_set_59 rfl (lv_at hl 1 rfl) ?_
        refine lv_ldc (v := (-1000000001)) hx hb hown (hts (.constant RX5 41 ((-1000000001))) (by decide +kernel)) dX5_set_60 ?_
        refine wq_V S mK_ok hK hP hS (c_X5_finds (t := 0) (by decide)) gX5_set_X5_finds i_X5_finds rfl (m_rec hK hP) ⟨Nat.le_of_ble_eq_true rfl, Nat.le_of_ble_eq_true rfl⟩ rfl hl.1 (As := [.int ((-1000000001))]) (rest := []) (st1 := [.int ((-1000000001))]) rfl rfl (Nat.le_of_ble_eq_true rfl) ⟨Nat.le_of_ble_eq_true rfl, Nat.le_of_ble_eq_true rfl⟩ dX5_set_62 (fun H locs hP hS => ?_)
        subst hQ
        exact mp_ri hx hb hr hlocks hP hS dX5_set_65 (by first | rfl | (simp only [fnd, if_neg c_9, if_pos c_38, if_pos c_43]; done) | (simp only [fnd, c_9, c_38, if_pos c_43, Bool.false_eq_true, Bool.true_eq_false, and_true, true_and, false_and, and_false, and_self, not_true_eq_false, not_false_eq_true, if_true, if_false, reduceIte, or_false, false_or, true_or, or_true]; done) | (subst_vars; first | rfl | (simp only [fnd, if_neg c_9, if_pos c_38, if_pos c_43]; done) | (simp only [fnd, c_9, c_38, if_pos c_43, Bool.false_eq_true, Bool.true_eq_false, and_true, true_and, false_and, and_false, and_self, not_true_eq_false, not_false_eq_true, if_true, if_false, reduceIte, or_false, false_or, true_or, or_true]; done))) (by first | rfl | (simp only [fnd, if_neg c_9, if_pos c_38, if_pos c_43]; done) | (simp only [fnd, c_9, c_38, if_pos c_43, Bool.false_eq_true, Bool.true_eq_false, and_true, true_and, false_and, and_false, and_self, not_true_eq_false, not_false_eq_true, if_true, if_false, reduceIte, or_false, false_or, true_or, or_true]; done) | (subst_vars; first | rfl | (simp only [fnd, if_neg c_9, if_pos c_38, if_pos c_43]; done) | (simp only [fnd, c_9, c_38, if_pos c_43, Bool.false_eq_true, Bool.true_eq_false, and_true, true_and, false_and, and_false, and_self, not_true_eq_false, not_false_eq_true, if_true, if_false, reduceIte, or_false, false_or, true_or, or_true]; done)))
      · skip
        exact absurd c_43 (by decide)
  · skip
    refine lv_iload_n hx hb dX5_set_12 rfl (lv_at hl 3 rfl) ?_
    refine lv_i2l (v := (v).toInt64) hx hb dX5_set_13 rfl ?_
    refine lv_lconst (v := 0) hx hb dX5_set_14 (by decide) ?_
    refine lv_iload_n hx hb dX5_set_15 rfl (lv_at hl 2 rfl) ?_
    refine sq_S S (c_X5_mostOf) gX5_set_X5_mostOf i_X5_mostOf ⟨Nat.le_of_ble_eq_true rfl, Nat.le_of_ble_eq_true rfl⟩ rfl hl.1 (As := [.int (o)]) (rest := [.long (0), .long ((v).toInt64)]) (st1 := [.int (mostF (o)), .long (0), .long ((v).toInt64)]) rfl rfl (Nat.le_of_ble_eq_true rfl) ⟨Nat.le_of_ble_eq_true rfl, Nat.le_of_ble_eq_true rfl⟩ dX5_set_16 ?_
    refine lv_i2l (v := (mostF (o)).toInt64) hx hb dX5_set_19 rfl ?_
    refine sq_S S (c_X5_inY) gX5_set_X5_in i_X5_in ⟨Nat.le_of_ble_eq_true rfl, Nat.le_of_ble_eq_true rfl⟩ rfl hl.1 (As := [.long ((v).toInt64), .long (0), .long ((mostF (o)).toInt64)]) (rest := []) (st1 := [.int (z (rg 0 ((mostF (o)).toInt64).toInt (v)))]) rfl rfl (Nat.le_of_ble_eq_true rfl) ⟨Nat.le_of_ble_eq_true rfl, Nat.le_of_ble_eq_true rfl⟩ dX5_set_20 ?_
    refine lvz_if_eq (tgt := 30) hx hb dX5_set_23 (by decide) (fun c_23 => ?_) (fun c_23 => ?_)
    · skip
      refine lv_iconst (v := nI 0) hx hb dX5_set_30 (by decide) ?_
      refine lv_istore (lv' := [(4, .int (nI 0)), (0, .ref (ad 0)), (1, .int (q)), (2, .int (o)), (3, .int (v))]) hx hb dX5_set_31 hl (by decide) rfl (fun ls hl => ?_)
      refine lv_aload_n hx hb dX5_set_33 rfl (lv_at hl 1 rfl) ?_
      refine lv_iload_n hx hb dX5_set_34 rfl (lv_at hl 2 rfl) ?_
      refine wq_V S mK_ok hK hP hS (c_X5_isWalker hN h8) gX5_set_X5_isWalker i_X5_isWalker rfl (m_rec hK hP) ⟨Nat.le_of_ble_eq_true rfl, Nat.le_of_ble_eq_true rfl⟩ rfl hl.1 (As := [.int (q)]) (rest := []) (st1 := [.int (z (isN N (q)))]) rfl rfl (Nat.le_of_ble_eq_true rfl) ⟨Nat.le_of_ble_eq_true rfl, Nat.le_of_ble_eq_true rfl⟩ dX5_set_35 (fun H locs hP hS => ?_)
      refine lvz_if_eq (tgt := 59) hx hb dX5_set_38 (by decide) (fun c_38 => ?_) (fun c_38 => ?_)
      · skip
        refine lv_aload_n hx hb dX5_set_59 rfl (lv_at hl 1 rfl) ?_
        refine lv_ldc (v := (-1000000001)) hx hb hown (hts (.constant RX5 41 ((-1000000001))) (by decide +kernel)) dX5_set_60 ?_
        refine wq_V S mK_ok hK hP hS (c_X5_finds (t := 0) (by decide)) gX5_set_X5_finds i_X5_finds rfl (m_rec hK hP) ⟨Nat.le_of_ble_eq_true rfl, Nat.le_of_ble_eq_true rfl⟩ rfl hl.1 (As := [.int ((-1000000001))]) (rest := []) (st1 := [.int ((-1000000001))]) rfl rfl (Nat.le_of_ble_eq_true rfl) ⟨Nat.le_of_ble_eq_true rfl, Nat.le_of_ble_eq_true rfl⟩ dX5_set_62 (fun H locs hP hS => ?_)
        subst hQ
        exact mp_ri hx hb hr hlocks hP hS dX5_set_65 (by first | rfl | (simp only [fnd, if_pos c_9, if_neg c_23, if_neg c_38]; done) | (simp only [fnd, c_9, c_23, c_38, Bool.false_eq_true, Bool.true_eq_false, and_true, true_and, false_and, and_false, and_self, not_true_eq_false, not_false_eq_true, if_true, if_false, reduceIte, or_false, false_or, true_or, or_true]; done) | (subst_vars; first | rfl | (simp only [fnd, if_pos c_9, if_neg c_23, if_neg c_38]; done) | (simp only [fnd, c_9, c_23, c_38, Bool.false_eq_true, Bool.true_eq_false, and_true, true_and, false_and, and_false, and_self, not_true_eq_false, not_false_eq_true, if_true, if_false, reduceIte, or_false, false_or, true_or, or_true]; done))) (by first | rfl | (simp only [fnd, if_pos c_9, if_neg c_23, if_neg c_38]; done) | (simp only [fnd, c_9, c_23, c_38, Bool.false_eq_true, Bool.true_eq_false, and_true, true_and, false_and, and_false, and_self, not_true_eq_false, not_false_eq_true, if_true, if_false, reduceIte, or_false, false_or, true_or, or_true]; done) | (subst_vars; first | rfl | (simp only [fnd, if_pos c_9, if_neg c_23, if_neg c_38]; done) | (simp only [fnd, c_9, c_23, c_38, Bool.false_eq_true, Bool.true_eq_false, and_true, true_and, false_and, and_false, and_self, not_true_eq_false, not_false_eq_true, if_true, if_false, reduceIte, or_false, false_or, true_or, or_true]; done)))
      · skip
        refine lv_iload hx hb dX5_set_41 (lv_at hl 0 rfl) ?_
        refine lv_if_eq (tgt := 59) hx hb dX5_set_43 (by decide) (fun c_43 => ?_) (fun c_43 => ?_)
        · skip
          refine lv_aload_n hx hb dX5_set_59 rfl (lv_at hl 1 rfl) ?_
          refine lv_ldc (v := (-1000000001)) hx hb hown (hts (.constant RX5 41 ((-1000000001))) (by decide +kernel)) dX5_set_60 ?_
          refine wq_V S mK_ok hK hP hS (c_X5_finds (t := 0) (by decide)) gX5_set_X5_finds i_X5_finds rfl (m_rec hK hP) ⟨Nat.le_of_ble_eq_true rfl, Nat.le_of_ble_eq_true rfl⟩ rfl hl.1 (As := [.int ((-1000000001))]) (rest := []) (st1 := [.int ((-1000000001))]) rfl rfl (Nat.le_of_ble_eq_true rfl) ⟨Nat.le_of_ble_eq_true rfl, Nat.le_of_ble_eq_true rfl⟩ dX5_set_62 (fun H locs hP hS => ?_)
          subst hQ
          exact mp_ri hx hb hr hlocks hP hS dX5_set_65 (by first | rfl | (simp only [fnd, if_pos c_9, if_neg c_23, if_pos c_38, if_pos c_43]; done) | (simp only [fnd, c_9, c_23, c_38, if_pos c_43, Bool.false_eq_true, Bool.true_eq_false, and_true, true_and, false_and, and_false, and_self, not_true_eq_false, not_false_eq_true, if_true, if_false, reduceIte, or_false, false_or, true_or, or_true]; done) | (subst_vars; first | rfl | (simp only [fnd, if_pos c_9, if_neg c_23, if_pos c_38, if_pos c_43]; done) | (simp only [fnd, c_9, c_23, c_38, if_pos c_43, Bool.false_eq_true, Bool.true_eq_false, and_true, true_and, false_and, and_false, and_self, not_true_eq_false, not_false_eq_true, if_true, if_false, reduceIte, or_false, false_or, true_or, or_true]; done))) (by first | rfl | (simp only [fnd, if_pos c_9, if_neg c_23, if_pos c_38, if_pos c_43]; done) | (simp only [fnd, c_9, c_23, c_38, if_pos c_43, Bool.false_eq_true, Bool.true_eq_false, and_true, true_and, false_and, and_false, and_self, not_true_eq_false, not_false_eq_true, if_true, if_false, reduceIte, or_false, false_or, true_or, or_true]; done) | (subst_vars; first | rfl | (simp only [fnd, if_pos c_9, if_neg c_23, if_pos c_38, if_pos c_43]; done) | (simp only [fnd, c_9, c_23, c_38, if_pos c_43, Bool.false_eq_true, Bool.true_eq_false, and_true, true_and, false_and, and_false, and_self, not_true_eq_false, not_false_eq_true, if_true, if_false, reduceIte, or_false, false_or, true_or, or_true]; done)))
        · skip
          exact absurd c_43 (by decide)
    · skip
      refine lv_iconst (v := nI 1) hx hb dX5_set_26 (by decide) ?_
      refine lv_goto (tgt := 31) hx hb dX5_set_27 (by decide) ?_
      refine lv_istore (lv' := [(4, .int (nI 1)), (0, .ref (ad 0)), (1, .int (q)), (2, .int (o)), (3, .int (v))]) hx hb dX5_set_31 hl (by decide) rfl (fun ls hl => ?_)
      refine lv_aload_n hx hb dX5_set_33 rfl (lv_at hl 1 rfl) ?_
      refine lv_iload_n hx hb dX5_set_34 rfl (lv_at hl 2 rfl) ?_
      refine wq_V S mK_ok hK hP hS (c_X5_isWalker hN h8) gX5_set_X5_isWalker i_X5_isWalker rfl (m_rec hK hP) ⟨Nat.le_of_ble_eq_true rfl, Nat.le_of_ble_eq_true rfl⟩ rfl hl.1 (As := [.int (q)]) (rest := []) (st1 := [.int (z (isN N (q)))]) rfl rfl (Nat.le_of_ble_eq_true rfl) ⟨Nat.le_of_ble_eq_true rfl, Nat.le_of_ble_eq_true rfl⟩ dX5_set_35 (fun H locs hP hS => ?_)
      refine lvz_if_eq (tgt := 59) hx hb dX5_set_38 (by decide) (fun c_38 => ?_) (fun c_38 => ?_)
      · skip
        refine lv_aload_n hx hb dX5_set_59 rfl (lv_at hl 1 rfl) ?_
        refine lv_ldc (v := (-1000000001)) hx hb hown (hts (.constant RX5 41 ((-1000000001))) (by decide +kernel)) dX5_set_60 ?_
        refine wq_V S mK_ok hK hP hS (c_X5_finds (t := 0) (by decide)) gX5_set_X5_finds i_X5_finds rfl (m_rec hK hP) ⟨Nat.le_of_ble_eq_true rfl, Nat.le_of_ble_eq_true rfl⟩ rfl hl.1 (As := [.int ((-1000000001))]) (rest := []) (st1 := [.int ((-1000000001))]) rfl rfl (Nat.le_of_ble_eq_true rfl) ⟨Nat.le_of_ble_eq_true rfl, Nat.le_of_ble_eq_true rfl⟩ dX5_set_62 (fun H locs hP hS => ?_)
        subst hQ
        exact mp_ri hx hb hr hlocks hP hS dX5_set_65 (by first | rfl | (simp only [fnd, if_pos c_9, if_pos c_23, if_neg c_38]; done) | (simp only [fnd, c_9, c_23, c_38, Bool.false_eq_true, Bool.true_eq_false, and_true, true_and, false_and, and_false, and_self, not_true_eq_false, not_false_eq_true, if_true, if_false, reduceIte, or_false, false_or, true_or, or_true]; done) | (subst_vars; first | rfl | (simp only [fnd, if_pos c_9, if_pos c_23, if_neg c_38]; done) | (simp only [fnd, c_9, c_23, c_38, Bool.false_eq_true, Bool.true_eq_false, and_true, true_and, false_and, and_false, and_self, not_true_eq_false, not_false_eq_true, if_true, if_false, reduceIte, or_false, false_or, true_or, or_true]; done))) (by first | rfl | (simp only [fnd, if_pos c_9, if_pos c_23, if_neg c_38]; done) | (simp only [fnd, c_9, c_23, c_38, Bool.false_eq_true, Bool.true_eq_false, and_true, true_and, false_and, and_false, and_self, not_true_eq_false, not_false_eq_true, if_true, if_false, reduceIte, or_false, false_or, true_or, or_true]; done) | (subst_vars; first | rfl | (simp only [fnd, if_pos c_9, if_pos c_23, if_neg c_38]; done) | (simp only [fnd, c_9, c_23, c_38, Bool.false_eq_true, Bool.true_eq_false, and_true, true_and, false_and, and_false, and_self, not_true_eq_false, not_false_eq_true, if_true, if_false, reduceIte, or_false, false_or, true_or, or_true]; done)))
      · skip
        refine lv_iload hx hb dX5_set_41 (lv_at hl 0 rfl) ?_
        refine lv_if_eq (tgt := 59) hx hb dX5_set_43 (by decide) (fun c_43 => ?_) (fun c_43 => ?_)
        · skip
          exact absurd c_43 (by decide)
        · skip
          obtain ⟨i, h_i, rfl⟩ := isN_ix h8 c_38
          have hcl_i : (nI i).toNatClampNeg = i := nI_clamp (by omega)
          obtain ⟨k, h_k, h_k2, rfl⟩ := rg_ix (a := 1) (b := 7) (by decide) c_9
          have hcl_k : (nI k).toNatClampNeg = k := nI_clamp (by omega)
          refine lv_aload_n hx hb dX5_set_46 rfl (lv_at hl 1 rfl) ?_
          refine lv_iload_n hx hb dX5_set_47 rfl (lv_at hl 2 rfl) ?_
          refine lv_iload_n hx hb dX5_set_48 rfl (lv_at hl 3 rfl) ?_
          refine sq_S S (c_X5_spotOf) gX5_set_X5_spotOf i_X5_spotOf ⟨Nat.le_of_ble_eq_true rfl, Nat.le_of_ble_eq_true rfl⟩ rfl hl.1 (As := [.int (nI i), .int (nI k)]) (rest := [.ref (ad 0)]) (st1 := [.int (nI (5 + 8 * i + k)), .ref (ad 0)]) rfl rfl (Nat.le_of_ble_eq_true rfl) ⟨Nat.le_of_ble_eq_true rfl, Nat.le_of_ble_eq_true rfl⟩ dX5_set_49 ?_
          refine lv_iload_n hx hb dX5_set_52 rfl (lv_at hl 4 rfl) ?_
          refine wq_V S mK_ok hK hP hS (c_X5_becomes (by omega)) gX5_set_X5_becomes i_X5_becomes rfl (m_rec hK hP) ⟨Nat.le_of_ble_eq_true rfl, Nat.le_of_ble_eq_true rfl⟩ rfl hl.1 (As := [.int (nI (5 + 8 * i + k)), .int (v)]) (rest := []) (st1 := [.int (sr (5 + 8 * i + k))]) rfl rfl (Nat.le_of_ble_eq_true rfl) ⟨Nat.le_of_ble_eq_true rfl, Nat.le_of_ble_eq_true rfl⟩ dX5_set_53 (fun H locs hP hS => ?_)
          refine lv_goto (tgt := 65) hx hb dX5_set_56 (by decide) ?_
          subst hQ
          exact mp_ri hx hb hr hlocks hP hS dX5_set_65 (by first | rfl | (simp only [fnd, if_pos c_9, if_pos c_23, if_pos c_38, if_neg c_43]; done) | (simp only [fnd, hcl_i, hcl_k, c_9, c_23, c_38, if_neg c_43, Bool.false_eq_true, Bool.true_eq_false, and_true, true_and, false_and, and_false, and_self, not_true_eq_false, not_false_eq_true, if_true, if_false, reduceIte, or_false, false_or, true_or, or_true]; done) | (subst_vars; first | rfl | (simp only [fnd, if_pos c_9, if_pos c_23, if_pos c_38, if_neg c_43]; done) | (simp only [fnd, hcl_i, hcl_k, c_9, c_23, c_38, if_neg c_43, Bool.false_eq_true, Bool.true_eq_false, and_true, true_and, false_and, and_false, and_self, not_true_eq_false, not_false_eq_true, if_true, if_false, reduceIte, or_false, false_or, true_or, or_true]; done))) (by first | rfl | (simp only [fnd, if_pos c_9, if_pos c_23, if_pos c_38, if_neg c_43]; done) | (simp only [fnd, hcl_i, hcl_k, c_9, c_23, c_38, if_neg c_43, Bool.false_eq_true, Bool.true_eq_false, and_true, true_and, false_and, and_false, and_self, not_true_eq_false, not_false_eq_true, if_true, if_false, reduceIte, or_false, false_or, true_or, or_true]; done) | (subst_vars; first | rfl | (simp only [fnd, if_pos c_9, if_pos c_23, if_pos c_38, if_neg c_43]; done) | (simp only [fnd, hcl_i, hcl_k, c_9, c_23, c_38, if_neg c_43, Bool.false_eq_true, Bool.true_eq_false, and_true, true_and, false_and, and_false, and_self, not_true_eq_false, not_false_eq_true, if_true, if_false, reduceIte, or_false, false_or, true_or, or_true]; done)))
theorem i_X5_set : ciOk yX5_set cX5_set 5 (some .int) wsX5_set 3 := ⟨⟨_, rfl⟩, by decide +kernel⟩
set_option maxHeartbeats 4000000 in
set_option maxRecDepth 100000 in
theorem c_X5_turn {l : Launch} {D : va_G} {cy : Nat → ClassId} {ad : Nat → Nat} {sr kS ot asd stt : Nat → Int32} {ik : Int32} {tp : Nat → Int32} {td fr tt vl wr : Int32} {bo so : Nat → Int32} {nu mv : Nat → Int64} {q : Int32} {o : Int32} {N : Nat} (hN : sr 0 = nI N) (h8 : N ≤ 8) : Met l yX5_turn wsX5_turn (rmz 2 46) (wPre D (mK D cy ad) (mw cy ad sr kS ot asd stt ik tp td fr tt vl wr bo so nu mv) [.ref (ad 0), .int (q), .int (o)]) (mPub D cy ad (some (.int (if isN N q ∧ rg 0 5 o then sr (5 + 8 * q.toNatClampNeg + 0) else -1000000001))) (if isN N q ∧ rg 0 5 o then upd sr (5 + 8 * q.toNatClampNeg + 0) o else sr) kS (if isN N q ∧ rg 0 5 o then stt else fnd stt 0) ik tp td bo so nu) 0 0 (mA ad) := by
  refine wq_entry rfl rfl (Nat.le_of_ble_eq_true rfl) ?_
  intro p e s0 m args below meth c S hr hlocks hK hP ls hl
  have S : CallFix p m c cX5_turn 3 s0 args wsX5_turn RX5 := S
  obtain ⟨hx, hb, hml, hown, hts⟩ := id S
  have hin : ∀ w ∈ wsX50, w ∈ wsX5_turn := fun w h => List.mem_cons_of_mem _ (List.mem_append_right _ h)
  have hS : va_S (mA ad) s0.heap s0.heap [] := va_S.rf
  have hl : lv_has ls 3 [(0, .ref (ad 0)), (1, .int (q)), (2, .int (o))] := hl
  generalize hQ : MQ below (mPub D cy ad (some (.int (if isN N q ∧ rg 0 5 o then sr (5 + 8 * q.toNatClampNeg + 0) else -1000000001))) (if isN N q ∧ rg 0 5 o then upd sr (5 + 8 * q.toNatClampNeg + 0) o else sr) kS (if isN N q ∧ rg 0 5 o then stt else fnd stt 0) ik tp td bo so nu) args s0 0 0 (mA ad) = Q
  refine lv_aload_n hx hb dX5_turn_0 rfl (lv_at hl 0 rfl) ?_
  refine lv_iload_n hx hb dX5_turn_1 rfl (lv_at hl 1 rfl) ?_
  refine wq_V S mK_ok hK hP hS (c_X5_isWalker hN h8) gX5_turn_X5_isWalker i_X5_isWalker rfl (m_rec hK hP) ⟨Nat.le_of_ble_eq_true rfl, Nat.le_of_ble_eq_true rfl⟩ rfl hl.1 (As := [.int (q)]) (rest := []) (st1 := [.int (z (isN N (q)))]) rfl rfl (Nat.le_of_ble_eq_true rfl) ⟨Nat.le_of_ble_eq_true rfl, Nat.le_of_ble_eq_true rfl⟩ dX5_turn_2 (fun H locs hP hS => ?_)
  refine lvz_if_eq (tgt := 28) hx hb dX5_turn_5 (by decide) (fun c_5 => ?_) (fun c_5 => ?_)
  · skip
    refine lv_aload_n hx hb dX5_turn_28 rfl (lv_at hl 0 rfl) ?_
    refine lv_ldc (v := (-1000000001)) hx hb hown (hts (.constant RX5 41 ((-1000000001))) (by decide +kernel)) dX5_turn_29 ?_
    refine wq_V S mK_ok hK hP hS (c_X5_finds (t := 0) (by decide)) gX5_turn_X5_finds i_X5_finds rfl (m_rec hK hP) ⟨Nat.le_of_ble_eq_true rfl, Nat.le_of_ble_eq_true rfl⟩ rfl hl.1 (As := [.int ((-1000000001))]) (rest := []) (st1 := [.int ((-1000000001))]) rfl rfl (Nat.le_of_ble_eq_true rfl) ⟨Nat.le_of_ble_eq_true rfl, Nat.le_of_ble_eq_true rfl⟩ dX5_turn_31 (fun H locs hP hS => ?_)
    subst hQ
    exact mp_ri hx hb hr hlocks hP hS dX5_turn_34 (by first | rfl | (simp only [fnd, if_neg c_5]; done) | (simp only [fnd, c_5, Bool.false_eq_true, Bool.true_eq_false, and_true, true_and, false_and, and_false, and_self, not_true_eq_false, not_false_eq_true, if_true, if_false, reduceIte, or_false, false_or, true_or, or_true]; done) | (subst_vars; first | rfl | (simp only [fnd, if_neg c_5]; done) | (simp only [fnd, c_5, Bool.false_eq_true, Bool.true_eq_false, and_true, true_and, false_and, and_false, and_self, not_true_eq_false, not_false_eq_true, if_true, if_false, reduceIte, or_false, false_or, true_or, or_true]; done))) (by first | rfl | (simp only [fnd, if_neg c_5]; done) | (simp only [fnd, c_5, Bool.false_eq_true, Bool.true_eq_false, and_true, true_and, false_and, and_false, and_self, not_true_eq_false, not_false_eq_true, if_true, if_false, reduceIte, or_false, false_or, true_or, or_true]; done) | (subst_vars; first | rfl | (simp only [fnd, if_neg c_5]; done) | (simp only [fnd, c_5, Bool.false_eq_true, Bool.true_eq_false, and_true, true_and, false_and, and_false, and_self, not_true_eq_false, not_false_eq_true, if_true, if_false, reduceIte, or_false, false_or, true_or, or_true]; done)))
  · skip
    refine lv_iload_n hx hb dX5_turn_8 rfl (lv_at hl 2 rfl) ?_
    refine sq_S S (c_X5_isKind) gX5_turn_X5_isKind i_X5_isKind ⟨Nat.le_of_ble_eq_true rfl, Nat.le_of_ble_eq_true rfl⟩ rfl hl.1 (As := [.int (o)]) (rest := []) (st1 := [.int (z (rg 0 5 (o)))]) rfl rfl (Nat.le_of_ble_eq_true rfl) ⟨Nat.le_of_ble_eq_true rfl, Nat.le_of_ble_eq_true rfl⟩ dX5_turn_9 ?_
    refine lvz_if_eq (tgt := 28) hx hb dX5_turn_12 (by decide) (fun c_12 => ?_) (fun c_12 => ?_)
    · skip
      refine lv_aload_n hx hb dX5_turn_28 rfl (lv_at hl 0 rfl) ?_
      refine lv_ldc (v := (-1000000001)) hx hb hown (hts (.constant RX5 41 ((-1000000001))) (by decide +kernel)) dX5_turn_29 ?_
      refine wq_V S mK_ok hK hP hS (c_X5_finds (t := 0) (by decide)) gX5_turn_X5_finds i_X5_finds rfl (m_rec hK hP) ⟨Nat.le_of_ble_eq_true rfl, Nat.le_of_ble_eq_true rfl⟩ rfl hl.1 (As := [.int ((-1000000001))]) (rest := []) (st1 := [.int ((-1000000001))]) rfl rfl (Nat.le_of_ble_eq_true rfl) ⟨Nat.le_of_ble_eq_true rfl, Nat.le_of_ble_eq_true rfl⟩ dX5_turn_31 (fun H locs hP hS => ?_)
      subst hQ
      exact mp_ri hx hb hr hlocks hP hS dX5_turn_34 (by first | rfl | (simp only [fnd, if_pos c_5, if_neg c_12]; done) | (simp only [fnd, c_5, c_12, Bool.false_eq_true, Bool.true_eq_false, and_true, true_and, false_and, and_false, and_self, not_true_eq_false, not_false_eq_true, if_true, if_false, reduceIte, or_false, false_or, true_or, or_true]; done) | (subst_vars; first | rfl | (simp only [fnd, if_pos c_5, if_neg c_12]; done) | (simp only [fnd, c_5, c_12, Bool.false_eq_true, Bool.true_eq_false, and_true, true_and, false_and, and_false, and_self, not_true_eq_false, not_false_eq_true, if_true, if_false, reduceIte, or_false, false_or, true_or, or_true]; done))) (by first | rfl | (simp only [fnd, if_pos c_5, if_neg c_12]; done) | (simp only [fnd, c_5, c_12, Bool.false_eq_true, Bool.true_eq_false, and_true, true_and, false_and, and_false, and_self, not_true_eq_false, not_false_eq_true, if_true, if_false, reduceIte, or_false, false_or, true_or, or_true]; done) | (subst_vars; first | rfl | (simp only [fnd, if_pos c_5, if_neg c_12]; done) | (simp only [fnd, c_5, c_12, Bool.false_eq_true, Bool.true_eq_false, and_true, true_and, false_and, and_false, and_self, not_true_eq_false, not_false_eq_true, if_true, if_false, reduceIte, or_false, false_or, true_or, or_true]; done)))
    · skip
      obtain ⟨i, h_i, rfl⟩ := isN_ix h8 c_5
      have hcl_i : (nI i).toNatClampNeg = i := nI_clamp (by omega)
      refine lv_aload_n hx hb dX5_turn_15 rfl (lv_at hl 0 rfl) ?_
      refine lv_iload_n hx hb dX5_turn_16 rfl (lv_at hl 1 rfl) ?_
      refine lv_iconst (v := nI 0) hx hb dX5_turn_17 (by decide) ?_
      refine sq_S S (c_X5_spotOf) gX5_turn_X5_spotOf i_X5_spotOf ⟨Nat.le_of_ble_eq_true rfl, Nat.le_of_ble_eq_true rfl⟩ rfl hl.1 (As := [.int (nI i), .int (nI 0)]) (rest := [.ref (ad 0)]) (st1 := [.int (nI (5 + 8 * i + 0)), .ref (ad 0)]) rfl rfl (Nat.le_of_ble_eq_true rfl) ⟨Nat.le_of_ble_eq_true rfl, Nat.le_of_ble_eq_true rfl⟩ dX5_turn_18 ?_
      refine lv_iload_n hx hb dX5_turn_21 rfl (lv_at hl 2 rfl) ?_
      refine wq_V S mK_ok hK hP hS (c_X5_becomes (by omega)) gX5_turn_X5_becomes i_X5_becomes rfl (m_rec hK hP) ⟨Nat.le_of_ble_eq_true rfl, Nat.le_of_ble_eq_true rfl⟩ rfl hl.1 (As := [.int (nI (5 + 8 * i + 0)), .int (o)]) (rest := []) (st1 := [.int (sr (5 + 8 * i + 0))]) rfl rfl (Nat.le_of_ble_eq_true rfl) ⟨Nat.le_of_ble_eq_true rfl, Nat.le_of_ble_eq_true rfl⟩ dX5_turn_22 (fun H locs hP hS => ?_)
      refine lv_goto (tgt := 34) hx hb dX5_turn_25 (by decide) ?_
      subst hQ
      exact mp_ri hx hb hr hlocks hP hS dX5_turn_34 (by first | rfl | (simp only [fnd, if_pos c_5, if_pos c_12]; done) | (simp only [fnd, hcl_i, c_5, c_12, Bool.false_eq_true, Bool.true_eq_false, and_true, true_and, false_and, and_false, and_self, not_true_eq_false, not_false_eq_true, if_true, if_false, reduceIte, or_false, false_or, true_or, or_true]; done) | (subst_vars; first | rfl | (simp only [fnd, if_pos c_5, if_pos c_12]; done) | (simp only [fnd, hcl_i, c_5, c_12, Bool.false_eq_true, Bool.true_eq_false, and_true, true_and, false_and, and_false, and_self, not_true_eq_false, not_false_eq_true, if_true, if_false, reduceIte, or_false, false_or, true_or, or_true]; done))) (by first | rfl | (simp only [fnd, if_pos c_5, if_pos c_12]; done) | (simp only [fnd, hcl_i, c_5, c_12, Bool.false_eq_true, Bool.true_eq_false, and_true, true_and, false_and, and_false, and_self, not_true_eq_false, not_false_eq_true, if_true, if_false, reduceIte, or_false, false_or, true_or, or_true]; done) | (subst_vars; first | rfl | (simp only [fnd, if_pos c_5, if_pos c_12]; done) | (simp only [fnd, hcl_i, c_5, c_12, Bool.false_eq_true, Bool.true_eq_false, and_true, true_and, false_and, and_false, and_self, not_true_eq_false, not_false_eq_true, if_true, if_false, reduceIte, or_false, false_or, true_or, or_true]; done)))
theorem i_X5_turn : ciOk yX5_turn cX5_turn 3 (some .int) wsX5_turn 2 := ⟨⟨_, rfl⟩, by decide +kernel⟩
set_option maxHeartbeats 4000000 in
set_option maxRecDepth 100000 in
theorem c_X5_as {l : Launch} {D : va_G} {cy : Nat → ClassId} {ad : Nat → Nat} {sr kS ot asd stt : Nat → Int32} {ik : Int32} {tp : Nat → Int32} {td fr tt vl wr : Int32} {bo so : Nat → Int32} {nu mv : Nat → Int64} {q : Int32} {o : Int32} {N : Nat} (hN : sr 0 = nI N) (h8 : N ≤ 8) : Met l yX5_as wsX5_as (rmz 2 46) (wPre D (mK D cy ad) (mw cy ad sr kS ot asd stt ik tp td fr tt vl wr bo so nu mv) [.ref (ad 0), .int (q), .int (o)]) (mPub D cy ad (some (.int (if isN N q ∧ rg 0 5 o then (if undP (sr (5 + 8 * q.toNatClampNeg + 0)) o then sr (5 + 8 * q.toNatClampNeg + 3) else -1000000003) else -1000000001))) sr kS (if isN N q ∧ rg 0 5 o then (if undP (sr (5 + 8 * q.toNatClampNeg + 0)) o then stt else fnd stt 2) else fnd stt 0) ik tp td bo so nu) 0 0 (mA ad) := by
  refine wq_entry rfl rfl (Nat.le_of_ble_eq_true rfl) ?_
  intro p e s0 m args below meth c S hr hlocks hK hP ls hl
  have S : CallFix p m c cX5_as 3 s0 args wsX5_as RX5 := S
  obtain ⟨hx, hb, hml, hown, hts⟩ := id S
  have hin : ∀ w ∈ wsX50, w ∈ wsX5_as := fun w h => List.mem_cons_of_mem _ (List.mem_append_right _ h)
  have hS : va_S (mA ad) s0.heap s0.heap [] := va_S.rf
  have hl : lv_has ls 3 [(0, .ref (ad 0)), (1, .int (q)), (2, .int (o))] := hl
  generalize hQ : MQ below (mPub D cy ad (some (.int (if isN N q ∧ rg 0 5 o then (if undP (sr (5 + 8 * q.toNatClampNeg + 0)) o then sr (5 + 8 * q.toNatClampNeg + 3) else -1000000003) else -1000000001))) sr kS (if isN N q ∧ rg 0 5 o then (if undP (sr (5 + 8 * q.toNatClampNeg + 0)) o then stt else fnd stt 2) else fnd stt 0) ik tp td bo so nu) args s0 0 0 (mA ad) = Q
  refine lv_aload_n hx hb dX5_as_0 rfl (lv_at hl 0 rfl) ?_
  refine lv_iload_n hx hb dX5_as_1 rfl (lv_at hl 1 rfl) ?_
  refine wq_V S mK_ok hK hP hS (c_X5_isWalker hN h8) gX5_as_X5_isWalker i_X5_isWalker rfl (m_rec hK hP) ⟨Nat.le_of_ble_eq_true rfl, Nat.le_of_ble_eq_true rfl⟩ rfl hl.1 (As := [.int (q)]) (rest := []) (st1 := [.int (z (isN N (q)))]) rfl rfl (Nat.le_of_ble_eq_true rfl) ⟨Nat.le_of_ble_eq_true rfl, Nat.le_of_ble_eq_true rfl⟩ dX5_as_2 (fun H locs hP hS => ?_)
  refine lvz_if_eq (tgt := 15) hx hb dX5_as_5 (by decide) (fun c_5 => ?_) (fun c_5 => ?_)
  · skip
    refine lv_aload_n hx hb dX5_as_15 rfl (lv_at hl 0 rfl) ?_
    refine lv_ldc (v := (-1000000001)) hx hb hown (hts (.constant RX5 41 ((-1000000001))) (by decide +kernel)) dX5_as_16 ?_
    refine wq_V S mK_ok hK hP hS (c_X5_finds (t := 0) (by decide)) gX5_as_X5_finds i_X5_finds rfl (m_rec hK hP) ⟨Nat.le_of_ble_eq_true rfl, Nat.le_of_ble_eq_true rfl⟩ rfl hl.1 (As := [.int ((-1000000001))]) (rest := []) (st1 := [.int ((-1000000001))]) rfl rfl (Nat.le_of_ble_eq_true rfl) ⟨Nat.le_of_ble_eq_true rfl, Nat.le_of_ble_eq_true rfl⟩ dX5_as_18 (fun H locs hP hS => ?_)
    subst hQ
    exact mp_ri hx hb hr hlocks hP hS dX5_as_21 (by first | rfl | (simp only [fnd, if_neg c_5]; done) | (simp only [fnd, c_5, Bool.false_eq_true, Bool.true_eq_false, and_true, true_and, false_and, and_false, and_self, not_true_eq_false, not_false_eq_true, if_true, if_false, reduceIte, or_false, false_or, true_or, or_true]; done) | (subst_vars; first | rfl | (simp only [fnd, if_neg c_5]; done) | (simp only [fnd, c_5, Bool.false_eq_true, Bool.true_eq_false, and_true, true_and, false_and, and_false, and_self, not_true_eq_false, not_false_eq_true, if_true, if_false, reduceIte, or_false, false_or, true_or, or_true]; done))) (by first | rfl | (simp only [fnd, if_neg c_5]; done) | (simp only [fnd, c_5, Bool.false_eq_true, Bool.true_eq_false, and_true, true_and, false_and, and_false, and_self, not_true_eq_false, not_false_eq_true, if_true, if_false, reduceIte, or_false, false_or, true_or, or_true]; done) | (subst_vars; first | rfl | (simp only [fnd, if_neg c_5]; done) | (simp only [fnd, c_5, Bool.false_eq_true, Bool.true_eq_false, and_true, true_and, false_and, and_false, and_self, not_true_eq_false, not_false_eq_true, if_true, if_false, reduceIte, or_false, false_or, true_or, or_true]; done)))
  · skip
    refine lv_iload_n hx hb dX5_as_8 rfl (lv_at hl 2 rfl) ?_
    refine sq_S S (c_X5_isKind) gX5_as_X5_isKind i_X5_isKind ⟨Nat.le_of_ble_eq_true rfl, Nat.le_of_ble_eq_true rfl⟩ rfl hl.1 (As := [.int (o)]) (rest := []) (st1 := [.int (z (rg 0 5 (o)))]) rfl rfl (Nat.le_of_ble_eq_true rfl) ⟨Nat.le_of_ble_eq_true rfl, Nat.le_of_ble_eq_true rfl⟩ dX5_as_9 ?_
    refine lvz_if_ne (tgt := 22) hx hb dX5_as_12 (by decide) (fun c_12 => ?_) (fun c_12 => ?_)
    · skip
      obtain ⟨i, h_i, rfl⟩ := isN_ix h8 c_5
      have hcl_i : (nI i).toNatClampNeg = i := nI_clamp (by omega)
      refine lv_aload_n hx hb dX5_as_22 rfl (lv_at hl 0 rfl) ?_
      refine lv_iload_n hx hb dX5_as_23 rfl (lv_at hl 1 rfl) ?_
      refine lv_iconst (v := nI 0) hx hb dX5_as_24 (by decide) ?_
      refine wq_V S mK_ok hK hP hS (c_X5_its (by omega) (by omega)) gX5_as_X5_its i_X5_its rfl (m_rec hK hP) ⟨Nat.le_of_ble_eq_true rfl, Nat.le_of_ble_eq_true rfl⟩ rfl hl.1 (As := [.int (nI i), .int (nI 0)]) (rest := []) (st1 := [.int (sr (5 + 8 * i + 0))]) rfl rfl (Nat.le_of_ble_eq_true rfl) ⟨Nat.le_of_ble_eq_true rfl, Nat.le_of_ble_eq_true rfl⟩ dX5_as_25 (fun H locs hP hS => ?_)
      refine lv_iload_n hx hb dX5_as_28 rfl (lv_at hl 2 rfl) ?_
      refine sq_S S (c_X5_isUnder) gX5_as_X5_isUnder i_X5_isUnder ⟨Nat.le_of_ble_eq_true rfl, Nat.le_of_ble_eq_true rfl⟩ rfl hl.1 (As := [.int (sr (5 + 8 * i + 0)), .int (o)]) (rest := []) (st1 := [.int (z (undP (sr (5 + 8 * i + 0)) (o)))]) rfl rfl (Nat.le_of_ble_eq_true rfl) ⟨Nat.le_of_ble_eq_true rfl, Nat.le_of_ble_eq_true rfl⟩ dX5_as_29 ?_
      refine lvz_if_eq (tgt := 44) hx hb dX5_as_32 (by decide) (fun c_32 => ?_) (fun c_32 => ?_)
      · skip
        refine lv_aload_n hx hb dX5_as_44 rfl (lv_at hl 0 rfl) ?_
        refine lv_ldc (v := (-1000000003)) hx hb hown (hts (.constant RX5 105 ((-1000000003))) (by decide +kernel)) dX5_as_45 ?_
        refine wq_V S mK_ok hK hP hS (c_X5_finds (t := 2) (by decide)) gX5_as_X5_finds i_X5_finds rfl (m_rec hK hP) ⟨Nat.le_of_ble_eq_true rfl, Nat.le_of_ble_eq_true rfl⟩ rfl hl.1 (As := [.int ((-1000000003))]) (rest := []) (st1 := [.int ((-1000000003))]) rfl rfl (Nat.le_of_ble_eq_true rfl) ⟨Nat.le_of_ble_eq_true rfl, Nat.le_of_ble_eq_true rfl⟩ dX5_as_47 (fun H locs hP hS => ?_)
        subst hQ
        exact mp_ri hx hb hr hlocks hP hS dX5_as_50 (by first | rfl | (simp only [fnd, if_pos c_5, if_pos c_12, if_neg c_32]; done) | (simp only [fnd, hcl_i, c_5, c_12, c_32, Bool.false_eq_true, Bool.true_eq_false, and_true, true_and, false_and, and_false, and_self, not_true_eq_false, not_false_eq_true, if_true, if_false, reduceIte, or_false, false_or, true_or, or_true]; done) | (subst_vars; first | rfl | (simp only [fnd, if_pos c_5, if_pos c_12, if_neg c_32]; done) | (simp only [fnd, hcl_i, c_5, c_12, c_32, Bool.false_eq_true, Bool.true_eq_false, and_true, true_and, false_and, and_false, and_self, not_true_eq_false, not_false_eq_true, if_true, if_false, reduceIte, or_false, false_or, true_or, or_true]; done))) (by first | rfl | (simp only [fnd, if_pos c_5, if_pos c_12, if_neg c_32]; done) | (simp only [fnd, hcl_i, c_5, c_12, c_32, Bool.false_eq_true, Bool.true_eq_false, and_true, true_and, false_and, and_false, and_self, not_true_eq_false, not_false_eq_true, if_true, if_false, reduceIte, or_false, false_or, true_or, or_true]; done) | (subst_vars; first | rfl | (simp only [fnd, if_pos c_5, if_pos c_12, if_neg c_32]; done) | (simp only [fnd, hcl_i, c_5, c_12, c_32, Bool.false_eq_true, Bool.true_eq_false, and_true, true_and, false_and, and_false, and_self, not_true_eq_false, not_false_eq_true, if_true, if_false, reduceIte, or_false, false_or, true_or, or_true]; done)))
      · skip
        refine lv_aload_n hx hb dX5_as_35 rfl (lv_at hl 0 rfl) ?_
        refine lv_iload_n hx hb dX5_as_36 rfl (lv_at hl 1 rfl) ?_
        refine lv_iconst (v := nI 3) hx hb dX5_as_37 (by decide) ?_
        refine wq_V S mK_ok hK hP hS (c_X5_its (by omega) (by omega)) gX5_as_X5_its i_X5_its rfl (m_rec hK hP) ⟨Nat.le_of_ble_eq_true rfl, Nat.le_of_ble_eq_true rfl⟩ rfl hl.1 (As := [.int (nI i), .int (nI 3)]) (rest := []) (st1 := [.int (sr (5 + 8 * i + 3))]) rfl rfl (Nat.le_of_ble_eq_true rfl) ⟨Nat.le_of_ble_eq_true rfl, Nat.le_of_ble_eq_true rfl⟩ dX5_as_38 (fun H locs hP hS => ?_)
        refine lv_goto (tgt := 50) hx hb dX5_as_41 (by decide) ?_
        subst hQ
        exact mp_ri hx hb hr hlocks hP hS dX5_as_50 (by first | rfl | (simp only [fnd, if_pos c_5, if_pos c_12, if_pos c_32]; done) | (simp only [fnd, hcl_i, c_5, c_12, c_32, Bool.false_eq_true, Bool.true_eq_false, and_true, true_and, false_and, and_false, and_self, not_true_eq_false, not_false_eq_true, if_true, if_false, reduceIte, or_false, false_or, true_or, or_true]; done) | (subst_vars; first | rfl | (simp only [fnd, if_pos c_5, if_pos c_12, if_pos c_32]; done) | (simp only [fnd, hcl_i, c_5, c_12, c_32, Bool.false_eq_true, Bool.true_eq_false, and_true, true_and, false_and, and_false, and_self, not_true_eq_false, not_false_eq_true, if_true, if_false, reduceIte, or_false, false_or, true_or, or_true]; done))) (by first | rfl | (simp only [fnd, if_pos c_5, if_pos c_12, if_pos c_32]; done) | (simp only [fnd, hcl_i, c_5, c_12, c_32, Bool.false_eq_true, Bool.true_eq_false, and_true, true_and, false_and, and_false, and_self, not_true_eq_false, not_false_eq_true, if_true, if_false, reduceIte, or_false, false_or, true_or, or_true]; done) | (subst_vars; first | rfl | (simp only [fnd, if_pos c_5, if_pos c_12, if_pos c_32]; done) | (simp only [fnd, hcl_i, c_5, c_12, c_32, Bool.false_eq_true, Bool.true_eq_false, and_true, true_and, false_and, and_false, and_self, not_true_eq_false, not_false_eq_true, if_true, if_false, reduceIte, or_false, false_or, true_or, or_true]; done)))
    · skip
      refine lv_aload_n hx hb dX5_as_15 rfl (lv_at hl 0 rfl) ?_
      refine lv_ldc (v := (-1000000001)) hx hb hown (hts (.constant RX5 41 ((-1000000001))) (by decide +kernel)) dX5_as_16 ?_
      refine wq_V S mK_ok hK hP hS (c_X5_finds (t := 0) (by decide)) gX5_as_X5_finds i_X5_finds rfl (m_rec hK hP) ⟨Nat.le_of_ble_eq_true rfl, Nat.le_of_ble_eq_true rfl⟩ rfl hl.1 (As := [.int ((-1000000001))]) (rest := []) (st1 := [.int ((-1000000001))]) rfl rfl (Nat.le_of_ble_eq_true rfl) ⟨Nat.le_of_ble_eq_true rfl, Nat.le_of_ble_eq_true rfl⟩ dX5_as_18 (fun H locs hP hS => ?_)
      subst hQ
      exact mp_ri hx hb hr hlocks hP hS dX5_as_21 (by first | rfl | (simp only [fnd, if_pos c_5, if_neg c_12]; done) | (simp only [fnd, c_5, c_12, Bool.false_eq_true, Bool.true_eq_false, and_true, true_and, false_and, and_false, and_self, not_true_eq_false, not_false_eq_true, if_true, if_false, reduceIte, or_false, false_or, true_or, or_true]; done) | (subst_vars; first | rfl | (simp only [fnd, if_pos c_5, if_neg c_12]; done) | (simp only [fnd, c_5, c_12, Bool.false_eq_true, Bool.true_eq_false, and_true, true_and, false_and, and_false, and_self, not_true_eq_false, not_false_eq_true, if_true, if_false, reduceIte, or_false, false_or, true_or, or_true]; done))) (by first | rfl | (simp only [fnd, if_pos c_5, if_neg c_12]; done) | (simp only [fnd, c_5, c_12, Bool.false_eq_true, Bool.true_eq_false, and_true, true_and, false_and, and_false, and_self, not_true_eq_false, not_false_eq_true, if_true, if_false, reduceIte, or_false, false_or, true_or, or_true]; done) | (subst_vars; first | rfl | (simp only [fnd, if_pos c_5, if_neg c_12]; done) | (simp only [fnd, c_5, c_12, Bool.false_eq_true, Bool.true_eq_false, and_true, true_and, false_and, and_false, and_self, not_true_eq_false, not_false_eq_true, if_true, if_false, reduceIte, or_false, false_or, true_or, or_true]; done)))
theorem i_X5_as : ciOk yX5_as cX5_as 3 (some .int) wsX5_as 2 := ⟨⟨_, rfl⟩, by decide +kernel⟩
set_option maxHeartbeats 4000000 in
set_option maxRecDepth 100000 in
theorem c_X5_hours {l : Launch} {D : va_G} {cy : Nat → ClassId} {ad : Nat → Nat} {sr kS ot asd stt : Nat → Int32} {ik : Int32} {tp : Nat → Int32} {td fr tt vl wr : Int32} {bo so : Nat → Int32} {nu mv : Nat → Int64} {q : Int32} {N : Nat} (hN : sr 0 = nI N) (h8 : N ≤ 8) : Met l yX5_hours wsX5_hours (rmz 7 156) (wPre D (mK D cy ad) (mw cy ad sr kS ot asd stt ik tp td fr tt vl wr bo so nu mv) [.ref (ad 0), .int (q)]) (mPub D cy ad (some (.int (if rg 1 200 q then (if sr 1 + q ≤ nI 99999 then hrsF N q.toNatClampNeg sr 2 else -1000000005) else -1000000001))) (if rg 1 200 q then (if sr 1 + q ≤ nI 99999 then hrsF N q.toNatClampNeg sr else sr) else sr) kS (if rg 1 200 q then (if sr 1 + q ≤ nI 99999 then stt else fnd stt 4) else fnd stt 0) ik tp td bo so nu) 0 0 (mA ad) := by
  refine wq_entry rfl rfl (Nat.le_of_ble_eq_true rfl) ?_
  intro p e s0 m args below meth c S hr hlocks hK hP ls hl
  have S : CallFix p m c cX5_hours 2 s0 args wsX5_hours RX5 := S
  obtain ⟨hx, hb, hml, hown, hts⟩ := id S
  have hin : ∀ w ∈ wsX50, w ∈ wsX5_hours := fun w h => List.mem_cons_of_mem _ (List.mem_append_right _ h)
  have hS : va_S (mA ad) s0.heap s0.heap [] := va_S.rf
  have hl : lv_has ls 2 [(0, .ref (ad 0)), (1, .int (q))] := hl
  generalize hQ : MQ below (mPub D cy ad (some (.int (if rg 1 200 q then (if sr 1 + q ≤ nI 99999 then hrsF N q.toNatClampNeg sr 2 else -1000000005) else -1000000001))) (if rg 1 200 q then (if sr 1 + q ≤ nI 99999 then hrsF N q.toNatClampNeg sr else sr) else sr) kS (if rg 1 200 q then (if sr 1 + q ≤ nI 99999 then stt else fnd stt 4) else fnd stt 0) ik tp td bo so nu) args s0 0 0 (mA ad) = Q
  refine lv_iload_n hx hb dX5_hours_0 rfl (lv_at hl 1 rfl) ?_
  refine lv_i2l (v := (q).toInt64) hx hb dX5_hours_1 rfl ?_
  refine lv_lconst (v := 1) hx hb dX5_hours_2 (by decide) ?_
  refine lv_ldc2 (v := 200) hx hb hown (hts (.constantLong RX5 122 (200)) (by decide +kernel)) dX5_hours_3 ?_
  refine sq_S S (c_X5_inY) gX5_hours_X5_in i_X5_in ⟨Nat.le_of_ble_eq_true rfl, Nat.le_of_ble_eq_true rfl⟩ rfl hl.1 (As := [.long ((q).toInt64), .long (1), .long (200)]) (rest := []) (st1 := [.int (z (rg 1 200 (q)))]) rfl rfl (Nat.le_of_ble_eq_true rfl) ⟨Nat.le_of_ble_eq_true rfl, Nat.le_of_ble_eq_true rfl⟩ dX5_hours_6 ?_
  refine lvz_if_ne (tgt := 19) hx hb dX5_hours_9 (by decide) (fun c_9 => ?_) (fun c_9 => ?_)
  · skip
    refine lv_aload_n hx hb dX5_hours_19 rfl (lv_at hl 0 rfl) ?_
    refine m_get hx hb hts hin hown hK hP 0 (by decide) (hts (.fieldLink RX5 7 "PennyRoadModel" "s" "[I") (by decide +kernel)) rfl dX5_hours_20 ?_
    refine lv_iconst (v := nI 1) hx hb dX5_hours_23 (by decide) ?_
    refine m_ald hx hb hK hP 1 rfl (by decide) (by omega) dX5_hours_24 ?_
    refine lv_iload_n hx hb dX5_hours_25 rfl (lv_at hl 1 rfl) ?_
    refine lv_iadd hx hb dX5_hours_26 ?_
    refine lv_ldc (v := nI 99999) hx hb hown (hts (.constant RX5 124 (nI 99999)) (by decide +kernel)) dX5_hours_27 ?_
    refine lv_icmp_le (tgt := 39) hx hb dX5_hours_29 (by decide) (fun c_29 => ?_) (fun c_29 => ?_)
    · skip
      obtain ⟨i, h_i, h_i2, rfl⟩ := rg_ix (a := 1) (b := 200) (by decide) c_9
      have hcl_i : (nI i).toNatClampNeg = i := nI_clamp (by omega)
      refine lv_aload_n hx hb dX5_hours_39 rfl (lv_at hl 0 rfl) ?_
      refine lv_iload_n hx hb dX5_hours_40 rfl (lv_at hl 1 rfl) ?_
      refine wq_V S mK_ok hK hP hS (c_X5_hoursGo hN h8 (by omega)) gX5_hours_X5_hoursGo i_X5_hoursGo rfl (m_rec hK hP) ⟨Nat.le_of_ble_eq_true rfl, Nat.le_of_ble_eq_true rfl⟩ rfl hl.1 (As := [.int (nI i)]) (rest := []) (st1 := []) rfl rfl (Nat.le_of_ble_eq_true rfl) ⟨Nat.le_of_ble_eq_true rfl, Nat.le_of_ble_eq_true rfl⟩ dX5_hours_41 (fun H locs hP hS => ?_)
      refine lv_aload_n hx hb dX5_hours_44 rfl (lv_at hl 0 rfl) ?_
      refine m_get hx hb hts hin hown hK hP 0 (by decide) (hts (.fieldLink RX5 7 "PennyRoadModel" "s" "[I") (by decide +kernel)) rfl dX5_hours_45 ?_
      refine lv_iconst (v := nI 2) hx hb dX5_hours_48 (by decide) ?_
      refine m_ald hx hb hK hP 1 rfl (by decide) (by omega) dX5_hours_49 ?_
      subst hQ
      exact mp_ri hx hb hr hlocks hP hS dX5_hours_50 (by first | rfl | (simp only [fnd, if_pos c_9, if_pos c_29]; done) | (simp only [fnd, hcl_i, c_9, if_pos c_29, Bool.false_eq_true, Bool.true_eq_false, and_true, true_and, false_and, and_false, and_self, not_true_eq_false, not_false_eq_true, if_true, if_false, reduceIte, or_false, false_or, true_or, or_true]; done) | (subst_vars; first | rfl | (simp only [fnd, if_pos c_9, if_pos c_29]; done) | (simp only [fnd, hcl_i, c_9, if_pos c_29, Bool.false_eq_true, Bool.true_eq_false, and_true, true_and, false_and, and_false, and_self, not_true_eq_false, not_false_eq_true, if_true, if_false, reduceIte, or_false, false_or, true_or, or_true]; done))) (by first | rfl | (simp only [fnd, if_pos c_9, if_pos c_29]; done) | (simp only [fnd, hcl_i, c_9, if_pos c_29, Bool.false_eq_true, Bool.true_eq_false, and_true, true_and, false_and, and_false, and_self, not_true_eq_false, not_false_eq_true, if_true, if_false, reduceIte, or_false, false_or, true_or, or_true]; done) | (subst_vars; first | rfl | (simp only [fnd, if_pos c_9, if_pos c_29]; done) | (simp only [fnd, hcl_i, c_9, if_pos c_29, Bool.false_eq_true, Bool.true_eq_false, and_true, true_and, false_and, and_false, and_self, not_true_eq_false, not_false_eq_true, if_true, if_false, reduceIte, or_false, false_or, true_or, or_true]; done)))
    · skip
      refine lv_aload_n hx hb dX5_hours_32 rfl (lv_at hl 0 rfl) ?_
      refine lv_ldc (v := (-1000000005)) hx hb hown (hts (.constant RX5 125 ((-1000000005))) (by decide +kernel)) dX5_hours_33 ?_
      refine wq_V S mK_ok hK hP hS (c_X5_finds (t := 4) (by decide)) gX5_hours_X5_finds i_X5_finds rfl (m_rec hK hP) ⟨Nat.le_of_ble_eq_true rfl, Nat.le_of_ble_eq_true rfl⟩ rfl hl.1 (As := [.int ((-1000000005))]) (rest := []) (st1 := [.int ((-1000000005))]) rfl rfl (Nat.le_of_ble_eq_true rfl) ⟨Nat.le_of_ble_eq_true rfl, Nat.le_of_ble_eq_true rfl⟩ dX5_hours_35 (fun H locs hP hS => ?_)
      subst hQ
      exact mp_ri hx hb hr hlocks hP hS dX5_hours_38 (by first | rfl | (simp only [fnd, if_pos c_9, if_neg c_29]; done) | (simp only [fnd, c_9, if_neg c_29, Bool.false_eq_true, Bool.true_eq_false, and_true, true_and, false_and, and_false, and_self, not_true_eq_false, not_false_eq_true, if_true, if_false, reduceIte, or_false, false_or, true_or, or_true]; done) | (subst_vars; first | rfl | (simp only [fnd, if_pos c_9, if_neg c_29]; done) | (simp only [fnd, c_9, if_neg c_29, Bool.false_eq_true, Bool.true_eq_false, and_true, true_and, false_and, and_false, and_self, not_true_eq_false, not_false_eq_true, if_true, if_false, reduceIte, or_false, false_or, true_or, or_true]; done))) (by first | rfl | (simp only [fnd, if_pos c_9, if_neg c_29]; done) | (simp only [fnd, c_9, if_neg c_29, Bool.false_eq_true, Bool.true_eq_false, and_true, true_and, false_and, and_false, and_self, not_true_eq_false, not_false_eq_true, if_true, if_false, reduceIte, or_false, false_or, true_or, or_true]; done) | (subst_vars; first | rfl | (simp only [fnd, if_pos c_9, if_neg c_29]; done) | (simp only [fnd, c_9, if_neg c_29, Bool.false_eq_true, Bool.true_eq_false, and_true, true_and, false_and, and_false, and_self, not_true_eq_false, not_false_eq_true, if_true, if_false, reduceIte, or_false, false_or, true_or, or_true]; done)))
  · skip
    refine lv_aload_n hx hb dX5_hours_12 rfl (lv_at hl 0 rfl) ?_
    refine lv_ldc (v := (-1000000001)) hx hb hown (hts (.constant RX5 41 ((-1000000001))) (by decide +kernel)) dX5_hours_13 ?_
    refine wq_V S mK_ok hK hP hS (c_X5_finds (t := 0) (by decide)) gX5_hours_X5_finds i_X5_finds rfl (m_rec hK hP) ⟨Nat.le_of_ble_eq_true rfl, Nat.le_of_ble_eq_true rfl⟩ rfl hl.1 (As := [.int ((-1000000001))]) (rest := []) (st1 := [.int ((-1000000001))]) rfl rfl (Nat.le_of_ble_eq_true rfl) ⟨Nat.le_of_ble_eq_true rfl, Nat.le_of_ble_eq_true rfl⟩ dX5_hours_15 (fun H locs hP hS => ?_)
    subst hQ
    exact mp_ri hx hb hr hlocks hP hS dX5_hours_18 (by first | rfl | (simp only [fnd, if_neg c_9]; done) | (simp only [fnd, c_9, Bool.false_eq_true, Bool.true_eq_false, and_true, true_and, false_and, and_false, and_self, not_true_eq_false, not_false_eq_true, if_true, if_false, reduceIte, or_false, false_or, true_or, or_true]; done) | (subst_vars; first | rfl | (simp only [fnd, if_neg c_9]; done) | (simp only [fnd, c_9, Bool.false_eq_true, Bool.true_eq_false, and_true, true_and, false_and, and_false, and_self, not_true_eq_false, not_false_eq_true, if_true, if_false, reduceIte, or_false, false_or, true_or, or_true]; done))) (by first | rfl | (simp only [fnd, if_neg c_9]; done) | (simp only [fnd, c_9, Bool.false_eq_true, Bool.true_eq_false, and_true, true_and, false_and, and_false, and_self, not_true_eq_false, not_false_eq_true, if_true, if_false, reduceIte, or_false, false_or, true_or, or_true]; done) | (subst_vars; first | rfl | (simp only [fnd, if_neg c_9]; done) | (simp only [fnd, c_9, Bool.false_eq_true, Bool.true_eq_false, and_true, true_and, false_and, and_false, and_self, not_true_eq_false, not_false_eq_true, if_true, if_false, reduceIte, or_false, false_or, true_or, or_true]; done)))
theorem i_X5_hours : ciOk yX5_hours cX5_hours 2 (some .int) wsX5_hours 1 := ⟨⟨_, rfl⟩, by decide +kernel⟩
set_option maxHeartbeats 4000000 in
set_option maxRecDepth 100000 in
theorem c_X5_now {l : Launch} {D : va_G} {cy : Nat → ClassId} {ad : Nat → Nat} {sr kS ot asd stt : Nat → Int32} {ik : Int32} {tp : Nat → Int32} {td fr tt vl wr : Int32} {bo so : Nat → Int32} {nu mv : Nat → Int64} {q : Int32} {N : Nat} (hN : sr 0 = nI N) (h8 : N ≤ 8) : Met l yX5_now wsX5_now (rmz 3 66) (wPre D (mK D cy ad) (mw cy ad sr kS ot asd stt ik tp td fr tt vl wr bo so nu mv) [.ref (ad 0), .int (q)]) (mPub D cy ad (some (.int (nowF sr N q))) sr kS (if rg 0 7 q then stt else fnd stt 0) ik tp td bo so nu) 0 0 (mA ad) := by
  refine wq_entry rfl rfl (Nat.le_of_ble_eq_true rfl) ?_
  intro p e s0 m args below meth c S hr hlocks hK hP ls hl
  have S : CallFix p m c cX5_now 2 s0 args wsX5_now RX5 := S
  obtain ⟨hx, hb, hml, hown, hts⟩ := id S
  have hin : ∀ w ∈ wsX50, w ∈ wsX5_now := fun w h => List.mem_cons_of_mem _ (List.mem_append_right _ h)
  have hS : va_S (mA ad) s0.heap s0.heap [] := va_S.rf
  have hl : lv_has ls 2 [(0, .ref (ad 0)), (1, .int (q))] := hl
  generalize hQ : MQ below (mPub D cy ad (some (.int (nowF sr N q))) sr kS (if rg 0 7 q then stt else fnd stt 0) ik tp td bo so nu) args s0 0 0 (mA ad) = Q
  refine lv_iload_n hx hb dX5_now_0 rfl (lv_at hl 1 rfl) ?_
  by_cases c_1_0 : q = nI 0
  · skip
    refine lv_tableIn (tgt := 48) hx hb dX5_now_1 (by rw [c_1_0]; decide) (by rw [c_1_0]; decide) (by rw [c_1_0]; rfl) (by decide) ?_
    refine lv_aload_n hx hb dX5_now_48 rfl (lv_at hl 0 rfl) ?_
    refine m_get hx hb hts hin hown hK hP 0 (by decide) (hts (.fieldLink RX5 7 "PennyRoadModel" "s" "[I") (by decide +kernel)) rfl dX5_now_49 ?_
    refine lv_iconst (v := nI 1) hx hb dX5_now_52 (by decide) ?_
    refine lv_iload_n hx hb dX5_now_53 rfl (lv_at hl 1 rfl) ?_
    refine lv_top c_1_0 ?_
    refine lvn_iadd hx hb dX5_now_54 ?_
    refine m_ald hx hb hK hP 1 rfl (by decide) (by omega) dX5_now_55 ?_
    subst hQ
    exact mp_ri hx hb hr hlocks hP hS dX5_now_56 (by first | rfl | (simp only [fnd, nowF, if_pos c_1_0]; done) | (simp only [fnd, nowF, if_pos c_1_0, Bool.false_eq_true, Bool.true_eq_false, and_true, true_and, false_and, and_false, and_self, not_true_eq_false, not_false_eq_true, if_true, if_false, reduceIte, or_false, false_or, true_or, or_true]; done) | (subst_vars; first | rfl | (simp only [fnd, nowF, if_pos c_1_0]; done) | (simp only [fnd, nowF, if_pos c_1_0, Bool.false_eq_true, Bool.true_eq_false, and_true, true_and, false_and, and_false, and_self, not_true_eq_false, not_false_eq_true, if_true, if_false, reduceIte, or_false, false_or, true_or, or_true]; done))) (by first | (subst_vars; rfl) | (rw [if_neg (rg07 c_1_0 c_1_1 c_1_2 c_1_3 c_1_4 c_1_5 c_1_6 c_1_7)]; rfl))
  by_cases c_1_1 : q = nI 1
  · skip
    refine lv_tableIn (tgt := 48) hx hb dX5_now_1 (by rw [c_1_1]; decide) (by rw [c_1_1]; decide) (by rw [c_1_1]; rfl) (by decide) ?_
    refine lv_aload_n hx hb dX5_now_48 rfl (lv_at hl 0 rfl) ?_
    refine m_get hx hb hts hin hown hK hP 0 (by decide) (hts (.fieldLink RX5 7 "PennyRoadModel" "s" "[I") (by decide +kernel)) rfl dX5_now_49 ?_
    refine lv_iconst (v := nI 1) hx hb dX5_now_52 (by decide) ?_
    refine lv_iload_n hx hb dX5_now_53 rfl (lv_at hl 1 rfl) ?_
    refine lv_top c_1_1 ?_
    refine lvn_iadd hx hb dX5_now_54 ?_
    refine m_ald hx hb hK hP 1 rfl (by decide) (by omega) dX5_now_55 ?_
    subst hQ
    exact mp_ri hx hb hr hlocks hP hS dX5_now_56 (by first | rfl | (simp only [fnd, nowF, if_neg c_1_0, if_pos c_1_1]; done) | (simp only [fnd, nowF, if_neg c_1_0, if_pos c_1_1, Bool.false_eq_true, Bool.true_eq_false, and_true, true_and, false_and, and_false, and_self, not_true_eq_false, not_false_eq_true, if_true, if_false, reduceIte, or_false, false_or, true_or, or_true]; done) | (subst_vars; first | rfl | (simp only [fnd, nowF, if_neg c_1_0, if_pos c_1_1]; done) | (simp only [fnd, nowF, if_neg c_1_0, if_pos c_1_1, Bool.false_eq_true, Bool.true_eq_false, and_true, true_and, false_and, and_false, and_self, not_true_eq_false, not_false_eq_true, if_true, if_false, reduceIte, or_false, false_or, true_or, or_true]; done))) (by first | (subst_vars; rfl) | (rw [if_neg (rg07 c_1_0 c_1_1 c_1_2 c_1_3 c_1_4 c_1_5 c_1_6 c_1_7)]; rfl))
  by_cases c_1_2 : q = nI 2
  · skip
    refine lv_tableIn (tgt := 48) hx hb dX5_now_1 (by rw [c_1_2]; decide) (by rw [c_1_2]; decide) (by rw [c_1_2]; rfl) (by decide) ?_
    refine lv_aload_n hx hb dX5_now_48 rfl (lv_at hl 0 rfl) ?_
    refine m_get hx hb hts hin hown hK hP 0 (by decide) (hts (.fieldLink RX5 7 "PennyRoadModel" "s" "[I") (by decide +kernel)) rfl dX5_now_49 ?_
    refine lv_iconst (v := nI 1) hx hb dX5_now_52 (by decide) ?_
    refine lv_iload_n hx hb dX5_now_53 rfl (lv_at hl 1 rfl) ?_
    refine lv_top c_1_2 ?_
    refine lvn_iadd hx hb dX5_now_54 ?_
    refine m_ald hx hb hK hP 1 rfl (by decide) (by omega) dX5_now_55 ?_
    subst hQ
    exact mp_ri hx hb hr hlocks hP hS dX5_now_56 (by first | rfl | (simp only [fnd, nowF, if_neg c_1_0, if_neg c_1_1, if_pos c_1_2]; done) | (simp only [fnd, nowF, if_neg c_1_0, if_neg c_1_1, if_pos c_1_2, Bool.false_eq_true, Bool.true_eq_false, and_true, true_and, false_and, and_false, and_self, not_true_eq_false, not_false_eq_true, if_true, if_false, reduceIte, or_false, false_or, true_or, or_true]; done) | (subst_vars; first | rfl | (simp only [fnd, nowF, if_neg c_1_0, if_neg c_1_1, if_pos c_1_2]; done) | (simp only [fnd, nowF, if_neg c_1_0, if_neg c_1_1, if_pos c_1_2, Bool.false_eq_true, Bool.true_eq_false, and_true, true_and, false_and, and_false, and_self, not_true_eq_false, not_false_eq_true, if_true, if_false, reduceIte, or_false, false_or, true_or, or_true]; done))) (by first | (subst_vars; rfl) | (rw [if_neg (rg07 c_1_0 c_1_1 c_1_2 c_1_3 c_1_4 c_1_5 c_1_6 c_1_7)]; rfl))
  by_cases c_1_3 : q = nI 3
  · skip
    refine lv_tableIn (tgt := 48) hx hb dX5_now_1 (by rw [c_1_3]; decide) (by rw [c_1_3]; decide) (by rw [c_1_3]; rfl) (by decide) ?_
    refine lv_aload_n hx hb dX5_now_48 rfl (lv_at hl 0 rfl) ?_
    refine m_get hx hb hts hin hown hK hP 0 (by decide) (hts (.fieldLink RX5 7 "PennyRoadModel" "s" "[I") (by decide +kernel)) rfl dX5_now_49 ?_
    refine lv_iconst (v := nI 1) hx hb dX5_now_52 (by decide) ?_
    refine lv_iload_n hx hb dX5_now_53 rfl (lv_at hl 1 rfl) ?_
    refine lv_top c_1_3 ?_
    refine lvn_iadd hx hb dX5_now_54 ?_
    refine m_ald hx hb hK hP 1 rfl (by decide) (by omega) dX5_now_55 ?_
    subst hQ
    exact mp_ri hx hb hr hlocks hP hS dX5_now_56 (by first | rfl | (simp only [fnd, nowF, if_neg c_1_0, if_neg c_1_1, if_neg c_1_2, if_pos c_1_3]; done) | (simp only [fnd, nowF, if_neg c_1_0, if_neg c_1_1, if_neg c_1_2, if_pos c_1_3, Bool.false_eq_true, Bool.true_eq_false, and_true, true_and, false_and, and_false, and_self, not_true_eq_false, not_false_eq_true, if_true, if_false, reduceIte, or_false, false_or, true_or, or_true]; done) | (subst_vars; first | rfl | (simp only [fnd, nowF, if_neg c_1_0, if_neg c_1_1, if_neg c_1_2, if_pos c_1_3]; done) | (simp only [fnd, nowF, if_neg c_1_0, if_neg c_1_1, if_neg c_1_2, if_pos c_1_3, Bool.false_eq_true, Bool.true_eq_false, and_true, true_and, false_and, and_false, and_self, not_true_eq_false, not_false_eq_true, if_true, if_false, reduceIte, or_false, false_or, true_or, or_true]; done))) (by first | (subst_vars; rfl) | (rw [if_neg (rg07 c_1_0 c_1_1 c_1_2 c_1_3 c_1_4 c_1_5 c_1_6 c_1_7)]; rfl))
  by_cases c_1_4 : q = nI 4
  · skip
    refine lv_tableIn (tgt := 57) hx hb dX5_now_1 (by rw [c_1_4]; decide) (by rw [c_1_4]; decide) (by rw [c_1_4]; rfl) (by decide) ?_
    refine lv_aload_n hx hb dX5_now_57 rfl (lv_at hl 0 rfl) ?_
    refine lv_bipush (v := nI 6) hx hb dX5_now_58 (by decide) ?_
    refine wq_V S mK_ok hK hP hS (c_X5_together hN h8 (by omega)) gX5_now_X5_together i_X5_together rfl (m_rec hK hP) ⟨Nat.le_of_ble_eq_true rfl, Nat.le_of_ble_eq_true rfl⟩ rfl hl.1 (As := [.int (nI 6)]) (rest := []) (st1 := [.int (sumL sr 6 N 0 (nI 0))]) rfl rfl (Nat.le_of_ble_eq_true rfl) ⟨Nat.le_of_ble_eq_true rfl, Nat.le_of_ble_eq_true rfl⟩ dX5_now_60 (fun H locs hP hS => ?_)
    subst hQ
    exact mp_ri hx hb hr hlocks hP hS dX5_now_63 (by first | rfl | (simp only [fnd, nowF, if_neg c_1_0, if_neg c_1_1, if_neg c_1_2, if_neg c_1_3, if_pos c_1_4]; done) | (simp only [fnd, nowF, if_neg c_1_0, if_neg c_1_1, if_neg c_1_2, if_neg c_1_3, if_pos c_1_4, Bool.false_eq_true, Bool.true_eq_false, and_true, true_and, false_and, and_false, and_self, not_true_eq_false, not_false_eq_true, if_true, if_false, reduceIte, or_false, false_or, true_or, or_true]; done) | (subst_vars; first | rfl | (simp only [fnd, nowF, if_neg c_1_0, if_neg c_1_1, if_neg c_1_2, if_neg c_1_3, if_pos c_1_4]; done) | (simp only [fnd, nowF, if_neg c_1_0, if_neg c_1_1, if_neg c_1_2, if_neg c_1_3, if_pos c_1_4, Bool.false_eq_true, Bool.true_eq_false, and_true, true_and, false_and, and_false, and_self, not_true_eq_false, not_false_eq_true, if_true, if_false, reduceIte, or_false, false_or, true_or, or_true]; done))) (by first | (subst_vars; rfl) | (rw [if_neg (rg07 c_1_0 c_1_1 c_1_2 c_1_3 c_1_4 c_1_5 c_1_6 c_1_7)]; rfl))
  by_cases c_1_5 : q = nI 5
  · skip
    refine lv_tableIn (tgt := 64) hx hb dX5_now_1 (by rw [c_1_5]; decide) (by rw [c_1_5]; decide) (by rw [c_1_5]; rfl) (by decide) ?_
    refine lv_aload_n hx hb dX5_now_64 rfl (lv_at hl 0 rfl) ?_
    refine lv_iconst (v := nI 3) hx hb dX5_now_65 (by decide) ?_
    refine wq_V S mK_ok hK hP hS (c_X5_thoseWith hN h8 (by omega)) gX5_now_X5_thoseWith i_X5_thoseWith rfl (m_rec hK hP) ⟨Nat.le_of_ble_eq_true rfl, Nat.le_of_ble_eq_true rfl⟩ rfl hl.1 (As := [.int (nI 3)]) (rest := []) (st1 := [.int (withL sr 3 N 0 (nI 0))]) rfl rfl (Nat.le_of_ble_eq_true rfl) ⟨Nat.le_of_ble_eq_true rfl, Nat.le_of_ble_eq_true rfl⟩ dX5_now_66 (fun H locs hP hS => ?_)
    subst hQ
    exact mp_ri hx hb hr hlocks hP hS dX5_now_69 (by first | rfl | (simp only [fnd, nowF, if_neg c_1_0, if_neg c_1_1, if_neg c_1_2, if_neg c_1_3, if_neg c_1_4, if_pos c_1_5]; done) | (simp only [fnd, nowF, if_neg c_1_0, if_neg c_1_1, if_neg c_1_2, if_neg c_1_3, if_neg c_1_4, if_pos c_1_5, Bool.false_eq_true, Bool.true_eq_false, and_true, true_and, false_and, and_false, and_self, not_true_eq_false, not_false_eq_true, if_true, if_false, reduceIte, or_false, false_or, true_or, or_true]; done) | (subst_vars; first | rfl | (simp only [fnd, nowF, if_neg c_1_0, if_neg c_1_1, if_neg c_1_2, if_neg c_1_3, if_neg c_1_4, if_pos c_1_5]; done) | (simp only [fnd, nowF, if_neg c_1_0, if_neg c_1_1, if_neg c_1_2, if_neg c_1_3, if_neg c_1_4, if_pos c_1_5, Bool.false_eq_true, Bool.true_eq_false, and_true, true_and, false_and, and_false, and_self, not_true_eq_false, not_false_eq_true, if_true, if_false, reduceIte, or_false, false_or, true_or, or_true]; done))) (by first | (subst_vars; rfl) | (rw [if_neg (rg07 c_1_0 c_1_1 c_1_2 c_1_3 c_1_4 c_1_5 c_1_6 c_1_7)]; rfl))
  by_cases c_1_6 : q = nI 6
  · skip
    refine lv_tableIn (tgt := 70) hx hb dX5_now_1 (by rw [c_1_6]; decide) (by rw [c_1_6]; decide) (by rw [c_1_6]; rfl) (by decide) ?_
    refine lv_aload_n hx hb dX5_now_70 rfl (lv_at hl 0 rfl) ?_
    refine lv_bipush (v := nI 7) hx hb dX5_now_71 (by decide) ?_
    refine wq_V S mK_ok hK hP hS (c_X5_thoseWith hN h8 (by omega)) gX5_now_X5_thoseWith i_X5_thoseWith rfl (m_rec hK hP) ⟨Nat.le_of_ble_eq_true rfl, Nat.le_of_ble_eq_true rfl⟩ rfl hl.1 (As := [.int (nI 7)]) (rest := []) (st1 := [.int (withL sr 7 N 0 (nI 0))]) rfl rfl (Nat.le_of_ble_eq_true rfl) ⟨Nat.le_of_ble_eq_true rfl, Nat.le_of_ble_eq_true rfl⟩ dX5_now_73 (fun H locs hP hS => ?_)
    subst hQ
    exact mp_ri hx hb hr hlocks hP hS dX5_now_76 (by first | rfl | (simp only [fnd, nowF, if_neg c_1_0, if_neg c_1_1, if_neg c_1_2, if_neg c_1_3, if_neg c_1_4, if_neg c_1_5, if_pos c_1_6]; done) | (simp only [fnd, nowF, if_neg c_1_0, if_neg c_1_1, if_neg c_1_2, if_neg c_1_3, if_neg c_1_4, if_neg c_1_5, if_pos c_1_6, Bool.false_eq_true, Bool.true_eq_false, and_true, true_and, false_and, and_false, and_self, not_true_eq_false, not_false_eq_true, if_true, if_false, reduceIte, or_false, false_or, true_or, or_true]; done) | (subst_vars; first | rfl | (simp only [fnd, nowF, if_neg c_1_0, if_neg c_1_1, if_neg c_1_2, if_neg c_1_3, if_neg c_1_4, if_neg c_1_5, if_pos c_1_6]; done) | (simp only [fnd, nowF, if_neg c_1_0, if_neg c_1_1, if_neg c_1_2, if_neg c_1_3, if_neg c_1_4, if_neg c_1_5, if_pos c_1_6, Bool.false_eq_true, Bool.true_eq_false, and_true, true_and, false_and, and_false, and_self, not_true_eq_false, not_false_eq_true, if_true, if_false, reduceIte, or_false, false_or, true_or, or_true]; done))) (by first | (subst_vars; rfl) | (rw [if_neg (rg07 c_1_0 c_1_1 c_1_2 c_1_3 c_1_4 c_1_5 c_1_6 c_1_7)]; rfl))
  by_cases c_1_7 : q = nI 7
  · skip
    refine lv_tableIn (tgt := 77) hx hb dX5_now_1 (by rw [c_1_7]; decide) (by rw [c_1_7]; decide) (by rw [c_1_7]; rfl) (by decide) ?_
    refine lv_aload_n hx hb dX5_now_77 rfl (lv_at hl 0 rfl) ?_
    refine lv_iconst (v := nI 5) hx hb dX5_now_78 (by decide) ?_
    refine wq_V S mK_ok hK hP hS (c_X5_together hN h8 (by omega)) gX5_now_X5_together i_X5_together rfl (m_rec hK hP) ⟨Nat.le_of_ble_eq_true rfl, Nat.le_of_ble_eq_true rfl⟩ rfl hl.1 (As := [.int (nI 5)]) (rest := []) (st1 := [.int (sumL sr 5 N 0 (nI 0))]) rfl rfl (Nat.le_of_ble_eq_true rfl) ⟨Nat.le_of_ble_eq_true rfl, Nat.le_of_ble_eq_true rfl⟩ dX5_now_79 (fun H locs hP hS => ?_)
    subst hQ
    exact mp_ri hx hb hr hlocks hP hS dX5_now_82 (by first | rfl | (simp only [fnd, nowF, if_neg c_1_0, if_neg c_1_1, if_neg c_1_2, if_neg c_1_3, if_neg c_1_4, if_neg c_1_5, if_neg c_1_6, if_pos c_1_7]; done) | (simp only [fnd, nowF, if_neg c_1_0, if_neg c_1_1, if_neg c_1_2, if_neg c_1_3, if_neg c_1_4, if_neg c_1_5, if_neg c_1_6, if_pos c_1_7, Bool.false_eq_true, Bool.true_eq_false, and_true, true_and, false_and, and_false, and_self, not_true_eq_false, not_false_eq_true, if_true, if_false, reduceIte, or_false, false_or, true_or, or_true]; done) | (subst_vars; first | rfl | (simp only [fnd, nowF, if_neg c_1_0, if_neg c_1_1, if_neg c_1_2, if_neg c_1_3, if_neg c_1_4, if_neg c_1_5, if_neg c_1_6, if_pos c_1_7]; done) | (simp only [fnd, nowF, if_neg c_1_0, if_neg c_1_1, if_neg c_1_2, if_neg c_1_3, if_neg c_1_4, if_neg c_1_5, if_neg c_1_6, if_pos c_1_7, Bool.false_eq_true, Bool.true_eq_false, and_true, true_and, false_and, and_false, and_self, not_true_eq_false, not_false_eq_true, if_true, if_false, reduceIte, or_false, false_or, true_or, or_true]; done))) (by first | (subst_vars; rfl) | (rw [if_neg (rg07 c_1_0 c_1_1 c_1_2 c_1_3 c_1_4 c_1_5 c_1_6 c_1_7)]; rfl))
  refine lv_tableOut (tgt := 83) hx hb dX5_now_1 (by have h0 : (q).toInt ≠ 0 := ne_int c_1_0; have h1 : (q).toInt ≠ 1 := ne_int c_1_1; have h2 : (q).toInt ≠ 2 := ne_int c_1_2; have h3 : (q).toInt ≠ 3 := ne_int c_1_3; have h4 : (q).toInt ≠ 4 := ne_int c_1_4; have h5 : (q).toInt ≠ 5 := ne_int c_1_5; have h6 : (q).toInt ≠ 6 := ne_int c_1_6; have h7 : (q).toInt ≠ 7 := ne_int c_1_7; omega) (by decide) ?_
  refine lv_aload_n hx hb dX5_now_83 rfl (lv_at hl 0 rfl) ?_
  refine lv_ldc (v := (-1000000001)) hx hb hown (hts (.constant RX5 41 ((-1000000001))) (by decide +kernel)) dX5_now_84 ?_
  refine wq_V S mK_ok hK hP hS (c_X5_finds (t := 0) (by decide)) gX5_now_X5_finds i_X5_finds rfl (m_rec hK hP) ⟨Nat.le_of_ble_eq_true rfl, Nat.le_of_ble_eq_true rfl⟩ rfl hl.1 (As := [.int ((-1000000001))]) (rest := []) (st1 := [.int ((-1000000001))]) rfl rfl (Nat.le_of_ble_eq_true rfl) ⟨Nat.le_of_ble_eq_true rfl, Nat.le_of_ble_eq_true rfl⟩ dX5_now_86 (fun H locs hP hS => ?_)
  subst hQ
  exact mp_ri hx hb hr hlocks hP hS dX5_now_89 (by first | rfl | (simp only [fnd, nowF, if_neg c_1_0, if_neg c_1_1, if_neg c_1_2, if_neg c_1_3, if_neg c_1_4, if_neg c_1_5, if_neg c_1_6, if_neg c_1_7]; done) | (simp only [fnd, nowF, if_neg c_1_0, if_neg c_1_1, if_neg c_1_2, if_neg c_1_3, if_neg c_1_4, if_neg c_1_5, if_neg c_1_6, if_neg c_1_7, Bool.false_eq_true, Bool.true_eq_false, and_true, true_and, false_and, and_false, and_self, not_true_eq_false, not_false_eq_true, if_true, if_false, reduceIte, or_false, false_or, true_or, or_true]; done) | (subst_vars; first | rfl | (simp only [fnd, nowF, if_neg c_1_0, if_neg c_1_1, if_neg c_1_2, if_neg c_1_3, if_neg c_1_4, if_neg c_1_5, if_neg c_1_6, if_neg c_1_7]; done) | (simp only [fnd, nowF, if_neg c_1_0, if_neg c_1_1, if_neg c_1_2, if_neg c_1_3, if_neg c_1_4, if_neg c_1_5, if_neg c_1_6, if_neg c_1_7, Bool.false_eq_true, Bool.true_eq_false, and_true, true_and, false_and, and_false, and_self, not_true_eq_false, not_false_eq_true, if_true, if_false, reduceIte, or_false, false_or, true_or, or_true]; done))) (by first | (subst_vars; rfl) | (rw [if_neg (rg07 c_1_0 c_1_1 c_1_2 c_1_3 c_1_4 c_1_5 c_1_6 c_1_7)]; rfl))
theorem i_X5_now : ciOk yX5_now cX5_now 2 (some .int) wsX5_now 1 := ⟨⟨_, rfl⟩, by decide +kernel⟩
set_option maxHeartbeats 4000000 in
set_option maxRecDepth 100000 in
theorem c_X5_behind {l : Launch} {D : va_G} {cy : Nat → ClassId} {ad : Nat → Nat} {sr kS ot asd stt : Nat → Int32} {ik : Int32} {tp : Nat → Int32} {td fr tt vl wr : Int32} {bo so : Nat → Int32} {nu mv : Nat → Int64} {wh : Nat} {q : Nat} {N : Nat} (hN : sr 0 = nI N) (h8 : N ≤ 8) (hq : q < 2 ^ 31) (hw : wh < 69) : Met l yX5_behind wsX5_behind (rmz 7 156) (wPre D (mK D cy ad) (mw cy ad sr kS ot asd stt ik tp td fr tt vl wr bo so nu mv) [.ref (ad 0), .int (nI wh), .int (nI q)]) (wPost D (mw cy ad sr kS ot sr stt ik tp td fr tt vl wr bo so nu mv) (some (.int (hrsF N q sr wh))) (mA ad)) 0 0 (mA ad) := by
  refine wq_entry rfl rfl (Nat.le_of_ble_eq_true rfl) ?_
  intro p e s0 m args below meth c S hr hlocks hK hP ls hl
  have S : CallFix p m c cX5_behind 3 s0 args wsX5_behind RX5 := S
  obtain ⟨hx, hb, hml, hown, hts⟩ := id S
  have hin : ∀ w ∈ wsX50, w ∈ wsX5_behind := fun w h => List.mem_cons_of_mem _ (List.mem_append_right _ h)
  have hS : va_S (mA ad) s0.heap s0.heap [] := va_S.rf
  have hl : lv_has ls 3 [(0, .ref (ad 0)), (1, .int (nI wh)), (2, .int (nI q))] := hl
  generalize hQ : MQ below (wPost D (mw cy ad sr kS ot sr stt ik tp td fr tt vl wr bo so nu mv) (some (.int (hrsF N q sr wh))) (mA ad)) args s0 0 0 (mA ad) = Q
  refine lv_aload_n hx hb dX5_behind_0 rfl (lv_at hl 0 rfl) ?_
  refine wq_V S mK_ok hK hP hS (c_X5_laysAside) gX5_behind_X5_laysAside i_X5_laysAside rfl (m_rec hK hP) ⟨Nat.le_of_ble_eq_true rfl, Nat.le_of_ble_eq_true rfl⟩ rfl hl.1 (As := []) (rest := []) (st1 := []) rfl rfl (Nat.le_of_ble_eq_true rfl) ⟨Nat.le_of_ble_eq_true rfl, Nat.le_of_ble_eq_true rfl⟩ dX5_behind_1 (fun H locs hP hS => ?_)
  refine lv_aload_n hx hb dX5_behind_4 rfl (lv_at hl 0 rfl) ?_
  refine lv_iload_n hx hb dX5_behind_5 rfl (lv_at hl 2 rfl) ?_
  refine wq_V S mK_ok hK hP hS (c_X5_hoursGo hN h8 (by omega)) gX5_behind_X5_hoursGo i_X5_hoursGo rfl (m_rec hK hP) ⟨Nat.le_of_ble_eq_true rfl, Nat.le_of_ble_eq_true rfl⟩ rfl hl.1 (As := [.int (nI q)]) (rest := []) (st1 := []) rfl rfl (Nat.le_of_ble_eq_true rfl) ⟨Nat.le_of_ble_eq_true rfl, Nat.le_of_ble_eq_true rfl⟩ dX5_behind_6 (fun H locs hP hS => ?_)
  refine lv_aload_n hx hb dX5_behind_9 rfl (lv_at hl 0 rfl) ?_
  refine lv_aload_n hx hb dX5_behind_10 rfl (lv_at hl 0 rfl) ?_
  refine m_get hx hb hts hin hown hK hP 0 (by decide) (hts (.fieldLink RX5 7 "PennyRoadModel" "s" "[I") (by decide +kernel)) rfl dX5_behind_11 ?_
  refine lv_iload_n hx hb dX5_behind_14 rfl (lv_at hl 1 rfl) ?_
  refine m_ald hx hb hK hP 1 rfl (by decide) (by omega) dX5_behind_15 ?_
  refine wq_V S mK_ok hK hP hS (c_X5_takesBack) gX5_behind_X5_takesBack i_X5_takesBack rfl (m_rec hK hP) ⟨Nat.le_of_ble_eq_true rfl, Nat.le_of_ble_eq_true rfl⟩ rfl hl.1 (As := [.int ((hrsF N q sr) wh)]) (rest := []) (st1 := [.int ((hrsF N q sr) wh)]) rfl rfl (Nat.le_of_ble_eq_true rfl) ⟨Nat.le_of_ble_eq_true rfl, Nat.le_of_ble_eq_true rfl⟩ dX5_behind_16 (fun H locs hP hS => ?_)
  subst hQ
  exact wq_ri hx hb hr hlocks hP hS dX5_behind_19 (by first | rfl | (simp only [Bool.false_eq_true, Bool.true_eq_false, and_true, true_and, false_and, and_false, and_self, not_true_eq_false, not_false_eq_true, if_true, if_false, reduceIte, or_false, false_or, true_or, or_true]; done) | (subst_vars; first | rfl | (simp only [Bool.false_eq_true, Bool.true_eq_false, and_true, true_and, false_and, and_false, and_self, not_true_eq_false, not_false_eq_true, if_true, if_false, reduceIte, or_false, false_or, true_or, or_true]; done))) (by first | rfl | (simp only [Bool.false_eq_true, Bool.true_eq_false, and_true, true_and, false_and, and_false, and_self, not_true_eq_false, not_false_eq_true, if_true, if_false, reduceIte, or_false, false_or, true_or, or_true]; done) | (subst_vars; first | rfl | (simp only [Bool.false_eq_true, Bool.true_eq_false, and_true, true_and, false_and, and_false, and_self, not_true_eq_false, not_false_eq_true, if_true, if_false, reduceIte, or_false, false_or, true_or, or_true]; done)))
theorem i_X5_behind : ciOk yX5_behind cX5_behind 3 (some .int) wsX5_behind 2 := ⟨⟨_, rfl⟩, by decide +kernel⟩
set_option maxHeartbeats 4000000 in
set_option maxRecDepth 100000 in
theorem c_X5_on {l : Launch} {D : va_G} {cy : Nat → ClassId} {ad : Nat → Nat} {sr kS ot asd stt : Nat → Int32} {ik : Int32} {tp : Nat → Int32} {td fr tt vl wr : Int32} {bo so : Nat → Int32} {nu mv : Nat → Int64} {q : Int32} {n : Int32} {o : Int32} {N : Nat} (hN : sr 0 = nI N) (h8 : N ≤ 8) : Met l yX5_on wsX5_on (rmz 8 178) (wPre D (mK D cy ad) (mw cy ad sr kS ot asd stt ik tp td fr tt vl wr bo so nu mv) [.ref (ad 0), .int (q), .int (n), .int (o)]) (mPub D cy ad (some (.int (if isN N q ∧ rg 0 200 n ∧ rg 0 2 o then hrsF N n.toNatClampNeg sr (5 + 8 * q.toNatClampNeg + (if o = 0 then 1 else if o = nI 1 then 6 else 3)) else -1000000001))) sr kS (if isN N q ∧ rg 0 200 n ∧ rg 0 2 o then stt else fnd stt 0) ik tp td bo so nu) 0 0 (mA ad) := by
  refine wq_entry rfl rfl (Nat.le_of_ble_eq_true rfl) ?_
  intro p e s0 m args below meth c S hr hlocks hK hP ls hl
  have S : CallFix p m c cX5_on 4 s0 args wsX5_on RX5 := S
  obtain ⟨hx, hb, hml, hown, hts⟩ := id S
  have hin : ∀ w ∈ wsX50, w ∈ wsX5_on := fun w h => List.mem_cons_of_mem _ (List.mem_append_right _ h)
  have hS : va_S (mA ad) s0.heap s0.heap [] := va_S.rf
  have hl : lv_has ls 4 [(0, .ref (ad 0)), (1, .int (q)), (2, .int (n)), (3, .int (o))] := hl
  generalize hQ : MQ below (mPub D cy ad (some (.int (if isN N q ∧ rg 0 200 n ∧ rg 0 2 o then hrsF N n.toNatClampNeg sr (5 + 8 * q.toNatClampNeg + (if o = 0 then 1 else if o = nI 1 then 6 else 3)) else -1000000001))) sr kS (if isN N q ∧ rg 0 200 n ∧ rg 0 2 o then stt else fnd stt 0) ik tp td bo so nu) args s0 0 0 (mA ad) = Q
  refine lv_aload_n hx hb dX5_on_0 rfl (lv_at hl 0 rfl) ?_
  refine lv_iload_n hx hb dX5_on_1 rfl (lv_at hl 1 rfl) ?_
  refine wq_V S mK_ok hK hP hS (c_X5_isWalker hN h8) gX5_on_X5_isWalker i_X5_isWalker rfl (m_rec hK hP) ⟨Nat.le_of_ble_eq_true rfl, Nat.le_of_ble_eq_true rfl⟩ rfl hl.1 (As := [.int (q)]) (rest := []) (st1 := [.int (z (isN N (q)))]) rfl rfl (Nat.le_of_ble_eq_true rfl) ⟨Nat.le_of_ble_eq_true rfl, Nat.le_of_ble_eq_true rfl⟩ dX5_on_2 (fun H locs hP hS => ?_)
  refine lvz_if_eq (tgt := 32) hx hb dX5_on_5 (by decide) (fun c_5 => ?_) (fun c_5 => ?_)
  · skip
    refine lv_aload_n hx hb dX5_on_32 rfl (lv_at hl 0 rfl) ?_
    refine lv_ldc (v := (-1000000001)) hx hb hown (hts (.constant RX5 41 ((-1000000001))) (by decide +kernel)) dX5_on_33 ?_
    refine wq_V S mK_ok hK hP hS (c_X5_finds (t := 0) (by decide)) gX5_on_X5_finds i_X5_finds rfl (m_rec hK hP) ⟨Nat.le_of_ble_eq_true rfl, Nat.le_of_ble_eq_true rfl⟩ rfl hl.1 (As := [.int ((-1000000001))]) (rest := []) (st1 := [.int ((-1000000001))]) rfl rfl (Nat.le_of_ble_eq_true rfl) ⟨Nat.le_of_ble_eq_true rfl, Nat.le_of_ble_eq_true rfl⟩ dX5_on_35 (fun H locs hP hS => ?_)
    subst hQ
    exact mp_ri hx hb hr hlocks hP hS dX5_on_38 (by first | rfl | (simp only [fnd, if_neg c_5]; done) | (simp only [fnd, c_5, Bool.false_eq_true, Bool.true_eq_false, and_true, true_and, false_and, and_false, and_self, not_true_eq_false, not_false_eq_true, if_true, if_false, reduceIte, or_false, false_or, true_or, or_true]; done) | (subst_vars; first | rfl | (simp only [fnd, if_neg c_5]; done) | (simp only [fnd, c_5, Bool.false_eq_true, Bool.true_eq_false, and_true, true_and, false_and, and_false, and_self, not_true_eq_false, not_false_eq_true, if_true, if_false, reduceIte, or_false, false_or, true_or, or_true]; done))) (by first | rfl | (simp only [fnd, if_neg c_5]; done) | (simp only [fnd, c_5, Bool.false_eq_true, Bool.true_eq_false, and_true, true_and, false_and, and_false, and_self, not_true_eq_false, not_false_eq_true, if_true, if_false, reduceIte, or_false, false_or, true_or, or_true]; done) | (subst_vars; first | rfl | (simp only [fnd, if_neg c_5]; done) | (simp only [fnd, c_5, Bool.false_eq_true, Bool.true_eq_false, and_true, true_and, false_and, and_false, and_self, not_true_eq_false, not_false_eq_true, if_true, if_false, reduceIte, or_false, false_or, true_or, or_true]; done)))
  · skip
    refine lv_iload_n hx hb dX5_on_8 rfl (lv_at hl 2 rfl) ?_
    refine lv_i2l (v := (n).toInt64) hx hb dX5_on_9 rfl ?_
    refine lv_lconst (v := 0) hx hb dX5_on_10 (by decide) ?_
    refine lv_ldc2 (v := 200) hx hb hown (hts (.constantLong RX5 122 (200)) (by decide +kernel)) dX5_on_11 ?_
    refine sq_S S (c_X5_inY) gX5_on_X5_in i_X5_in ⟨Nat.le_of_ble_eq_true rfl, Nat.le_of_ble_eq_true rfl⟩ rfl hl.1 (As := [.long ((n).toInt64), .long (0), .long (200)]) (rest := []) (st1 := [.int (z (rg 0 200 (n)))]) rfl rfl (Nat.le_of_ble_eq_true rfl) ⟨Nat.le_of_ble_eq_true rfl, Nat.le_of_ble_eq_true rfl⟩ dX5_on_14 ?_
    refine lvz_if_eq (tgt := 32) hx hb dX5_on_17 (by decide) (fun c_17 => ?_) (fun c_17 => ?_)
    · skip
      refine lv_aload_n hx hb dX5_on_32 rfl (lv_at hl 0 rfl) ?_
      refine lv_ldc (v := (-1000000001)) hx hb hown (hts (.constant RX5 41 ((-1000000001))) (by decide +kernel)) dX5_on_33 ?_
      refine wq_V S mK_ok hK hP hS (c_X5_finds (t := 0) (by decide)) gX5_on_X5_finds i_X5_finds rfl (m_rec hK hP) ⟨Nat.le_of_ble_eq_true rfl, Nat.le_of_ble_eq_true rfl⟩ rfl hl.1 (As := [.int ((-1000000001))]) (rest := []) (st1 := [.int ((-1000000001))]) rfl rfl (Nat.le_of_ble_eq_true rfl) ⟨Nat.le_of_ble_eq_true rfl, Nat.le_of_ble_eq_true rfl⟩ dX5_on_35 (fun H locs hP hS => ?_)
      subst hQ
      exact mp_ri hx hb hr hlocks hP hS dX5_on_38 (by first | rfl | (simp only [fnd, if_pos c_5, if_neg c_17]; done) | (simp only [fnd, c_5, c_17, Bool.false_eq_true, Bool.true_eq_false, and_true, true_and, false_and, and_false, and_self, not_true_eq_false, not_false_eq_true, if_true, if_false, reduceIte, or_false, false_or, true_or, or_true]; done) | (subst_vars; first | rfl | (simp only [fnd, if_pos c_5, if_neg c_17]; done) | (simp only [fnd, c_5, c_17, Bool.false_eq_true, Bool.true_eq_false, and_true, true_and, false_and, and_false, and_self, not_true_eq_false, not_false_eq_true, if_true, if_false, reduceIte, or_false, false_or, true_or, or_true]; done))) (by first | rfl | (simp only [fnd, if_pos c_5, if_neg c_17]; done) | (simp only [fnd, c_5, c_17, Bool.false_eq_true, Bool.true_eq_false, and_true, true_and, false_and, and_false, and_self, not_true_eq_false, not_false_eq_true, if_true, if_false, reduceIte, or_false, false_or, true_or, or_true]; done) | (subst_vars; first | rfl | (simp only [fnd, if_pos c_5, if_neg c_17]; done) | (simp only [fnd, c_5, c_17, Bool.false_eq_true, Bool.true_eq_false, and_true, true_and, false_and, and_false, and_self, not_true_eq_false, not_false_eq_true, if_true, if_false, reduceIte, or_false, false_or, true_or, or_true]; done)))
    · skip
      refine lv_iload_n hx hb dX5_on_20 rfl (lv_at hl 3 rfl) ?_
      refine lv_i2l (v := (o).toInt64) hx hb dX5_on_21 rfl ?_
      refine lv_lconst (v := 0) hx hb dX5_on_22 (by decide) ?_
      refine lv_ldc2 (v := 2) hx hb hown (hts (.constantLong RX5 58 (2)) (by decide +kernel)) dX5_on_23 ?_
      refine sq_S S (c_X5_inY) gX5_on_X5_in i_X5_in ⟨Nat.le_of_ble_eq_true rfl, Nat.le_of_ble_eq_true rfl⟩ rfl hl.1 (As := [.long ((o).toInt64), .long (0), .long (2)]) (rest := []) (st1 := [.int (z (rg 0 2 (o)))]) rfl rfl (Nat.le_of_ble_eq_true rfl) ⟨Nat.le_of_ble_eq_true rfl, Nat.le_of_ble_eq_true rfl⟩ dX5_on_26 ?_
      refine lvz_if_ne (tgt := 39) hx hb dX5_on_29 (by decide) (fun c_29 => ?_) (fun c_29 => ?_)
      · skip
        obtain ⟨i, h_i, rfl⟩ := isN_ix h8 c_5
        have hcl_i : (nI i).toNatClampNeg = i := nI_clamp (by omega)
        obtain ⟨j, h_j, h_j2, rfl⟩ := rg_ix (a := 0) (b := 200) (by decide) c_17
        have hcl_j : (nI j).toNatClampNeg = j := nI_clamp (by omega)
        refine lv_aload_n hx hb dX5_on_39 rfl (lv_at hl 0 rfl) ?_
        refine lv_iload_n hx hb dX5_on_40 rfl (lv_at hl 1 rfl) ?_
        refine lv_iload_n hx hb dX5_on_41 rfl (lv_at hl 3 rfl) ?_
        refine lv_if_ne (tgt := 49) hx hb dX5_on_42 (by decide) (fun c_42 => ?_) (fun c_42 => ?_)
        · skip
          refine lv_iload_n hx hb dX5_on_49 rfl (lv_at hl 3 rfl) ?_
          refine lv_iconst (v := nI 1) hx hb dX5_on_50 (by decide) ?_
          refine lv_icmp_ne (tgt := 59) hx hb dX5_on_51 (by decide) (fun c_51 => ?_) (fun c_51 => ?_)
          · skip
            refine lv_iconst (v := nI 3) hx hb dX5_on_59 (by decide) ?_
            refine sq_S S (c_X5_spotOf) gX5_on_X5_spotOf i_X5_spotOf ⟨Nat.le_of_ble_eq_true rfl, Nat.le_of_ble_eq_true rfl⟩ rfl hl.1 (As := [.int (nI i), .int (nI 3)]) (rest := [.ref (ad 0)]) (st1 := [.int (nI (5 + 8 * i + 3)), .ref (ad 0)]) rfl rfl (Nat.le_of_ble_eq_true rfl) ⟨Nat.le_of_ble_eq_true rfl, Nat.le_of_ble_eq_true rfl⟩ dX5_on_60 ?_
            refine lv_iload_n hx hb dX5_on_63 rfl (lv_at hl 2 rfl) ?_
            refine wq_V S mK_ok hK hP hS (c_X5_behind hN h8 (by omega) (by omega)) gX5_on_X5_behind i_X5_behind rfl (m_rec hK hP) ⟨Nat.le_of_ble_eq_true rfl, Nat.le_of_ble_eq_true rfl⟩ rfl hl.1 (As := [.int (nI (5 + 8 * i + 3)), .int (nI j)]) (rest := []) (st1 := [.int ((hrsF N j sr) (5 + 8 * i + 3))]) rfl rfl (Nat.le_of_ble_eq_true rfl) ⟨Nat.le_of_ble_eq_true rfl, Nat.le_of_ble_eq_true rfl⟩ dX5_on_64 (fun H locs hP hS => ?_)
            subst hQ
            exact mp_ri hx hb hr hlocks hP hS dX5_on_67 (by first | rfl | (simp only [fnd, if_pos c_5, if_pos c_17, if_pos c_29, if_neg c_42, if_neg c_51]; done) | (simp only [fnd, hcl_i, hcl_j, c_5, c_17, c_29, if_neg c_42, if_neg c_51, Bool.false_eq_true, Bool.true_eq_false, and_true, true_and, false_and, and_false, and_self, not_true_eq_false, not_false_eq_true, if_true, if_false, reduceIte, or_false, false_or, true_or, or_true]; done) | (subst_vars; first | rfl | (simp only [fnd, if_pos c_5, if_pos c_17, if_pos c_29, if_neg c_42, if_neg c_51]; done) | (simp only [fnd, hcl_i, hcl_j, c_5, c_17, c_29, if_neg c_42, if_neg c_51, Bool.false_eq_true, Bool.true_eq_false, and_true, true_and, false_and, and_false, and_self, not_true_eq_false, not_false_eq_true, if_true, if_false, reduceIte, or_false, false_or, true_or, or_true]; done))) (by first | rfl | (simp only [fnd, if_pos c_5, if_pos c_17, if_pos c_29, if_neg c_42, if_neg c_51]; done) | (simp only [fnd, hcl_i, hcl_j, c_5, c_17, c_29, if_neg c_42, if_neg c_51, Bool.false_eq_true, Bool.true_eq_false, and_true, true_and, false_and, and_false, and_self, not_true_eq_false, not_false_eq_true, if_true, if_false, reduceIte, or_false, false_or, true_or, or_true]; done) | (subst_vars; first | rfl | (simp only [fnd, if_pos c_5, if_pos c_17, if_pos c_29, if_neg c_42, if_neg c_51]; done) | (simp only [fnd, hcl_i, hcl_j, c_5, c_17, c_29, if_neg c_42, if_neg c_51, Bool.false_eq_true, Bool.true_eq_false, and_true, true_and, false_and, and_false, and_self, not_true_eq_false, not_false_eq_true, if_true, if_false, reduceIte, or_false, false_or, true_or, or_true]; done)))
          · skip
            refine lv_bipush (v := nI 6) hx hb dX5_on_54 (by decide) ?_
            refine lv_goto (tgt := 60) hx hb dX5_on_56 (by decide) ?_
            refine sq_S S (c_X5_spotOf) gX5_on_X5_spotOf i_X5_spotOf ⟨Nat.le_of_ble_eq_true rfl, Nat.le_of_ble_eq_true rfl⟩ rfl hl.1 (As := [.int (nI i), .int (nI 6)]) (rest := [.ref (ad 0)]) (st1 := [.int (nI (5 + 8 * i + 6)), .ref (ad 0)]) rfl rfl (Nat.le_of_ble_eq_true rfl) ⟨Nat.le_of_ble_eq_true rfl, Nat.le_of_ble_eq_true rfl⟩ dX5_on_60 ?_
            refine lv_iload_n hx hb dX5_on_63 rfl (lv_at hl 2 rfl) ?_
            refine wq_V S mK_ok hK hP hS (c_X5_behind hN h8 (by omega) (by omega)) gX5_on_X5_behind i_X5_behind rfl (m_rec hK hP) ⟨Nat.le_of_ble_eq_true rfl, Nat.le_of_ble_eq_true rfl⟩ rfl hl.1 (As := [.int (nI (5 + 8 * i + 6)), .int (nI j)]) (rest := []) (st1 := [.int ((hrsF N j sr) (5 + 8 * i + 6))]) rfl rfl (Nat.le_of_ble_eq_true rfl) ⟨Nat.le_of_ble_eq_true rfl, Nat.le_of_ble_eq_true rfl⟩ dX5_on_64 (fun H locs hP hS => ?_)
            subst hQ
            exact mp_ri hx hb hr hlocks hP hS dX5_on_67 (by first | rfl | (simp only [fnd, if_pos c_5, if_pos c_17, if_pos c_29, if_neg c_42, if_pos c_51]; done) | (simp only [fnd, hcl_i, hcl_j, c_5, c_17, c_29, if_neg c_42, if_pos c_51, Bool.false_eq_true, Bool.true_eq_false, and_true, true_and, false_and, and_false, and_self, not_true_eq_false, not_false_eq_true, if_true, if_false, reduceIte, or_false, false_or, true_or, or_true]; done) | (subst_vars; first | rfl | (simp only [fnd, if_pos c_5, if_pos c_17, if_pos c_29, if_neg c_42, if_pos c_51]; done) | (simp only [fnd, hcl_i, hcl_j, c_5, c_17, c_29, if_neg c_42, if_pos c_51, Bool.false_eq_true, Bool.true_eq_false, and_true, true_and, false_and, and_false, and_self, not_true_eq_false, not_false_eq_true, if_true, if_false, reduceIte, or_false, false_or, true_or, or_true]; done))) (by first | rfl | (simp only [fnd, if_pos c_5, if_pos c_17, if_pos c_29, if_neg c_42, if_pos c_51]; done) | (simp only [fnd, hcl_i, hcl_j, c_5, c_17, c_29, if_neg c_42, if_pos c_51, Bool.false_eq_true, Bool.true_eq_false, and_true, true_and, false_and, and_false, and_self, not_true_eq_false, not_false_eq_true, if_true, if_false, reduceIte, or_false, false_or, true_or, or_true]; done) | (subst_vars; first | rfl | (simp only [fnd, if_pos c_5, if_pos c_17, if_pos c_29, if_neg c_42, if_pos c_51]; done) | (simp only [fnd, hcl_i, hcl_j, c_5, c_17, c_29, if_neg c_42, if_pos c_51, Bool.false_eq_true, Bool.true_eq_false, and_true, true_and, false_and, and_false, and_self, not_true_eq_false, not_false_eq_true, if_true, if_false, reduceIte, or_false, false_or, true_or, or_true]; done)))
        · skip
          refine lv_iconst (v := nI 1) hx hb dX5_on_45 (by decide) ?_
          refine lv_goto (tgt := 60) hx hb dX5_on_46 (by decide) ?_
          refine sq_S S (c_X5_spotOf) gX5_on_X5_spotOf i_X5_spotOf ⟨Nat.le_of_ble_eq_true rfl, Nat.le_of_ble_eq_true rfl⟩ rfl hl.1 (As := [.int (nI i), .int (nI 1)]) (rest := [.ref (ad 0)]) (st1 := [.int (nI (5 + 8 * i + 1)), .ref (ad 0)]) rfl rfl (Nat.le_of_ble_eq_true rfl) ⟨Nat.le_of_ble_eq_true rfl, Nat.le_of_ble_eq_true rfl⟩ dX5_on_60 ?_
          refine lv_iload_n hx hb dX5_on_63 rfl (lv_at hl 2 rfl) ?_
          refine wq_V S mK_ok hK hP hS (c_X5_behind hN h8 (by omega) (by omega)) gX5_on_X5_behind i_X5_behind rfl (m_rec hK hP) ⟨Nat.le_of_ble_eq_true rfl, Nat.le_of_ble_eq_true rfl⟩ rfl hl.1 (As := [.int (nI (5 + 8 * i + 1)), .int (nI j)]) (rest := []) (st1 := [.int ((hrsF N j sr) (5 + 8 * i + 1))]) rfl rfl (Nat.le_of_ble_eq_true rfl) ⟨Nat.le_of_ble_eq_true rfl, Nat.le_of_ble_eq_true rfl⟩ dX5_on_64 (fun H locs hP hS => ?_)
          subst hQ
          exact mp_ri hx hb hr hlocks hP hS dX5_on_67 (by first | rfl | (simp only [fnd, if_pos c_5, if_pos c_17, if_pos c_29, if_pos c_42]; done) | (simp only [fnd, hcl_i, hcl_j, c_5, c_17, c_29, if_pos c_42, Bool.false_eq_true, Bool.true_eq_false, and_true, true_and, false_and, and_false, and_self, not_true_eq_false, not_false_eq_true, if_true, if_false, reduceIte, or_false, false_or, true_or, or_true]; done) | (subst_vars; first | rfl | (simp only [fnd, if_pos c_5, if_pos c_17, if_pos c_29, if_pos c_42]; done) | (simp only [fnd, hcl_i, hcl_j, c_5, c_17, c_29, if_pos c_42, Bool.false_eq_true, Bool.true_eq_false, and_true, true_and, false_and, and_false, and_self, not_true_eq_false, not_false_eq_true, if_true, if_false, reduceIte, or_false, false_or, true_or, or_true]; done))) (by first | rfl | (simp only [fnd, if_pos c_5, if_pos c_17, if_pos c_29, if_pos c_42]; done) | (simp only [fnd, hcl_i, hcl_j, c_5, c_17, c_29, if_pos c_42, Bool.false_eq_true, Bool.true_eq_false, and_true, true_and, false_and, and_false, and_self, not_true_eq_false, not_false_eq_true, if_true, if_false, reduceIte, or_false, false_or, true_or, or_true]; done) | (subst_vars; first | rfl | (simp only [fnd, if_pos c_5, if_pos c_17, if_pos c_29, if_pos c_42]; done) | (simp only [fnd, hcl_i, hcl_j, c_5, c_17, c_29, if_pos c_42, Bool.false_eq_true, Bool.true_eq_false, and_true, true_and, false_and, and_false, and_self, not_true_eq_false, not_false_eq_true, if_true, if_false, reduceIte, or_false, false_or, true_or, or_true]; done)))
      · skip
        refine lv_aload_n hx hb dX5_on_32 rfl (lv_at hl 0 rfl) ?_
        refine lv_ldc (v := (-1000000001)) hx hb hown (hts (.constant RX5 41 ((-1000000001))) (by decide +kernel)) dX5_on_33 ?_
        refine wq_V S mK_ok hK hP hS (c_X5_finds (t := 0) (by decide)) gX5_on_X5_finds i_X5_finds rfl (m_rec hK hP) ⟨Nat.le_of_ble_eq_true rfl, Nat.le_of_ble_eq_true rfl⟩ rfl hl.1 (As := [.int ((-1000000001))]) (rest := []) (st1 := [.int ((-1000000001))]) rfl rfl (Nat.le_of_ble_eq_true rfl) ⟨Nat.le_of_ble_eq_true rfl, Nat.le_of_ble_eq_true rfl⟩ dX5_on_35 (fun H locs hP hS => ?_)
        subst hQ
        exact mp_ri hx hb hr hlocks hP hS dX5_on_38 (by first | rfl | (simp only [fnd, if_pos c_5, if_pos c_17, if_neg c_29]; done) | (simp only [fnd, c_5, c_17, c_29, Bool.false_eq_true, Bool.true_eq_false, and_true, true_and, false_and, and_false, and_self, not_true_eq_false, not_false_eq_true, if_true, if_false, reduceIte, or_false, false_or, true_or, or_true]; done) | (subst_vars; first | rfl | (simp only [fnd, if_pos c_5, if_pos c_17, if_neg c_29]; done) | (simp only [fnd, c_5, c_17, c_29, Bool.false_eq_true, Bool.true_eq_false, and_true, true_and, false_and, and_false, and_self, not_true_eq_false, not_false_eq_true, if_true, if_false, reduceIte, or_false, false_or, true_or, or_true]; done))) (by first | rfl | (simp only [fnd, if_pos c_5, if_pos c_17, if_neg c_29]; done) | (simp only [fnd, c_5, c_17, c_29, Bool.false_eq_true, Bool.true_eq_false, and_true, true_and, false_and, and_false, and_self, not_true_eq_false, not_false_eq_true, if_true, if_false, reduceIte, or_false, false_or, true_or, or_true]; done) | (subst_vars; first | rfl | (simp only [fnd, if_pos c_5, if_pos c_17, if_neg c_29]; done) | (simp only [fnd, c_5, c_17, c_29, Bool.false_eq_true, Bool.true_eq_false, and_true, true_and, false_and, and_false, and_self, not_true_eq_false, not_false_eq_true, if_true, if_false, reduceIte, or_false, false_or, true_or, or_true]; done)))
theorem i_X5_on : ciOk yX5_on cX5_on 4 (some .int) wsX5_on 3 := ⟨⟨_, rfl⟩, by decide +kernel⟩
set_option maxHeartbeats 4000000 in
set_option maxRecDepth 100000 in
theorem c_X5_fund {l : Launch} {D : va_G} {cy : Nat → ClassId} {ad : Nat → Nat} {sr kS ot asd stt : Nat → Int32} {ik : Int32} {tp : Nat → Int32} {td fr tt vl wr : Int32} {bo so : Nat → Int32} {nu mv : Nat → Int64} {q : Int32} {N : Nat} (hN : sr 0 = nI N) (h8 : N ≤ 8) : Met l yX5_fund wsX5_fund (rmz 8 178) (wPre D (mK D cy ad) (mw cy ad sr kS ot asd stt ik tp td fr tt vl wr bo so nu mv) [.ref (ad 0), .int (q)]) (mPub D cy ad (some (.int (if rg 0 200 q then hrsF N q.toNatClampNeg sr 2 else -1000000001))) sr kS (if rg 0 200 q then stt else fnd stt 0) ik tp td bo so nu) 0 0 (mA ad) := by
  refine wq_entry rfl rfl (Nat.le_of_ble_eq_true rfl) ?_
  intro p e s0 m args below meth c S hr hlocks hK hP ls hl
  have S : CallFix p m c cX5_fund 2 s0 args wsX5_fund RX5 := S
  obtain ⟨hx, hb, hml, hown, hts⟩ := id S
  have hin : ∀ w ∈ wsX50, w ∈ wsX5_fund := fun w h => List.mem_cons_of_mem _ (List.mem_append_right _ h)
  have hS : va_S (mA ad) s0.heap s0.heap [] := va_S.rf
  have hl : lv_has ls 2 [(0, .ref (ad 0)), (1, .int (q))] := hl
  generalize hQ : MQ below (mPub D cy ad (some (.int (if rg 0 200 q then hrsF N q.toNatClampNeg sr 2 else -1000000001))) sr kS (if rg 0 200 q then stt else fnd stt 0) ik tp td bo so nu) args s0 0 0 (mA ad) = Q
  refine lv_iload_n hx hb dX5_fund_0 rfl (lv_at hl 1 rfl) ?_
  refine lv_i2l (v := (q).toInt64) hx hb dX5_fund_1 rfl ?_
  refine lv_lconst (v := 0) hx hb dX5_fund_2 (by decide) ?_
  refine lv_ldc2 (v := 200) hx hb hown (hts (.constantLong RX5 122 (200)) (by decide +kernel)) dX5_fund_3 ?_
  refine sq_S S (c_X5_inY) gX5_fund_X5_in i_X5_in ⟨Nat.le_of_ble_eq_true rfl, Nat.le_of_ble_eq_true rfl⟩ rfl hl.1 (As := [.long ((q).toInt64), .long (0), .long (200)]) (rest := []) (st1 := [.int (z (rg 0 200 (q)))]) rfl rfl (Nat.le_of_ble_eq_true rfl) ⟨Nat.le_of_ble_eq_true rfl, Nat.le_of_ble_eq_true rfl⟩ dX5_fund_6 ?_
  refine lvz_if_eq (tgt := 21) hx hb dX5_fund_9 (by decide) (fun c_9 => ?_) (fun c_9 => ?_)
  · skip
    refine lv_aload_n hx hb dX5_fund_21 rfl (lv_at hl 0 rfl) ?_
    refine lv_ldc (v := (-1000000001)) hx hb hown (hts (.constant RX5 41 ((-1000000001))) (by decide +kernel)) dX5_fund_22 ?_
    refine wq_V S mK_ok hK hP hS (c_X5_finds (t := 0) (by decide)) gX5_fund_X5_finds i_X5_finds rfl (m_rec hK hP) ⟨Nat.le_of_ble_eq_true rfl, Nat.le_of_ble_eq_true rfl⟩ rfl hl.1 (As := [.int ((-1000000001))]) (rest := []) (st1 := [.int ((-1000000001))]) rfl rfl (Nat.le_of_ble_eq_true rfl) ⟨Nat.le_of_ble_eq_true rfl, Nat.le_of_ble_eq_true rfl⟩ dX5_fund_24 (fun H locs hP hS => ?_)
    subst hQ
    exact mp_ri hx hb hr hlocks hP hS dX5_fund_27 (by first | rfl | (simp only [fnd, if_neg c_9]; done) | (simp only [fnd, c_9, Bool.false_eq_true, Bool.true_eq_false, and_true, true_and, false_and, and_false, and_self, not_true_eq_false, not_false_eq_true, if_true, if_false, reduceIte, or_false, false_or, true_or, or_true]; done) | (subst_vars; first | rfl | (simp only [fnd, if_neg c_9]; done) | (simp only [fnd, c_9, Bool.false_eq_true, Bool.true_eq_false, and_true, true_and, false_and, and_false, and_self, not_true_eq_false, not_false_eq_true, if_true, if_false, reduceIte, or_false, false_or, true_or, or_true]; done))) (by first | rfl | (simp only [fnd, if_neg c_9]; done) | (simp only [fnd, c_9, Bool.false_eq_true, Bool.true_eq_false, and_true, true_and, false_and, and_false, and_self, not_true_eq_false, not_false_eq_true, if_true, if_false, reduceIte, or_false, false_or, true_or, or_true]; done) | (subst_vars; first | rfl | (simp only [fnd, if_neg c_9]; done) | (simp only [fnd, c_9, Bool.false_eq_true, Bool.true_eq_false, and_true, true_and, false_and, and_false, and_self, not_true_eq_false, not_false_eq_true, if_true, if_false, reduceIte, or_false, false_or, true_or, or_true]; done)))
  · skip
    obtain ⟨i, h_i, h_i2, rfl⟩ := rg_ix (a := 0) (b := 200) (by decide) c_9
    have hcl_i : (nI i).toNatClampNeg = i := nI_clamp (by omega)
    refine lv_aload_n hx hb dX5_fund_12 rfl (lv_at hl 0 rfl) ?_
    refine lv_iconst (v := nI 2) hx hb dX5_fund_13 (by decide) ?_
    refine lv_iload_n hx hb dX5_fund_14 rfl (lv_at hl 1 rfl) ?_
    refine wq_V S mK_ok hK hP hS (c_X5_behind hN h8 (by omega) (by omega)) gX5_fund_X5_behind i_X5_behind rfl (m_rec hK hP) ⟨Nat.le_of_ble_eq_true rfl, Nat.le_of_ble_eq_true rfl⟩ rfl hl.1 (As := [.int (nI 2), .int (nI i)]) (rest := []) (st1 := [.int ((hrsF N i sr) 2)]) rfl rfl (Nat.le_of_ble_eq_true rfl) ⟨Nat.le_of_ble_eq_true rfl, Nat.le_of_ble_eq_true rfl⟩ dX5_fund_15 (fun H locs hP hS => ?_)
    refine lv_goto (tgt := 27) hx hb dX5_fund_18 (by decide) ?_
    subst hQ
    exact mp_ri hx hb hr hlocks hP hS dX5_fund_27 (by first | rfl | (simp only [fnd, if_pos c_9]; done) | (simp only [fnd, hcl_i, c_9, Bool.false_eq_true, Bool.true_eq_false, and_true, true_and, false_and, and_false, and_self, not_true_eq_false, not_false_eq_true, if_true, if_false, reduceIte, or_false, false_or, true_or, or_true]; done) | (subst_vars; first | rfl | (simp only [fnd, if_pos c_9]; done) | (simp only [fnd, hcl_i, c_9, Bool.false_eq_true, Bool.true_eq_false, and_true, true_and, false_and, and_false, and_self, not_true_eq_false, not_false_eq_true, if_true, if_false, reduceIte, or_false, false_or, true_or, or_true]; done))) (by first | rfl | (simp only [fnd, if_pos c_9]; done) | (simp only [fnd, hcl_i, c_9, Bool.false_eq_true, Bool.true_eq_false, and_true, true_and, false_and, and_false, and_self, not_true_eq_false, not_false_eq_true, if_true, if_false, reduceIte, or_false, false_or, true_or, or_true]; done) | (subst_vars; first | rfl | (simp only [fnd, if_pos c_9]; done) | (simp only [fnd, hcl_i, c_9, Bool.false_eq_true, Bool.true_eq_false, and_true, true_and, false_and, and_false, and_self, not_true_eq_false, not_false_eq_true, if_true, if_false, reduceIte, or_false, false_or, true_or, or_true]; done)))
theorem i_X5_fund : ciOk yX5_fund cX5_fund 2 (some .int) wsX5_fund 1 := ⟨⟨_, rfl⟩, by decide +kernel⟩
set_option maxHeartbeats 4000000 in
set_option maxRecDepth 100000 in
theorem c_X5_firstAs {l : Launch} {D : va_G} {cy : Nat → ClassId} {ad : Nat → Nat} {sr kS ot asd stt : Nat → Int32} {ik : Int32} {tp : Nat → Int32} {td fr tt vl wr : Int32} {bo so : Nat → Int32} {nu mv : Nat → Int64} {wh : Nat} {v : Int32} {N : Nat} (hN : sr 0 = nI N) (h8 : N ≤ 8) (hw : wh < 69) : Met l yX5_firstAs wsX5_firstAs (rmz 6 134) (wPre D (mK D cy ad) (mw cy ad sr kS ot asd stt ik tp td fr tt vl wr bo so nu mv) [.ref (ad 0), .int (nI wh), .int (v)]) (wPost D (mw cy ad sr kS ot sr (if firstL N wh v 201 0 sr ≤ 200 then stt else fnd stt 3) ik tp td fr tt vl wr bo so nu mv) (some (.int (if firstL N wh v 201 0 sr ≤ 200 then nI (firstL N wh v 201 0 sr) else -1000000004))) (mA ad)) 0 0 (mA ad) := by
  refine wq_entry rfl rfl (Nat.le_of_ble_eq_true rfl) ?_
  intro p e s0 m args below meth c S hr hlocks hK hP ls hl
  have S : CallFix p m c cX5_firstAs 5 s0 args wsX5_firstAs RX5 := S
  obtain ⟨hx, hb, hml, hown, hts⟩ := id S
  have hin : ∀ w ∈ wsX50, w ∈ wsX5_firstAs := fun w h => List.mem_cons_of_mem _ (List.mem_append_right _ h)
  have hS : va_S (mA ad) s0.heap s0.heap [] := va_S.rf
  have hl : lv_has ls 5 [(0, .ref (ad 0)), (1, .int (nI wh)), (2, .int (v))] := hl
  generalize hQ : MQ below (wPost D (mw cy ad sr kS ot sr (if firstL N wh v 201 0 sr ≤ 200 then stt else fnd stt 3) ik tp td fr tt vl wr bo so nu mv) (some (.int (if firstL N wh v 201 0 sr ≤ 200 then nI (firstL N wh v 201 0 sr) else -1000000004))) (mA ad)) args s0 0 0 (mA ad) = Q
  refine lv_aload_n hx hb dX5_firstAs_0 rfl (lv_at hl 0 rfl) ?_
  refine wq_V S mK_ok hK hP hS (c_X5_laysAside) gX5_firstAs_X5_laysAside i_X5_laysAside rfl (m_rec hK hP) ⟨Nat.le_of_ble_eq_true rfl, Nat.le_of_ble_eq_true rfl⟩ rfl hl.1 (As := []) (rest := []) (st1 := []) rfl rfl (Nat.le_of_ble_eq_true rfl) ⟨Nat.le_of_ble_eq_true rfl, Nat.le_of_ble_eq_true rfl⟩ dX5_firstAs_1 (fun H locs hP hS => ?_)
  refine lv_iconst (v := nI 0) hx hb dX5_firstAs_4 (by decide) ?_
  refine lv_istore_n (lv' := [(3, .int (nI 0)), (0, .ref (ad 0)), (1, .int (nI wh)), (2, .int (v))]) hx hb dX5_firstAs_5 rfl hl (by decide) rfl (fun ls hl => ?_)
  have L_6 : ∀ (n : Nat) (j : Nat) (ss : Nat → Int32) (H : Heap) (locs : List Loc) (ls : Array Slot), j + n = 201 → ss 0 = nI N → firstL N wh v 201 0 sr = firstL N wh v n j ss → va_P D vwCl (mw cy ad ss kS ot sr stt ik tp td fr tt vl wr bo so nu mv) H → va_S (mA ad) s0.heap H locs → lv_has ls 5 [(3, .int (nI j)), (0, .ref (ad 0)), (1, .int (nI wh)), (2, .int (v))] → W p l e (rmz 6 134) s0 m args below meth c H locs 0 0 Q (F0 m 6 ls []) := by
    intro n
    induction n with
    | zero =>
      intro j ss H locs ls hj hm hF hP hS hl
      refine lv_iload_n hx hb dX5_firstAs_6 rfl (lv_at hl 0 rfl) ?_
      refine lv_sipush (v := nI 200) hx hb dX5_firstAs_7 (by decide) ?_
      refine lvn_icmp_gt (tgt := 33) hx hb dX5_firstAs_10 (by decide) (by omega) (by omega) (fun c_10 => ?_) (fun c_10 => ?_)
      · skip
        have hE : firstL N wh v 201 0 sr = j := by first | exact hF | exact hF.trans (if_pos c_20)
        refine lv_aload_n hx hb dX5_firstAs_33 rfl (lv_at hl 1 rfl) ?_
        refine lv_iload_n hx hb dX5_firstAs_34 rfl (lv_at hl 0 rfl) ?_
        refine wq_V S mK_ok hK hP hS (c_X5_takesBack) gX5_firstAs_X5_takesBack i_X5_takesBack rfl (m_rec hK hP) ⟨Nat.le_of_ble_eq_true rfl, Nat.le_of_ble_eq_true rfl⟩ rfl hl.1 (As := [.int (nI j)]) (rest := []) (st1 := [.int (nI j)]) rfl rfl (Nat.le_of_ble_eq_true rfl) ⟨Nat.le_of_ble_eq_true rfl, Nat.le_of_ble_eq_true rfl⟩ dX5_firstAs_35 (fun H locs hP hS => ?_)
        refine lv_istore (lv' := [(4, .int (nI j)), (3, .int (nI j)), (0, .ref (ad 0)), (1, .int (nI wh)), (2, .int (v))]) hx hb dX5_firstAs_38 hl (by decide) rfl (fun ls hl => ?_)
        refine lv_iload hx hb dX5_firstAs_40 (lv_at hl 0 rfl) ?_
        refine lv_sipush (v := nI 200) hx hb dX5_firstAs_42 (by decide) ?_
        refine lvn_icmp_le (tgt := 57) hx hb dX5_firstAs_45 (by decide) (by omega) (by omega) (fun c_45 => ?_) (fun c_45 => ?_)
        · skip
          refine lv_iload hx hb dX5_firstAs_57 (lv_at hl 0 rfl) ?_
          subst hQ
          exact wq_ri hx hb hr hlocks hP hS dX5_firstAs_59 (by rw [hE]; first | rw [if_pos c_45] | rw [if_neg c_45]) (by rw [hE]; first | rw [if_pos c_45] | (rw [if_neg c_45]; rfl))
        · skip
          refine lv_aload_n hx hb dX5_firstAs_48 rfl (lv_at hl 2 rfl) ?_
          refine lv_ldc (v := (-1000000004)) hx hb hown (hts (.constant RX5 144 ((-1000000004))) (by decide +kernel)) dX5_firstAs_49 ?_
          refine wq_V S mK_ok hK hP hS (c_X5_finds (t := 3) (by decide)) gX5_firstAs_X5_finds i_X5_finds rfl (m_rec hK hP) ⟨Nat.le_of_ble_eq_true rfl, Nat.le_of_ble_eq_true rfl⟩ rfl hl.1 (As := [.int ((-1000000004))]) (rest := []) (st1 := [.int ((-1000000004))]) rfl rfl (Nat.le_of_ble_eq_true rfl) ⟨Nat.le_of_ble_eq_true rfl, Nat.le_of_ble_eq_true rfl⟩ dX5_firstAs_51 (fun H locs hP hS => ?_)
          refine lv_goto (tgt := 59) hx hb dX5_firstAs_54 (by decide) ?_
          subst hQ
          exact wq_ri hx hb hr hlocks hP hS dX5_firstAs_59 (by rw [hE]; first | rw [if_pos c_45] | rw [if_neg c_45]) (by rw [hE]; first | rw [if_pos c_45] | (rw [if_neg c_45]; rfl))
      · skip
        exfalso; omega
    | succ n ih_6 =>
      intro j ss H locs ls hj hm hF hP hS hl
      refine lv_iload_n hx hb dX5_firstAs_6 rfl (lv_at hl 0 rfl) ?_
      refine lv_sipush (v := nI 200) hx hb dX5_firstAs_7 (by decide) ?_
      refine lvn_icmp_gt (tgt := 33) hx hb dX5_firstAs_10 (by decide) (by omega) (by omega) (fun c_10 => ?_) (fun c_10 => ?_)
      · skip
        exfalso; omega
      · skip
        refine lv_aload_n hx hb dX5_firstAs_13 rfl (lv_at hl 1 rfl) ?_
        refine m_get hx hb hts hin hown hK hP 0 (by decide) (hts (.fieldLink RX5 7 "PennyRoadModel" "s" "[I") (by decide +kernel)) rfl dX5_firstAs_14 ?_
        refine lv_iload_n hx hb dX5_firstAs_17 rfl (lv_at hl 2 rfl) ?_
        refine m_ald hx hb hK hP 1 rfl (by decide) (by omega) dX5_firstAs_18 ?_
        refine lv_iload_n hx hb dX5_firstAs_19 rfl (lv_at hl 3 rfl) ?_
        refine lv_icmp_eq (tgt := 33) hx hb dX5_firstAs_20 (by decide) (fun c_20 => ?_) (fun c_20 => ?_)
        · skip
          have hE : firstL N wh v 201 0 sr = j := by first | exact hF | exact hF.trans (if_pos c_20)
          refine lv_aload_n hx hb dX5_firstAs_33 rfl (lv_at hl 1 rfl) ?_
          refine lv_iload_n hx hb dX5_firstAs_34 rfl (lv_at hl 0 rfl) ?_
          refine wq_V S mK_ok hK hP hS (c_X5_takesBack) gX5_firstAs_X5_takesBack i_X5_takesBack rfl (m_rec hK hP) ⟨Nat.le_of_ble_eq_true rfl, Nat.le_of_ble_eq_true rfl⟩ rfl hl.1 (As := [.int (nI j)]) (rest := []) (st1 := [.int (nI j)]) rfl rfl (Nat.le_of_ble_eq_true rfl) ⟨Nat.le_of_ble_eq_true rfl, Nat.le_of_ble_eq_true rfl⟩ dX5_firstAs_35 (fun H locs hP hS => ?_)
          refine lv_istore (lv' := [(4, .int (nI j)), (3, .int (nI j)), (0, .ref (ad 0)), (1, .int (nI wh)), (2, .int (v))]) hx hb dX5_firstAs_38 hl (by decide) rfl (fun ls hl => ?_)
          refine lv_iload hx hb dX5_firstAs_40 (lv_at hl 0 rfl) ?_
          refine lv_sipush (v := nI 200) hx hb dX5_firstAs_42 (by decide) ?_
          refine lvn_icmp_le (tgt := 57) hx hb dX5_firstAs_45 (by decide) (by omega) (by omega) (fun c_45 => ?_) (fun c_45 => ?_)
          · skip
            refine lv_iload hx hb dX5_firstAs_57 (lv_at hl 0 rfl) ?_
            subst hQ
            exact wq_ri hx hb hr hlocks hP hS dX5_firstAs_59 (by rw [hE]; first | rw [if_pos c_45] | rw [if_neg c_45]) (by rw [hE]; first | rw [if_pos c_45] | (rw [if_neg c_45]; rfl))
          · skip
            refine lv_aload_n hx hb dX5_firstAs_48 rfl (lv_at hl 2 rfl) ?_
            refine lv_ldc (v := (-1000000004)) hx hb hown (hts (.constant RX5 144 ((-1000000004))) (by decide +kernel)) dX5_firstAs_49 ?_
            refine wq_V S mK_ok hK hP hS (c_X5_finds (t := 3) (by decide)) gX5_firstAs_X5_finds i_X5_finds rfl (m_rec hK hP) ⟨Nat.le_of_ble_eq_true rfl, Nat.le_of_ble_eq_true rfl⟩ rfl hl.1 (As := [.int ((-1000000004))]) (rest := []) (st1 := [.int ((-1000000004))]) rfl rfl (Nat.le_of_ble_eq_true rfl) ⟨Nat.le_of_ble_eq_true rfl, Nat.le_of_ble_eq_true rfl⟩ dX5_firstAs_51 (fun H locs hP hS => ?_)
            refine lv_goto (tgt := 59) hx hb dX5_firstAs_54 (by decide) ?_
            subst hQ
            exact wq_ri hx hb hr hlocks hP hS dX5_firstAs_59 (by rw [hE]; first | rw [if_pos c_45] | rw [if_neg c_45]) (by rw [hE]; first | rw [if_pos c_45] | (rw [if_neg c_45]; rfl))
        · skip
          refine lv_aload_n hx hb dX5_firstAs_23 rfl (lv_at hl 1 rfl) ?_
          refine wq_V S mK_ok hK hP hS (c_X5_hour hm h8) gX5_firstAs_X5_hour i_X5_hour rfl (m_rec hK hP) ⟨Nat.le_of_ble_eq_true rfl, Nat.le_of_ble_eq_true rfl⟩ rfl hl.1 (As := []) (rest := []) (st1 := []) rfl rfl (Nat.le_of_ble_eq_true rfl) ⟨Nat.le_of_ble_eq_true rfl, Nat.le_of_ble_eq_true rfl⟩ dX5_firstAs_24 (fun H locs hP hS => ?_)
          refine lv_iinc (v := nI (j + 1)) (lv' := [(3, .int (nI (j + 1))), (0, .ref (ad 0)), (1, .int (nI wh)), (2, .int (v))]) hx hb dX5_firstAs_27 hl (k := 0) rfl (nI_add _ _) (by decide) rfl (fun ls hl => ?_)
          refine lv_goto (tgt := 6) hx hb dX5_firstAs_30 (by decide) ?_
          exact ih_6 (j + 1) _ _ _ ls (by omega) (hourF_0.trans hm) (hF.trans (if_neg c_20)) hP hS hl
  exact L_6 201 0 sr _ _ ls (by omega) hN rfl hP hS hl
theorem i_X5_firstAs : ciOk yX5_firstAs cX5_firstAs 5 (some .int) wsX5_firstAs 2 := ⟨⟨_, rfl⟩, by decide +kernel⟩
set_option maxHeartbeats 4000000 in
set_option maxRecDepth 100000 in
theorem c_X5_empty {l : Launch} {D : va_G} {cy : Nat → ClassId} {ad : Nat → Nat} {sr kS ot asd stt : Nat → Int32} {ik : Int32} {tp : Nat → Int32} {td fr tt vl wr : Int32} {bo so : Nat → Int32} {nu mv : Nat → Int64} {N : Nat} (hN : sr 0 = nI N) (h8 : N ≤ 8) : Met l yX5_empty wsX5_empty (rmz 7 158) (wPre D (mK D cy ad) (mw cy ad sr kS ot asd stt ik tp td fr tt vl wr bo so nu mv) [.ref (ad 0)]) (mPub D cy ad (some (.int (if firstL N 2 (nI 0) 201 0 sr ≤ 200 then nI (firstL N 2 (nI 0) 201 0 sr) else -1000000004))) sr kS (if firstL N 2 (nI 0) 201 0 sr ≤ 200 then stt else fnd stt 3) ik tp td bo so nu) 0 0 (mA ad) := by
  refine wq_entry rfl rfl (Nat.le_of_ble_eq_true rfl) ?_
  intro p e s0 m args below meth c S hr hlocks hK hP ls hl
  have S : CallFix p m c cX5_empty 1 s0 args wsX5_empty RX5 := S
  obtain ⟨hx, hb, hml, hown, hts⟩ := id S
  have hin : ∀ w ∈ wsX50, w ∈ wsX5_empty := fun w h => List.mem_cons_of_mem _ (List.mem_append_right _ h)
  have hS : va_S (mA ad) s0.heap s0.heap [] := va_S.rf
  have hl : lv_has ls 1 [(0, .ref (ad 0))] := hl
  generalize hQ : MQ below (mPub D cy ad (some (.int (if firstL N 2 (nI 0) 201 0 sr ≤ 200 then nI (firstL N 2 (nI 0) 201 0 sr) else -1000000004))) sr kS (if firstL N 2 (nI 0) 201 0 sr ≤ 200 then stt else fnd stt 3) ik tp td bo so nu) args s0 0 0 (mA ad) = Q
  refine lv_aload_n hx hb dX5_empty_0 rfl (lv_at hl 0 rfl) ?_
  refine lv_iconst (v := nI 2) hx hb dX5_empty_1 (by decide) ?_
  refine lv_iconst (v := nI 0) hx hb dX5_empty_2 (by decide) ?_
  refine wq_V S mK_ok hK hP hS (c_X5_firstAs hN h8 (by omega)) gX5_empty_X5_firstAs i_X5_firstAs rfl (m_rec hK hP) ⟨Nat.le_of_ble_eq_true rfl, Nat.le_of_ble_eq_true rfl⟩ rfl hl.1 (As := [.int (nI 2), .int (nI 0)]) (rest := []) (st1 := [.int (if firstL N 2 (nI 0) 201 0 sr ≤ 200 then nI (firstL N 2 (nI 0) 201 0 sr) else -1000000004)]) rfl rfl (Nat.le_of_ble_eq_true rfl) ⟨Nat.le_of_ble_eq_true rfl, Nat.le_of_ble_eq_true rfl⟩ dX5_empty_3 (fun H locs hP hS => ?_)
  subst hQ
  exact mp_ri hx hb hr hlocks hP hS dX5_empty_6 (by first | rfl | (simp only [fnd]; done) | (simp only [fnd, Bool.false_eq_true, Bool.true_eq_false, and_true, true_and, false_and, and_false, and_self, not_true_eq_false, not_false_eq_true, if_true, if_false, reduceIte, or_false, false_or, true_or, or_true]; done) | (subst_vars; first | rfl | (simp only [fnd]; done) | (simp only [fnd, Bool.false_eq_true, Bool.true_eq_false, and_true, true_and, false_and, and_false, and_self, not_true_eq_false, not_false_eq_true, if_true, if_false, reduceIte, or_false, false_or, true_or, or_true]; done))) (by first | rfl | (simp only [fnd]; done) | (simp only [fnd, Bool.false_eq_true, Bool.true_eq_false, and_true, true_and, false_and, and_false, and_self, not_true_eq_false, not_false_eq_true, if_true, if_false, reduceIte, or_false, false_or, true_or, or_true]; done) | (subst_vars; first | rfl | (simp only [fnd]; done) | (simp only [fnd, Bool.false_eq_true, Bool.true_eq_false, and_true, true_and, false_and, and_false, and_self, not_true_eq_false, not_false_eq_true, if_true, if_false, reduceIte, or_false, false_or, true_or, or_true]; done)))
theorem i_X5_empty : ciOk yX5_empty cX5_empty 1 (some .int) wsX5_empty 0 := ⟨⟨_, rfl⟩, by decide +kernel⟩
set_option maxHeartbeats 4000000 in
set_option maxRecDepth 100000 in
theorem c_X5_comes {l : Launch} {D : va_G} {cy : Nat → ClassId} {ad : Nat → Nat} {sr kS ot asd stt : Nat → Int32} {ik : Int32} {tp : Nat → Int32} {td fr tt vl wr : Int32} {bo so : Nat → Int32} {nu mv : Nat → Int64} {q : Int32} {o : Int32} {N : Nat} (hN : sr 0 = nI N) (h8 : N ≤ 8) : Met l yX5_comes wsX5_comes (rmz 7 158) (wPre D (mK D cy ad) (mw cy ad sr kS ot asd stt ik tp td fr tt vl wr bo so nu mv) [.ref (ad 0), .int (q), .int (o)]) (mPub D cy ad (some (.int (if isN N q ∧ rg 0 12 o then (if firstL N (5 + 8 * q.toNatClampNeg + 1) o 201 0 sr ≤ 200 then nI (firstL N (5 + 8 * q.toNatClampNeg + 1) o 201 0 sr) else -1000000004) else -1000000001))) sr kS (if isN N q ∧ rg 0 12 o then (if firstL N (5 + 8 * q.toNatClampNeg + 1) o 201 0 sr ≤ 200 then stt else fnd stt 3) else fnd stt 0) ik tp td bo so nu) 0 0 (mA ad) := by
  refine wq_entry rfl rfl (Nat.le_of_ble_eq_true rfl) ?_
  intro p e s0 m args below meth c S hr hlocks hK hP ls hl
  have S : CallFix p m c cX5_comes 3 s0 args wsX5_comes RX5 := S
  obtain ⟨hx, hb, hml, hown, hts⟩ := id S
  have hin : ∀ w ∈ wsX50, w ∈ wsX5_comes := fun w h => List.mem_cons_of_mem _ (List.mem_append_right _ h)
  have hS : va_S (mA ad) s0.heap s0.heap [] := va_S.rf
  have hl : lv_has ls 3 [(0, .ref (ad 0)), (1, .int (q)), (2, .int (o))] := hl
  generalize hQ : MQ below (mPub D cy ad (some (.int (if isN N q ∧ rg 0 12 o then (if firstL N (5 + 8 * q.toNatClampNeg + 1) o 201 0 sr ≤ 200 then nI (firstL N (5 + 8 * q.toNatClampNeg + 1) o 201 0 sr) else -1000000004) else -1000000001))) sr kS (if isN N q ∧ rg 0 12 o then (if firstL N (5 + 8 * q.toNatClampNeg + 1) o 201 0 sr ≤ 200 then stt else fnd stt 3) else fnd stt 0) ik tp td bo so nu) args s0 0 0 (mA ad) = Q
  refine lv_aload_n hx hb dX5_comes_0 rfl (lv_at hl 0 rfl) ?_
  refine lv_iload_n hx hb dX5_comes_1 rfl (lv_at hl 1 rfl) ?_
  refine wq_V S mK_ok hK hP hS (c_X5_isWalker hN h8) gX5_comes_X5_isWalker i_X5_isWalker rfl (m_rec hK hP) ⟨Nat.le_of_ble_eq_true rfl, Nat.le_of_ble_eq_true rfl⟩ rfl hl.1 (As := [.int (q)]) (rest := []) (st1 := [.int (z (isN N (q)))]) rfl rfl (Nat.le_of_ble_eq_true rfl) ⟨Nat.le_of_ble_eq_true rfl, Nat.le_of_ble_eq_true rfl⟩ dX5_comes_2 (fun H locs hP hS => ?_)
  refine lvz_if_eq (tgt := 28) hx hb dX5_comes_5 (by decide) (fun c_5 => ?_) (fun c_5 => ?_)
  · skip
    refine lv_aload_n hx hb dX5_comes_28 rfl (lv_at hl 0 rfl) ?_
    refine lv_ldc (v := (-1000000001)) hx hb hown (hts (.constant RX5 41 ((-1000000001))) (by decide +kernel)) dX5_comes_29 ?_
    refine wq_V S mK_ok hK hP hS (c_X5_finds (t := 0) (by decide)) gX5_comes_X5_finds i_X5_finds rfl (m_rec hK hP) ⟨Nat.le_of_ble_eq_true rfl, Nat.le_of_ble_eq_true rfl⟩ rfl hl.1 (As := [.int ((-1000000001))]) (rest := []) (st1 := [.int ((-1000000001))]) rfl rfl (Nat.le_of_ble_eq_true rfl) ⟨Nat.le_of_ble_eq_true rfl, Nat.le_of_ble_eq_true rfl⟩ dX5_comes_31 (fun H locs hP hS => ?_)
    subst hQ
    exact mp_ri hx hb hr hlocks hP hS dX5_comes_34 (by first | rfl | (simp only [fnd, if_neg c_5]; done) | (simp only [fnd, c_5, Bool.false_eq_true, Bool.true_eq_false, and_true, true_and, false_and, and_false, and_self, not_true_eq_false, not_false_eq_true, if_true, if_false, reduceIte, or_false, false_or, true_or, or_true]; done) | (subst_vars; first | rfl | (simp only [fnd, if_neg c_5]; done) | (simp only [fnd, c_5, Bool.false_eq_true, Bool.true_eq_false, and_true, true_and, false_and, and_false, and_self, not_true_eq_false, not_false_eq_true, if_true, if_false, reduceIte, or_false, false_or, true_or, or_true]; done))) (by first | rfl | (simp only [fnd, if_neg c_5]; done) | (simp only [fnd, c_5, Bool.false_eq_true, Bool.true_eq_false, and_true, true_and, false_and, and_false, and_self, not_true_eq_false, not_false_eq_true, if_true, if_false, reduceIte, or_false, false_or, true_or, or_true]; done) | (subst_vars; first | rfl | (simp only [fnd, if_neg c_5]; done) | (simp only [fnd, c_5, Bool.false_eq_true, Bool.true_eq_false, and_true, true_and, false_and, and_false, and_self, not_true_eq_false, not_false_eq_true, if_true, if_false, reduceIte, or_false, false_or, true_or, or_true]; done)))
  · skip
    refine lv_iload_n hx hb dX5_comes_8 rfl (lv_at hl 2 rfl) ?_
    refine sq_S S (c_X5_isMile) gX5_comes_X5_isMile i_X5_isMile ⟨Nat.le_of_ble_eq_true rfl, Nat.le_of_ble_eq_true rfl⟩ rfl hl.1 (As := [.int (o)]) (rest := []) (st1 := [.int (z (rg 0 12 (o)))]) rfl rfl (Nat.le_of_ble_eq_true rfl) ⟨Nat.le_of_ble_eq_true rfl, Nat.le_of_ble_eq_true rfl⟩ dX5_comes_9 ?_
    refine lvz_if_eq (tgt := 28) hx hb dX5_comes_12 (by decide) (fun c_12 => ?_) (fun c_12 => ?_)
    · skip
      refine lv_aload_n hx hb dX5_comes_28 rfl (lv_at hl 0 rfl) ?_
      refine lv_ldc (v := (-1000000001)) hx hb hown (hts (.constant RX5 41 ((-1000000001))) (by decide +kernel)) dX5_comes_29 ?_
      refine wq_V S mK_ok hK hP hS (c_X5_finds (t := 0) (by decide)) gX5_comes_X5_finds i_X5_finds rfl (m_rec hK hP) ⟨Nat.le_of_ble_eq_true rfl, Nat.le_of_ble_eq_true rfl⟩ rfl hl.1 (As := [.int ((-1000000001))]) (rest := []) (st1 := [.int ((-1000000001))]) rfl rfl (Nat.le_of_ble_eq_true rfl) ⟨Nat.le_of_ble_eq_true rfl, Nat.le_of_ble_eq_true rfl⟩ dX5_comes_31 (fun H locs hP hS => ?_)
      subst hQ
      exact mp_ri hx hb hr hlocks hP hS dX5_comes_34 (by first | rfl | (simp only [fnd, if_pos c_5, if_neg c_12]; done) | (simp only [fnd, c_5, c_12, Bool.false_eq_true, Bool.true_eq_false, and_true, true_and, false_and, and_false, and_self, not_true_eq_false, not_false_eq_true, if_true, if_false, reduceIte, or_false, false_or, true_or, or_true]; done) | (subst_vars; first | rfl | (simp only [fnd, if_pos c_5, if_neg c_12]; done) | (simp only [fnd, c_5, c_12, Bool.false_eq_true, Bool.true_eq_false, and_true, true_and, false_and, and_false, and_self, not_true_eq_false, not_false_eq_true, if_true, if_false, reduceIte, or_false, false_or, true_or, or_true]; done))) (by first | rfl | (simp only [fnd, if_pos c_5, if_neg c_12]; done) | (simp only [fnd, c_5, c_12, Bool.false_eq_true, Bool.true_eq_false, and_true, true_and, false_and, and_false, and_self, not_true_eq_false, not_false_eq_true, if_true, if_false, reduceIte, or_false, false_or, true_or, or_true]; done) | (subst_vars; first | rfl | (simp only [fnd, if_pos c_5, if_neg c_12]; done) | (simp only [fnd, c_5, c_12, Bool.false_eq_true, Bool.true_eq_false, and_true, true_and, false_and, and_false, and_self, not_true_eq_false, not_false_eq_true, if_true, if_false, reduceIte, or_false, false_or, true_or, or_true]; done)))
    · skip
      obtain ⟨i, h_i, rfl⟩ := isN_ix h8 c_5
      have hcl_i : (nI i).toNatClampNeg = i := nI_clamp (by omega)
      refine lv_aload_n hx hb dX5_comes_15 rfl (lv_at hl 0 rfl) ?_
      refine lv_iload_n hx hb dX5_comes_16 rfl (lv_at hl 1 rfl) ?_
      refine lv_iconst (v := nI 1) hx hb dX5_comes_17 (by decide) ?_
      refine sq_S S (c_X5_spotOf) gX5_comes_X5_spotOf i_X5_spotOf ⟨Nat.le_of_ble_eq_true rfl, Nat.le_of_ble_eq_true rfl⟩ rfl hl.1 (As := [.int (nI i), .int (nI 1)]) (rest := [.ref (ad 0)]) (st1 := [.int (nI (5 + 8 * i + 1)), .ref (ad 0)]) rfl rfl (Nat.le_of_ble_eq_true rfl) ⟨Nat.le_of_ble_eq_true rfl, Nat.le_of_ble_eq_true rfl⟩ dX5_comes_18 ?_
      refine lv_iload_n hx hb dX5_comes_21 rfl (lv_at hl 2 rfl) ?_
      refine wq_V S mK_ok hK hP hS (c_X5_firstAs hN h8 (by omega)) gX5_comes_X5_firstAs i_X5_firstAs rfl (m_rec hK hP) ⟨Nat.le_of_ble_eq_true rfl, Nat.le_of_ble_eq_true rfl⟩ rfl hl.1 (As := [.int (nI (5 + 8 * i + 1)), .int (o)]) (rest := []) (st1 := [.int (if firstL N (5 + 8 * i + 1) (o) 201 0 sr ≤ 200 then nI (firstL N (5 + 8 * i + 1) (o) 201 0 sr) else -1000000004)]) rfl rfl (Nat.le_of_ble_eq_true rfl) ⟨Nat.le_of_ble_eq_true rfl, Nat.le_of_ble_eq_true rfl⟩ dX5_comes_22 (fun H locs hP hS => ?_)
      refine lv_goto (tgt := 34) hx hb dX5_comes_25 (by decide) ?_
      subst hQ
      exact mp_ri hx hb hr hlocks hP hS dX5_comes_34 (by first | rfl | (simp only [fnd, if_pos c_5, if_pos c_12]; done) | (simp only [fnd, hcl_i, c_5, c_12, Bool.false_eq_true, Bool.true_eq_false, and_true, true_and, false_and, and_false, and_self, not_true_eq_false, not_false_eq_true, if_true, if_false, reduceIte, or_false, false_or, true_or, or_true]; done) | (subst_vars; first | rfl | (simp only [fnd, if_pos c_5, if_pos c_12]; done) | (simp only [fnd, hcl_i, c_5, c_12, Bool.false_eq_true, Bool.true_eq_false, and_true, true_and, false_and, and_false, and_self, not_true_eq_false, not_false_eq_true, if_true, if_false, reduceIte, or_false, false_or, true_or, or_true]; done))) (by first | rfl | (simp only [fnd, if_pos c_5, if_pos c_12]; done) | (simp only [fnd, hcl_i, c_5, c_12, Bool.false_eq_true, Bool.true_eq_false, and_true, true_and, false_and, and_false, and_self, not_true_eq_false, not_false_eq_true, if_true, if_false, reduceIte, or_false, false_or, true_or, or_true]; done) | (subst_vars; first | rfl | (simp only [fnd, if_pos c_5, if_pos c_12]; done) | (simp only [fnd, hcl_i, c_5, c_12, Bool.false_eq_true, Bool.true_eq_false, and_true, true_and, false_and, and_false, and_self, not_true_eq_false, not_false_eq_true, if_true, if_false, reduceIte, or_false, false_or, true_or, or_true]; done)))
theorem i_X5_comes : ciOk yX5_comes cX5_comes 3 (some .int) wsX5_comes 2 := ⟨⟨_, rfl⟩, by decide +kernel⟩
set_option maxHeartbeats 4000000 in
set_option maxRecDepth 100000 in
theorem c_X5_worn {l : Launch} {D : va_G} {cy : Nat → ClassId} {ad : Nat → Nat} {sr kS ot asd stt : Nat → Int32} {ik : Int32} {tp : Nat → Int32} {td fr tt vl wr : Int32} {bo so : Nat → Int32} {nu mv : Nat → Int64} {q : Int32} {N : Nat} (hN : sr 0 = nI N) (h8 : N ≤ 8) : Met l yX5_worn wsX5_worn (rmz 7 158) (wPre D (mK D cy ad) (mw cy ad sr kS ot asd stt ik tp td fr tt vl wr bo so nu mv) [.ref (ad 0), .int (q)]) (mPub D cy ad (some (.int (if isN N q then (if firstL N (5 + 8 * q.toNatClampNeg + 3) (nI 0) 201 0 sr ≤ 200 then nI (firstL N (5 + 8 * q.toNatClampNeg + 3) (nI 0) 201 0 sr) else -1000000004) else -1000000001))) sr kS (if isN N q then (if firstL N (5 + 8 * q.toNatClampNeg + 3) (nI 0) 201 0 sr ≤ 200 then stt else fnd stt 3) else fnd stt 0) ik tp td bo so nu) 0 0 (mA ad) := by
  refine wq_entry rfl rfl (Nat.le_of_ble_eq_true rfl) ?_
  intro p e s0 m args below meth c S hr hlocks hK hP ls hl
  have S : CallFix p m c cX5_worn 2 s0 args wsX5_worn RX5 := S
  obtain ⟨hx, hb, hml, hown, hts⟩ := id S
  have hin : ∀ w ∈ wsX50, w ∈ wsX5_worn := fun w h => List.mem_cons_of_mem _ (List.mem_append_right _ h)
  have hS : va_S (mA ad) s0.heap s0.heap [] := va_S.rf
  have hl : lv_has ls 2 [(0, .ref (ad 0)), (1, .int (q))] := hl
  generalize hQ : MQ below (mPub D cy ad (some (.int (if isN N q then (if firstL N (5 + 8 * q.toNatClampNeg + 3) (nI 0) 201 0 sr ≤ 200 then nI (firstL N (5 + 8 * q.toNatClampNeg + 3) (nI 0) 201 0 sr) else -1000000004) else -1000000001))) sr kS (if isN N q then (if firstL N (5 + 8 * q.toNatClampNeg + 3) (nI 0) 201 0 sr ≤ 200 then stt else fnd stt 3) else fnd stt 0) ik tp td bo so nu) args s0 0 0 (mA ad) = Q
  refine lv_aload_n hx hb dX5_worn_0 rfl (lv_at hl 0 rfl) ?_
  refine lv_iload_n hx hb dX5_worn_1 rfl (lv_at hl 1 rfl) ?_
  refine wq_V S mK_ok hK hP hS (c_X5_isWalker hN h8) gX5_worn_X5_isWalker i_X5_isWalker rfl (m_rec hK hP) ⟨Nat.le_of_ble_eq_true rfl, Nat.le_of_ble_eq_true rfl⟩ rfl hl.1 (As := [.int (q)]) (rest := []) (st1 := [.int (z (isN N (q)))]) rfl rfl (Nat.le_of_ble_eq_true rfl) ⟨Nat.le_of_ble_eq_true rfl, Nat.le_of_ble_eq_true rfl⟩ dX5_worn_2 (fun H locs hP hS => ?_)
  refine lvz_if_eq (tgt := 21) hx hb dX5_worn_5 (by decide) (fun c_5 => ?_) (fun c_5 => ?_)
  · skip
    refine lv_aload_n hx hb dX5_worn_21 rfl (lv_at hl 0 rfl) ?_
    refine lv_ldc (v := (-1000000001)) hx hb hown (hts (.constant RX5 41 ((-1000000001))) (by decide +kernel)) dX5_worn_22 ?_
    refine wq_V S mK_ok hK hP hS (c_X5_finds (t := 0) (by decide)) gX5_worn_X5_finds i_X5_finds rfl (m_rec hK hP) ⟨Nat.le_of_ble_eq_true rfl, Nat.le_of_ble_eq_true rfl⟩ rfl hl.1 (As := [.int ((-1000000001))]) (rest := []) (st1 := [.int ((-1000000001))]) rfl rfl (Nat.le_of_ble_eq_true rfl) ⟨Nat.le_of_ble_eq_true rfl, Nat.le_of_ble_eq_true rfl⟩ dX5_worn_24 (fun H locs hP hS => ?_)
    subst hQ
    exact mp_ri hx hb hr hlocks hP hS dX5_worn_27 (by first | rfl | (simp only [fnd, if_neg c_5]; done) | (simp only [fnd, c_5, Bool.false_eq_true, Bool.true_eq_false, and_true, true_and, false_and, and_false, and_self, not_true_eq_false, not_false_eq_true, if_true, if_false, reduceIte, or_false, false_or, true_or, or_true]; done) | (subst_vars; first | rfl | (simp only [fnd, if_neg c_5]; done) | (simp only [fnd, c_5, Bool.false_eq_true, Bool.true_eq_false, and_true, true_and, false_and, and_false, and_self, not_true_eq_false, not_false_eq_true, if_true, if_false, reduceIte, or_false, false_or, true_or, or_true]; done))) (by first | rfl | (simp only [fnd, if_neg c_5]; done) | (simp only [fnd, c_5, Bool.false_eq_true, Bool.true_eq_false, and_true, true_and, false_and, and_false, and_self, not_true_eq_false, not_false_eq_true, if_true, if_false, reduceIte, or_false, false_or, true_or, or_true]; done) | (subst_vars; first | rfl | (simp only [fnd, if_neg c_5]; done) | (simp only [fnd, c_5, Bool.false_eq_true, Bool.true_eq_false, and_true, true_and, false_and, and_false, and_self, not_true_eq_false, not_false_eq_true, if_true, if_false, reduceIte, or_false, false_or, true_or, or_true]; done)))
  · skip
    obtain ⟨i, h_i, rfl⟩ := isN_ix h8 c_5
    have hcl_i : (nI i).toNatClampNeg = i := nI_clamp (by omega)
    refine lv_aload_n hx hb dX5_worn_8 rfl (lv_at hl 0 rfl) ?_
    refine lv_iload_n hx hb dX5_worn_9 rfl (lv_at hl 1 rfl) ?_
    refine lv_iconst (v := nI 3) hx hb dX5_worn_10 (by decide) ?_
    refine sq_S S (c_X5_spotOf) gX5_worn_X5_spotOf i_X5_spotOf ⟨Nat.le_of_ble_eq_true rfl, Nat.le_of_ble_eq_true rfl⟩ rfl hl.1 (As := [.int (nI i), .int (nI 3)]) (rest := [.ref (ad 0)]) (st1 := [.int (nI (5 + 8 * i + 3)), .ref (ad 0)]) rfl rfl (Nat.le_of_ble_eq_true rfl) ⟨Nat.le_of_ble_eq_true rfl, Nat.le_of_ble_eq_true rfl⟩ dX5_worn_11 ?_
    refine lv_iconst (v := nI 0) hx hb dX5_worn_14 (by decide) ?_
    refine wq_V S mK_ok hK hP hS (c_X5_firstAs hN h8 (by omega)) gX5_worn_X5_firstAs i_X5_firstAs rfl (m_rec hK hP) ⟨Nat.le_of_ble_eq_true rfl, Nat.le_of_ble_eq_true rfl⟩ rfl hl.1 (As := [.int (nI (5 + 8 * i + 3)), .int (nI 0)]) (rest := []) (st1 := [.int (if firstL N (5 + 8 * i + 3) (nI 0) 201 0 sr ≤ 200 then nI (firstL N (5 + 8 * i + 3) (nI 0) 201 0 sr) else -1000000004)]) rfl rfl (Nat.le_of_ble_eq_true rfl) ⟨Nat.le_of_ble_eq_true rfl, Nat.le_of_ble_eq_true rfl⟩ dX5_worn_15 (fun H locs hP hS => ?_)
    refine lv_goto (tgt := 27) hx hb dX5_worn_18 (by decide) ?_
    subst hQ
    exact mp_ri hx hb hr hlocks hP hS dX5_worn_27 (by first | rfl | (simp only [fnd, if_pos c_5]; done) | (simp only [fnd, hcl_i, c_5, Bool.false_eq_true, Bool.true_eq_false, and_true, true_and, false_and, and_false, and_self, not_true_eq_false, not_false_eq_true, if_true, if_false, reduceIte, or_false, false_or, true_or, or_true]; done) | (subst_vars; first | rfl | (simp only [fnd, if_pos c_5]; done) | (simp only [fnd, hcl_i, c_5, Bool.false_eq_true, Bool.true_eq_false, and_true, true_and, false_and, and_false, and_self, not_true_eq_false, not_false_eq_true, if_true, if_false, reduceIte, or_false, false_or, true_or, or_true]; done))) (by first | rfl | (simp only [fnd, if_pos c_5]; done) | (simp only [fnd, hcl_i, c_5, Bool.false_eq_true, Bool.true_eq_false, and_true, true_and, false_and, and_false, and_self, not_true_eq_false, not_false_eq_true, if_true, if_false, reduceIte, or_false, false_or, true_or, or_true]; done) | (subst_vars; first | rfl | (simp only [fnd, if_pos c_5]; done) | (simp only [fnd, hcl_i, c_5, Bool.false_eq_true, Bool.true_eq_false, and_true, true_and, false_and, and_false, and_self, not_true_eq_false, not_false_eq_true, if_true, if_false, reduceIte, or_false, false_or, true_or, or_true]; done)))
theorem i_X5_worn : ciOk yX5_worn cX5_worn 2 (some .int) wsX5_worn 1 := ⟨⟨_, rfl⟩, by decide +kernel⟩
