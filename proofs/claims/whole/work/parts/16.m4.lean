set_option maxHeartbeats 1000000 in
set_option maxRecDepth 100000 in
theorem c_X5_wipe {l : Launch} {D : va_G} {cy : Nat → ClassId} {ad : Nat → Nat} {sr kS ot asd stt : Nat → Int32} {ik : Int32} {tp : Nat → Int32} {td fr tt vl wr : Int32} {bo so : Nat → Int32} {nu mv : Nat → Int64} : Met l yX5_wipe wsX5_wipe (rmz 0 0) (wPre D (mK D cy ad) (mw cy ad sr kS ot asd stt ik tp td fr tt vl wr bo so nu mv) [.ref (ad 0)]) (mPub D cy ad (some (.int (td))) sr kS stt ik tp (nI 0) bo so nu) 0 0 (mA ad) := by
  refine wq_entry rfl rfl (Nat.le_of_ble_eq_true rfl) ?_
  intro p e s0 m args below meth c S hr hlocks hK hP ls hl
  have S : CallFix p m c cX5_wipe 2 s0 args wsX5_wipe RX5 := S
  obtain ⟨hx, hb, hml, hown, hts⟩ := id S
  have hin : ∀ w ∈ wsX50, w ∈ wsX5_wipe := fun w h => List.mem_cons_of_mem _ (List.mem_append_right _ h)
  have hS : va_S (mA ad) s0.heap s0.heap [] := va_S.rf
  have hl : lv_has ls 2 [(0, .ref (ad 0))] := hl
  generalize hQ : MQ below (mPub D cy ad (some (.int (td))) sr kS stt ik tp (nI 0) bo so nu) args s0 0 0 (mA ad) = Q
  refine lv_aload_n hx hb dX5_wipe_0 rfl (lv_at hl 0 rfl) ?_
  refine m_get hx hb hts hin hown hK hP 7 (by decide) (hts (.fieldLink RX5 167 "PennyRoadModel" "taped" "I") (by decide +kernel)) rfl dX5_wipe_1 ?_
  refine lv_istore_n (lv' := [(1, .int (td)), (0, .ref (ad 0))]) hx hb dX5_wipe_4 rfl hl (by decide) rfl (fun ls hl => ?_)
  refine lv_aload_n hx hb dX5_wipe_5 rfl (lv_at hl 1 rfl) ?_
  refine lv_iconst (v := nI 0) hx hb dX5_wipe_6 (by decide) ?_
  refine m_put (w' := (mw cy ad sr kS ot asd stt ik tp (nI 0) fr tt vl wr bo so nu mv)) (ty := .int) hx hb hts hin hown hK hP hS 7 (by decide) (hts (.fieldLink RX5 167 "PennyRoadModel" "taped" "I") (by decide +kernel)) rfl (by decide +kernel) rfl rfl rfl dX5_wipe_7 (fun H locs hP hS => ?_)
  refine lv_iload_n hx hb dX5_wipe_10 rfl (lv_at hl 0 rfl) ?_
  subst hQ
  exact mp_ri hx hb hr hlocks hP hS dX5_wipe_11 (by first | with_reducible rfl | (simp only [fnd]; done) | (simp only [fnd, Bool.false_eq_true, Bool.true_eq_false, and_true, true_and, false_and, and_false, and_self, not_true_eq_false, not_false_eq_true, if_true, if_false, reduceIte, or_false, false_or, true_or, or_true]; done) | (subst_vars; first | with_reducible rfl | (simp only [fnd]; done) | (simp only [fnd, Bool.false_eq_true, Bool.true_eq_false, and_true, true_and, false_and, and_false, and_self, not_true_eq_false, not_false_eq_true, if_true, if_false, reduceIte, or_false, false_or, true_or, or_true]; done)) | contradiction | rfl) (by first | with_reducible rfl | (simp only [fnd]; done) | (simp only [fnd, Bool.false_eq_true, Bool.true_eq_false, and_true, true_and, false_and, and_false, and_self, not_true_eq_false, not_false_eq_true, if_true, if_false, reduceIte, or_false, false_or, true_or, or_true]; done) | (subst_vars; first | with_reducible rfl | (simp only [fnd]; done) | (simp only [fnd, Bool.false_eq_true, Bool.true_eq_false, and_true, true_and, false_and, and_false, and_self, not_true_eq_false, not_false_eq_true, if_true, if_false, reduceIte, or_false, false_or, true_or, or_true]; done)) | contradiction | rfl)
theorem i_X5_wipe : ciOk yX5_wipe cX5_wipe 2 (some .int) wsX5_wipe 0 := ⟨⟨_, rfl⟩, by decide +kernel⟩
set_option maxHeartbeats 1000000 in
set_option maxRecDepth 100000 in
theorem c_X5_image {l : Launch} {D : va_G} {cy : Nat → ClassId} {ad : Nat → Nat} {sr kS ot asd stt : Nat → Int32} {ik : Int32} {tp : Nat → Int32} {td fr tt vl wr : Int32} {bo so : Nat → Int32} {nu mv : Nat → Int64} : Met l yX5_image wsX5_image (rmz 0 0) (wPre D (mK D cy ad) (mw cy ad sr kS ot asd stt ik tp td fr tt vl wr bo so nu mv) [.ref (ad 0)]) (mPub D cy ad (some (.int (nI 1))) sr sr stt (nI 1) tp td bo so nu) 0 0 (mA ad) := by
  refine wq_entry rfl rfl (Nat.le_of_ble_eq_true rfl) ?_
  intro p e s0 m args below meth c S hr hlocks hK hP ls hl
  have S : CallFix p m c cX5_image 2 s0 args wsX5_image RX5 := S
  obtain ⟨hx, hb, hml, hown, hts⟩ := id S
  have hin : ∀ w ∈ wsX50, w ∈ wsX5_image := fun w h => List.mem_cons_of_mem _ (List.mem_append_right _ h)
  have hS : va_S (mA ad) s0.heap s0.heap [] := va_S.rf
  have hl : lv_has ls 2 [(0, .ref (ad 0))] := hl
  generalize hQ : MQ below (mPub D cy ad (some (.int (nI 1))) sr sr stt (nI 1) tp td bo so nu) args s0 0 0 (mA ad) = Q
  refine lv_iconst (v := nI 0) hx hb dX5_image_0 (by decide) ?_
  refine lv_istore_n (lv' := [(1, .int (nI 0)), (0, .ref (ad 0))]) hx hb dX5_image_1 rfl hl (by decide) rfl (fun ls hl => ?_)
  have L_2 : ∀ (n : Nat) (j : Nat) (H : Heap) (locs : List Loc) (ls : Array Slot), (j + n = 69) → va_P D vwCl (mw cy ad sr (cpn j sr kS) ot asd stt ik tp td fr tt vl wr bo so nu mv) H → va_S (mA ad) s0.heap H locs → lv_has ls 2 [(1, .int (nI j)), (0, .ref (ad 0))] → W p l e (rmz 0 0) s0 m args below meth c H locs 0 0 Q (F0 m 2 ls []) := by
    intro n
    induction n with
    | zero =>
      intro j H locs ls hj hP hS hl
      refine lv_iload_n hx hb dX5_image_2 rfl (lv_at hl 0 rfl) ?_
      refine lv_bipush (v := nI 69) hx hb dX5_image_3 (by decide) ?_
      refine lvn_icmp_ge (tgt := 26) hx hb dX5_image_5 (by decide) (by omega) (by omega) (fun c_5 => ?_) (fun c_5 => ?_)
      · skip
        have hj9 : j = 69 := by omega
        subst hj9
        have hP := m_ext hP (fun _ _ => rfl) (fun k h => cpn_in h) (fun _ _ => rfl) (fun _ _ => rfl)
        refine lv_aload_n hx hb dX5_image_26 rfl (lv_at hl 1 rfl) ?_
        refine lv_iconst (v := nI 1) hx hb dX5_image_27 (by decide) ?_
        refine m_put (w' := (mw cy ad sr sr ot asd stt (nI 1) tp td fr tt vl wr bo so nu mv)) (ty := .boolean) hx hb hts hin hown hK hP hS 5 (by decide) (hts (.fieldLink RX5 286 "PennyRoadModel" "isKept" "Z") (by decide +kernel)) rfl (by decide +kernel) rfl rfl rfl dX5_image_28 (fun H locs hP hS => ?_)
        refine lv_iconst (v := nI 1) hx hb dX5_image_31 (by decide) ?_
        subst hQ
        exact mp_ri hx hb hr hlocks hP hS dX5_image_32 (by first | with_reducible rfl | (simp only [fnd, if_pos c_5]; done) | (simp only [fnd, if_pos c_5, Bool.false_eq_true, Bool.true_eq_false, and_true, true_and, false_and, and_false, and_self, not_true_eq_false, not_false_eq_true, if_true, if_false, reduceIte, or_false, false_or, true_or, or_true]; done) | (subst_vars; first | with_reducible rfl | (simp only [fnd, if_pos c_5]; done) | (simp only [fnd, if_pos c_5, Bool.false_eq_true, Bool.true_eq_false, and_true, true_and, false_and, and_false, and_self, not_true_eq_false, not_false_eq_true, if_true, if_false, reduceIte, or_false, false_or, true_or, or_true]; done)) | contradiction | rfl) (by first | with_reducible rfl | (simp only [fnd, if_pos c_5]; done) | (simp only [fnd, if_pos c_5, Bool.false_eq_true, Bool.true_eq_false, and_true, true_and, false_and, and_false, and_self, not_true_eq_false, not_false_eq_true, if_true, if_false, reduceIte, or_false, false_or, true_or, or_true]; done) | (subst_vars; first | with_reducible rfl | (simp only [fnd, if_pos c_5]; done) | (simp only [fnd, if_pos c_5, Bool.false_eq_true, Bool.true_eq_false, and_true, true_and, false_and, and_false, and_self, not_true_eq_false, not_false_eq_true, if_true, if_false, reduceIte, or_false, false_or, true_or, or_true]; done)) | contradiction | rfl)
      · skip
        exfalso; omega
    | succ n ih_2 =>
      intro j H locs ls hj hP hS hl
      refine lv_iload_n hx hb dX5_image_2 rfl (lv_at hl 0 rfl) ?_
      refine lv_bipush (v := nI 69) hx hb dX5_image_3 (by decide) ?_
      refine lvn_icmp_ge (tgt := 26) hx hb dX5_image_5 (by decide) (by omega) (by omega) (fun c_5 => ?_) (fun c_5 => ?_)
      · skip
        exfalso; omega
      · skip
        refine lv_aload_n hx hb dX5_image_8 rfl (lv_at hl 1 rfl) ?_
        refine m_get hx hb hts hin hown hK hP 1 (by decide) (hts (.fieldLink RX5 13 "PennyRoadModel" "keptS" "[I") (by decide +kernel)) rfl dX5_image_9 ?_
        refine lv_iload_n hx hb dX5_image_12 rfl (lv_at hl 0 rfl) ?_
        refine lv_aload_n hx hb dX5_image_13 rfl (lv_at hl 1 rfl) ?_
        refine m_get hx hb hts hin hown hK hP 0 (by decide) (hts (.fieldLink RX5 7 "PennyRoadModel" "s" "[I") (by decide +kernel)) rfl dX5_image_14 ?_
        refine lv_iload_n hx hb dX5_image_17 rfl (lv_at hl 0 rfl) ?_
        refine m_ald hx hb hK hP 1 rfl (by decide) (by omega) dX5_image_18 ?_
        refine m_ast (w' := (mw cy ad sr (upd (cpn j sr kS) j (sr j)) ot asd stt ik tp td fr tt vl wr bo so nu mv)) hx hb hK hP hS 2 rfl (by decide) (by omega) rfl dX5_image_19 (fun H locs hP hS => ?_)
        refine lv_iinc (v := nI (j + 1)) (lv' := [(1, .int (nI (j + 1))), (0, .ref (ad 0))]) hx hb dX5_image_20 hl (k := 0) rfl (nI_add _ _) (by decide) rfl (fun ls hl => ?_)
        refine lv_goto (tgt := 2) hx hb dX5_image_23 (by decide) ?_
        exact ih_2 (j + 1) _ _ ls (by omega) (by rw [cpn_s] at hP; exact hP) hS hl
  exact L_2 69 0 _ _ ls (by omega) (by rw [cpn_0]; exact hP) hS hl
theorem i_X5_image : ciOk yX5_image cX5_image 2 (some .int) wsX5_image 0 := ⟨⟨_, rfl⟩, by decide +kernel⟩
set_option maxHeartbeats 1000000 in
set_option maxRecDepth 100000 in
theorem c_X5_undo {l : Launch} {D : va_G} {cy : Nat → ClassId} {ad : Nat → Nat} {sr kS ot asd stt : Nat → Int32} {ik : Int32} {tp : Nat → Int32} {td fr tt vl wr : Int32} {bo so : Nat → Int32} {nu mv : Nat → Int64} : Met l yX5_undo wsX5_undo (rmz 1 21) (wPre D (mK D cy ad) (mw cy ad sr kS ot asd stt ik tp td fr tt vl wr bo so nu mv) [.ref (ad 0)]) (mPub D cy ad (some (.int (if ik = 0 then -1000000004 else kS 0))) (if ik = 0 then sr else kS) kS (if ik = 0 then fnd stt 3 else stt) ik tp td bo so nu) 0 0 (mA ad) := by
  refine wq_entry rfl rfl (Nat.le_of_ble_eq_true rfl) ?_
  intro p e s0 m args below meth c S hr hlocks hK hP ls hl
  have S : CallFix p m c cX5_undo 2 s0 args wsX5_undo RX5 := S
  obtain ⟨hx, hb, hml, hown, hts⟩ := id S
  have hin : ∀ w ∈ wsX50, w ∈ wsX5_undo := fun w h => List.mem_cons_of_mem _ (List.mem_append_right _ h)
  have hS : va_S (mA ad) s0.heap s0.heap [] := va_S.rf
  have hl : lv_has ls 2 [(0, .ref (ad 0))] := hl
  generalize hQ : MQ below (mPub D cy ad (some (.int (if ik = 0 then -1000000004 else kS 0))) (if ik = 0 then sr else kS) kS (if ik = 0 then fnd stt 3 else stt) ik tp td bo so nu) args s0 0 0 (mA ad) = Q
  refine lv_aload_n hx hb dX5_undo_0 rfl (lv_at hl 0 rfl) ?_
  refine m_get hx hb hts hin hown hK hP 5 (by decide) (hts (.fieldLink RX5 286 "PennyRoadModel" "isKept" "Z") (by decide +kernel)) rfl dX5_undo_1 ?_
  refine lv_if_ne (tgt := 14) hx hb dX5_undo_4 (by decide) (fun c_4 => ?_) (fun c_4 => ?_)
  · skip
    refine lv_iconst (v := nI 0) hx hb dX5_undo_14 (by decide) ?_
    refine lv_istore_n (lv' := [(1, .int (nI 0)), (0, .ref (ad 0))]) hx hb dX5_undo_15 rfl hl (by decide) rfl (fun ls hl => ?_)
    have L_16 : ∀ (n : Nat) (j : Nat) (H : Heap) (locs : List Loc) (ls : Array Slot), (j + n = 69) → va_P D vwCl (mw cy ad (cpn j kS sr) kS ot asd stt ik tp td fr tt vl wr bo so nu mv) H → va_S (mA ad) s0.heap H locs → lv_has ls 2 [(1, .int (nI j)), (0, .ref (ad 0))] → W p l e (rmz 1 21) s0 m args below meth c H locs 0 0 Q (F0 m 16 ls []) := by
      intro n
      induction n with
      | zero =>
        intro j H locs ls hj hP hS hl
        refine lv_iload_n hx hb dX5_undo_16 rfl (lv_at hl 0 rfl) ?_
        refine lv_bipush (v := nI 69) hx hb dX5_undo_17 (by decide) ?_
        refine lvn_icmp_ge (tgt := 40) hx hb dX5_undo_19 (by decide) (by omega) (by omega) (fun c_19 => ?_) (fun c_19 => ?_)
        · skip
          have hj9 : j = 69 := by omega
          subst hj9
          have hP := m_ext hP (fun k h => cpn_in h) (fun _ _ => rfl) (fun _ _ => rfl) (fun _ _ => rfl)
          refine lv_aload_n hx hb dX5_undo_40 rfl (lv_at hl 1 rfl) ?_
          refine m_get hx hb hts hin hown hK hP 0 (by decide) (hts (.fieldLink RX5 7 "PennyRoadModel" "s" "[I") (by decide +kernel)) rfl dX5_undo_41 ?_
          refine lv_iconst (v := nI 0) hx hb dX5_undo_44 (by decide) ?_
          refine m_ald hx hb hK hP 1 rfl (by decide) (by omega) dX5_undo_45 ?_
          subst hQ
          exact mp_ri hx hb hr hlocks hP hS dX5_undo_46 (by first | with_reducible rfl | (simp only [fnd, if_neg c_4, if_pos c_19]; done) | (simp only [fnd, if_neg c_4, if_pos c_19, Bool.false_eq_true, Bool.true_eq_false, and_true, true_and, false_and, and_false, and_self, not_true_eq_false, not_false_eq_true, if_true, if_false, reduceIte, or_false, false_or, true_or, or_true]; done) | (subst_vars; first | with_reducible rfl | (simp only [fnd, if_neg c_4, if_pos c_19]; done) | (simp only [fnd, if_neg c_4, if_pos c_19, Bool.false_eq_true, Bool.true_eq_false, and_true, true_and, false_and, and_false, and_self, not_true_eq_false, not_false_eq_true, if_true, if_false, reduceIte, or_false, false_or, true_or, or_true]; done)) | contradiction | rfl) (by first | with_reducible rfl | (simp only [fnd, if_neg c_4, if_pos c_19]; done) | (simp only [fnd, if_neg c_4, if_pos c_19, Bool.false_eq_true, Bool.true_eq_false, and_true, true_and, false_and, and_false, and_self, not_true_eq_false, not_false_eq_true, if_true, if_false, reduceIte, or_false, false_or, true_or, or_true]; done) | (subst_vars; first | with_reducible rfl | (simp only [fnd, if_neg c_4, if_pos c_19]; done) | (simp only [fnd, if_neg c_4, if_pos c_19, Bool.false_eq_true, Bool.true_eq_false, and_true, true_and, false_and, and_false, and_self, not_true_eq_false, not_false_eq_true, if_true, if_false, reduceIte, or_false, false_or, true_or, or_true]; done)) | contradiction | rfl)
        · skip
          exfalso; omega
      | succ n ih_16 =>
        intro j H locs ls hj hP hS hl
        refine lv_iload_n hx hb dX5_undo_16 rfl (lv_at hl 0 rfl) ?_
        refine lv_bipush (v := nI 69) hx hb dX5_undo_17 (by decide) ?_
        refine lvn_icmp_ge (tgt := 40) hx hb dX5_undo_19 (by decide) (by omega) (by omega) (fun c_19 => ?_) (fun c_19 => ?_)
        · skip
          exfalso; omega
        · skip
          refine lv_aload_n hx hb dX5_undo_22 rfl (lv_at hl 1 rfl) ?_
          refine m_get hx hb hts hin hown hK hP 0 (by decide) (hts (.fieldLink RX5 7 "PennyRoadModel" "s" "[I") (by decide +kernel)) rfl dX5_undo_23 ?_
          refine lv_iload_n hx hb dX5_undo_26 rfl (lv_at hl 0 rfl) ?_
          refine lv_aload_n hx hb dX5_undo_27 rfl (lv_at hl 1 rfl) ?_
          refine m_get hx hb hts hin hown hK hP 1 (by decide) (hts (.fieldLink RX5 13 "PennyRoadModel" "keptS" "[I") (by decide +kernel)) rfl dX5_undo_28 ?_
          refine lv_iload_n hx hb dX5_undo_31 rfl (lv_at hl 0 rfl) ?_
          refine m_ald hx hb hK hP 2 rfl (by decide) (by omega) dX5_undo_32 ?_
          refine m_ast (w' := (mw cy ad (upd (cpn j kS sr) j (kS j)) kS ot asd stt ik tp td fr tt vl wr bo so nu mv)) hx hb hK hP hS 1 rfl (by decide) (by omega) rfl dX5_undo_33 (fun H locs hP hS => ?_)
          refine lv_iinc (v := nI (j + 1)) (lv' := [(1, .int (nI (j + 1))), (0, .ref (ad 0))]) hx hb dX5_undo_34 hl (k := 0) rfl (nI_add _ _) (by decide) rfl (fun ls hl => ?_)
          refine lv_goto (tgt := 16) hx hb dX5_undo_37 (by decide) ?_
          exact ih_16 (j + 1) _ _ ls (by omega) (by rw [cpn_s] at hP; exact hP) hS hl
    exact L_16 69 0 _ _ ls (by omega) (by rw [cpn_0]; exact hP) hS hl
  · skip
    refine lv_aload_n hx hb dX5_undo_7 rfl (lv_at hl 0 rfl) ?_
    refine lv_ldc (v := (-1000000004)) hx hb hown (hts (.constant RX5 144 ((-1000000004))) (by decide +kernel)) dX5_undo_8 ?_
    refine wq_V S mK_ok hK hP hS (c_X5_finds (t := 3) (by decide)) gX5_undo_X5_finds i_X5_finds rfl (m_rec hK hP) ⟨Nat.le_of_ble_eq_true rfl, Nat.le_of_ble_eq_true rfl⟩ rfl hl.1 (As := [.int ((-1000000004))]) (rest := []) (st1 := [.int ((-1000000004))]) rfl rfl (Nat.le_of_ble_eq_true rfl) ⟨Nat.le_of_ble_eq_true rfl, Nat.le_of_ble_eq_true rfl⟩ dX5_undo_10 (fun H locs hP hS => ?_)
    subst hQ
    exact mp_ri hx hb hr hlocks hP hS dX5_undo_13 (by first | with_reducible rfl | (simp only [fnd, if_pos c_4]; done) | (simp only [fnd, if_pos c_4, Bool.false_eq_true, Bool.true_eq_false, and_true, true_and, false_and, and_false, and_self, not_true_eq_false, not_false_eq_true, if_true, if_false, reduceIte, or_false, false_or, true_or, or_true]; done) | (subst_vars; first | with_reducible rfl | (simp only [fnd, if_pos c_4]; done) | (simp only [fnd, if_pos c_4, Bool.false_eq_true, Bool.true_eq_false, and_true, true_and, false_and, and_false, and_self, not_true_eq_false, not_false_eq_true, if_true, if_false, reduceIte, or_false, false_or, true_or, or_true]; done)) | contradiction | rfl) (by first | with_reducible rfl | (simp only [fnd, if_pos c_4]; done) | (simp only [fnd, if_pos c_4, Bool.false_eq_true, Bool.true_eq_false, and_true, true_and, false_and, and_false, and_self, not_true_eq_false, not_false_eq_true, if_true, if_false, reduceIte, or_false, false_or, true_or, or_true]; done) | (subst_vars; first | with_reducible rfl | (simp only [fnd, if_pos c_4]; done) | (simp only [fnd, if_pos c_4, Bool.false_eq_true, Bool.true_eq_false, and_true, true_and, false_and, and_false, and_self, not_true_eq_false, not_false_eq_true, if_true, if_false, reduceIte, or_false, false_or, true_or, or_true]; done)) | contradiction | rfl)
theorem i_X5_undo : ciOk yX5_undo cX5_undo 2 (some .int) wsX5_undo 0 := ⟨⟨_, rfl⟩, by decide +kernel⟩
set_option maxHeartbeats 1000000 in
set_option maxRecDepth 100000 in
theorem c_X5_tear {l : Launch} {D : va_G} {cy : Nat → ClassId} {ad : Nat → Nat} {sr kS ot asd stt : Nat → Int32} {ik : Int32} {tp : Nat → Int32} {td fr tt vl wr : Int32} {bo so : Nat → Int32} {nu mv : Nat → Int64} : Met l yX5_tear wsX5_tear (rmz 0 0) (wPre D (mK D cy ad) (mw cy ad sr kS ot asd stt ik tp td fr tt vl wr bo so nu mv) [.ref (ad 0)]) (mPub D cy ad (some (.int (if ik = 0 then nI 0 else nI 1))) sr kS stt (nI 0) tp td bo so nu) 0 0 (mA ad) := by
  refine wq_entry rfl rfl (Nat.le_of_ble_eq_true rfl) ?_
  intro p e s0 m args below meth c S hr hlocks hK hP ls hl
  have S : CallFix p m c cX5_tear 2 s0 args wsX5_tear RX5 := S
  obtain ⟨hx, hb, hml, hown, hts⟩ := id S
  have hin : ∀ w ∈ wsX50, w ∈ wsX5_tear := fun w h => List.mem_cons_of_mem _ (List.mem_append_right _ h)
  have hS : va_S (mA ad) s0.heap s0.heap [] := va_S.rf
  have hl : lv_has ls 2 [(0, .ref (ad 0))] := hl
  generalize hQ : MQ below (mPub D cy ad (some (.int (if ik = 0 then nI 0 else nI 1))) sr kS stt (nI 0) tp td bo so nu) args s0 0 0 (mA ad) = Q
  refine lv_aload_n hx hb dX5_tear_0 rfl (lv_at hl 0 rfl) ?_
  refine m_get hx hb hts hin hown hK hP 5 (by decide) (hts (.fieldLink RX5 286 "PennyRoadModel" "isKept" "Z") (by decide +kernel)) rfl dX5_tear_1 ?_
  have K_1 : ∀ (x_2 : Int32) (H : Heap) (locs : List Loc) (ls : Array Slot), x_2 = (if (ik) = 0 then (nI 0) else (nI 1)) → va_P D vwCl (mw cy ad sr kS ot asd stt ik tp td fr tt vl wr bo so nu mv) H → va_S (mA ad) s0.heap H locs → lv_has ls 2 [(0, .ref (ad 0))] → W p l e (rmz 0 0) s0 m args below meth c H locs 0 0 Q (F0 m 12 ls [.int (x_2)]) := by
    intro x_2 H locs ls ex_2 hP hS hl
    refine lv_istore_n (lv' := [(1, .int (x_2)), (0, .ref (ad 0))]) hx hb dX5_tear_12 rfl hl (by decide) rfl (fun ls hl => ?_)
    refine lv_aload_n hx hb dX5_tear_13 rfl (lv_at hl 1 rfl) ?_
    refine lv_iconst (v := nI 0) hx hb dX5_tear_14 (by decide) ?_
    refine m_put (w' := (mw cy ad sr kS ot asd stt (nI 0) tp td fr tt vl wr bo so nu mv)) (ty := .boolean) hx hb hts hin hown hK hP hS 5 (by decide) (hts (.fieldLink RX5 286 "PennyRoadModel" "isKept" "Z") (by decide +kernel)) rfl (by decide +kernel) rfl rfl rfl dX5_tear_15 (fun H locs hP hS => ?_)
    refine lv_iload_n hx hb dX5_tear_18 rfl (lv_at hl 0 rfl) ?_
    subst hQ
    exact mp_ri hx hb hr hlocks hP hS dX5_tear_19 (by first | with_reducible rfl | (simp only [fnd]; done) | (simp only [fnd, Bool.false_eq_true, Bool.true_eq_false, and_true, true_and, false_and, and_false, and_self, not_true_eq_false, not_false_eq_true, if_true, if_false, reduceIte, or_false, false_or, true_or, or_true]; done) | (subst_vars; first | with_reducible rfl | (simp only [fnd]; done) | (simp only [fnd, Bool.false_eq_true, Bool.true_eq_false, and_true, true_and, false_and, and_false, and_self, not_true_eq_false, not_false_eq_true, if_true, if_false, reduceIte, or_false, false_or, true_or, or_true]; done)) | contradiction | rfl) (by first | with_reducible rfl | (simp only [fnd]; done) | (simp only [fnd, Bool.false_eq_true, Bool.true_eq_false, and_true, true_and, false_and, and_false, and_self, not_true_eq_false, not_false_eq_true, if_true, if_false, reduceIte, or_false, false_or, true_or, or_true]; done) | (subst_vars; first | with_reducible rfl | (simp only [fnd]; done) | (simp only [fnd, Bool.false_eq_true, Bool.true_eq_false, and_true, true_and, false_and, and_false, and_self, not_true_eq_false, not_false_eq_true, if_true, if_false, reduceIte, or_false, false_or, true_or, or_true]; done)) | contradiction | rfl)
  refine lv_if_eq (tgt := 11) hx hb dX5_tear_4 (by decide) (fun c_4 => ?_) (fun c_4 => ?_)
  · skip
    refine lv_iconst (v := nI 0) hx hb dX5_tear_11 (by decide) ?_
    exact K_1 (nI 0) _ _ ls (by simp only [if_pos c_4]) hP hS hl
  · skip
    refine lv_iconst (v := nI 1) hx hb dX5_tear_7 (by decide) ?_
    refine lv_goto (tgt := 12) hx hb dX5_tear_8 (by decide) ?_
    exact K_1 (nI 1) _ _ ls (by simp only [if_neg c_4]) hP hS hl
theorem i_X5_tear : ciOk yX5_tear cX5_tear 2 (some .int) wsX5_tear 0 := ⟨⟨_, rfl⟩, by decide +kernel⟩
set_option maxHeartbeats 1000000 in
set_option maxRecDepth 100000 in
theorem c_X5_count {l : Launch} {D : va_G} {cy : Nat → ClassId} {ad : Nat → Nat} {sr kS ot asd stt : Nat → Int32} {ik : Int32} {tp : Nat → Int32} {td fr tt vl wr : Int32} {bo so : Nat → Int32} {nu mv : Nat → Int64} {q : Int32} {N : Nat} (hN : sr 0 = nI N) (h8 : N ≤ 8) : Met l yX5_count wsX5_count (rmz 3 66) (wPre D (mK D cy ad) (mw cy ad sr kS ot asd stt ik tp td fr tt vl wr bo so nu mv) [.ref (ad 0), .int (q)]) (mPub D cy ad (some (.int (countF sr N td q))) sr kS (if rg 0 3 q then stt else fnd stt 0) ik tp td bo so nu) 0 0 (mA ad) := by
  refine wq_entry rfl rfl (Nat.le_of_ble_eq_true rfl) ?_
  intro p e s0 m args below meth c S hr hlocks hK hP ls hl
  have S : CallFix p m c cX5_count 2 s0 args wsX5_count RX5 := S
  obtain ⟨hx, hb, hml, hown, hts⟩ := id S
  have hin : ∀ w ∈ wsX50, w ∈ wsX5_count := fun w h => List.mem_cons_of_mem _ (List.mem_append_right _ h)
  have hS : va_S (mA ad) s0.heap s0.heap [] := va_S.rf
  have hl : lv_has ls 2 [(0, .ref (ad 0)), (1, .int (q))] := hl
  generalize hQ : MQ below (mPub D cy ad (some (.int (countF sr N td q))) sr kS (if rg 0 3 q then stt else fnd stt 0) ik tp td bo so nu) args s0 0 0 (mA ad) = Q
  refine lv_iload_n hx hb dX5_count_0 rfl (lv_at hl 1 rfl) ?_
  by_cases c_1_0 : q = nI 0
  · skip
    refine lv_tableIn (tgt := 32) hx hb dX5_count_1 (by rw [c_1_0]; decide) (by rw [c_1_0]; decide) (by rw [c_1_0]; rfl) (by decide) ?_
    refine lv_aload_n hx hb dX5_count_32 rfl (lv_at hl 0 rfl) ?_
    refine m_get hx hb hts hin hown hK hP 0 (by decide) (hts (.fieldLink RX5 7 "PennyRoadModel" "s" "[I") (by decide +kernel)) rfl dX5_count_33 ?_
    refine lv_iconst (v := nI 0) hx hb dX5_count_36 (by decide) ?_
    refine m_ald hx hb hK hP 1 rfl (by decide) (by omega) dX5_count_37 ?_
    refine lv_top hN ?_
    subst hQ
    exact mp_ri hx hb hr hlocks hP hS dX5_count_38 (by first | with_reducible rfl | (simp only [fnd, countF, if_pos c_1_0]; done) | (simp only [fnd, countF, if_pos c_1_0, Bool.false_eq_true, Bool.true_eq_false, and_true, true_and, false_and, and_false, and_self, not_true_eq_false, not_false_eq_true, if_true, if_false, reduceIte, or_false, false_or, true_or, or_true]; done) | (subst_vars; first | with_reducible rfl | (simp only [fnd, countF, if_pos c_1_0]; done) | (simp only [fnd, countF, if_pos c_1_0, Bool.false_eq_true, Bool.true_eq_false, and_true, true_and, false_and, and_false, and_self, not_true_eq_false, not_false_eq_true, if_true, if_false, reduceIte, or_false, false_or, true_or, or_true]; done)) | contradiction | rfl) (by first | (subst_vars; rfl) | (rw [if_neg (rg03 c_1_0 c_1_1 c_1_2 c_1_3)]; rfl))
  by_cases c_1_1 : q = nI 1
  · skip
    refine lv_tableIn (tgt := 39) hx hb dX5_count_1 (by rw [c_1_1]; decide) (by rw [c_1_1]; decide) (by rw [c_1_1]; rfl) (by decide) ?_
    refine lv_aload_n hx hb dX5_count_39 rfl (lv_at hl 0 rfl) ?_
    refine m_get hx hb hts hin hown hK hP 7 (by decide) (hts (.fieldLink RX5 167 "PennyRoadModel" "taped" "I") (by decide +kernel)) rfl dX5_count_40 ?_
    subst hQ
    exact mp_ri hx hb hr hlocks hP hS dX5_count_43 (by first | with_reducible rfl | (simp only [fnd, countF, if_neg c_1_0, if_pos c_1_1]; done) | (simp only [fnd, countF, if_neg c_1_0, if_pos c_1_1, Bool.false_eq_true, Bool.true_eq_false, and_true, true_and, false_and, and_false, and_self, not_true_eq_false, not_false_eq_true, if_true, if_false, reduceIte, or_false, false_or, true_or, or_true]; done) | (subst_vars; first | with_reducible rfl | (simp only [fnd, countF, if_neg c_1_0, if_pos c_1_1]; done) | (simp only [fnd, countF, if_neg c_1_0, if_pos c_1_1, Bool.false_eq_true, Bool.true_eq_false, and_true, true_and, false_and, and_false, and_self, not_true_eq_false, not_false_eq_true, if_true, if_false, reduceIte, or_false, false_or, true_or, or_true]; done)) | contradiction | rfl) (by first | (subst_vars; rfl) | (rw [if_neg (rg03 c_1_0 c_1_1 c_1_2 c_1_3)]; rfl))
  by_cases c_1_2 : q = nI 2
  · skip
    refine lv_tableIn (tgt := 44) hx hb dX5_count_1 (by rw [c_1_2]; decide) (by rw [c_1_2]; decide) (by rw [c_1_2]; rfl) (by decide) ?_
    refine lv_aload_n hx hb dX5_count_44 rfl (lv_at hl 0 rfl) ?_
    refine lv_iconst (v := nI 2) hx hb dX5_count_45 (by decide) ?_
    refine wq_V S mK_ok hK hP hS (c_X5_together hN h8 (by omega)) gX5_count_X5_together i_X5_together rfl (m_rec hK hP) ⟨Nat.le_of_ble_eq_true rfl, Nat.le_of_ble_eq_true rfl⟩ rfl hl.1 (As := [.int (nI 2)]) (rest := []) (st1 := [.int (sumL sr 2 N 0 (nI 0))]) rfl rfl (Nat.le_of_ble_eq_true rfl) ⟨Nat.le_of_ble_eq_true rfl, Nat.le_of_ble_eq_true rfl⟩ dX5_count_46 (fun H locs hP hS => ?_)
    subst hQ
    exact mp_ri hx hb hr hlocks hP hS dX5_count_49 (by first | with_reducible rfl | (simp only [fnd, countF, if_neg c_1_0, if_neg c_1_1, if_pos c_1_2]; done) | (simp only [fnd, countF, if_neg c_1_0, if_neg c_1_1, if_pos c_1_2, Bool.false_eq_true, Bool.true_eq_false, and_true, true_and, false_and, and_false, and_self, not_true_eq_false, not_false_eq_true, if_true, if_false, reduceIte, or_false, false_or, true_or, or_true]; done) | (subst_vars; first | with_reducible rfl | (simp only [fnd, countF, if_neg c_1_0, if_neg c_1_1, if_pos c_1_2]; done) | (simp only [fnd, countF, if_neg c_1_0, if_neg c_1_1, if_pos c_1_2, Bool.false_eq_true, Bool.true_eq_false, and_true, true_and, false_and, and_false, and_self, not_true_eq_false, not_false_eq_true, if_true, if_false, reduceIte, or_false, false_or, true_or, or_true]; done)) | contradiction | rfl) (by first | (subst_vars; rfl) | (rw [if_neg (rg03 c_1_0 c_1_1 c_1_2 c_1_3)]; rfl))
  by_cases c_1_3 : q = nI 3
  · skip
    refine lv_tableIn (tgt := 50) hx hb dX5_count_1 (by rw [c_1_3]; decide) (by rw [c_1_3]; decide) (by rw [c_1_3]; rfl) (by decide) ?_
    refine lv_aload_n hx hb dX5_count_50 rfl (lv_at hl 0 rfl) ?_
    refine lv_iconst (v := nI 3) hx hb dX5_count_51 (by decide) ?_
    refine wq_V S mK_ok hK hP hS (c_X5_together hN h8 (by omega)) gX5_count_X5_together i_X5_together rfl (m_rec hK hP) ⟨Nat.le_of_ble_eq_true rfl, Nat.le_of_ble_eq_true rfl⟩ rfl hl.1 (As := [.int (nI 3)]) (rest := []) (st1 := [.int (sumL sr 3 N 0 (nI 0))]) rfl rfl (Nat.le_of_ble_eq_true rfl) ⟨Nat.le_of_ble_eq_true rfl, Nat.le_of_ble_eq_true rfl⟩ dX5_count_52 (fun H locs hP hS => ?_)
    subst hQ
    exact mp_ri hx hb hr hlocks hP hS dX5_count_55 (by first | with_reducible rfl | (simp only [fnd, countF, if_neg c_1_0, if_neg c_1_1, if_neg c_1_2, if_pos c_1_3]; done) | (simp only [fnd, countF, if_neg c_1_0, if_neg c_1_1, if_neg c_1_2, if_pos c_1_3, Bool.false_eq_true, Bool.true_eq_false, and_true, true_and, false_and, and_false, and_self, not_true_eq_false, not_false_eq_true, if_true, if_false, reduceIte, or_false, false_or, true_or, or_true]; done) | (subst_vars; first | with_reducible rfl | (simp only [fnd, countF, if_neg c_1_0, if_neg c_1_1, if_neg c_1_2, if_pos c_1_3]; done) | (simp only [fnd, countF, if_neg c_1_0, if_neg c_1_1, if_neg c_1_2, if_pos c_1_3, Bool.false_eq_true, Bool.true_eq_false, and_true, true_and, false_and, and_false, and_self, not_true_eq_false, not_false_eq_true, if_true, if_false, reduceIte, or_false, false_or, true_or, or_true]; done)) | contradiction | rfl) (by first | (subst_vars; rfl) | (rw [if_neg (rg03 c_1_0 c_1_1 c_1_2 c_1_3)]; rfl))
  refine lv_tableOut (tgt := 56) hx hb dX5_count_1 (by have h0 : (q).toInt ≠ 0 := ne_int c_1_0; have h1 : (q).toInt ≠ 1 := ne_int c_1_1; have h2 : (q).toInt ≠ 2 := ne_int c_1_2; have h3 : (q).toInt ≠ 3 := ne_int c_1_3; omega) (by decide) ?_
  refine lv_aload_n hx hb dX5_count_56 rfl (lv_at hl 0 rfl) ?_
  refine lv_ldc (v := (-1000000001)) hx hb hown (hts (.constant RX5 41 ((-1000000001))) (by decide +kernel)) dX5_count_57 ?_
  refine wq_V S mK_ok hK hP hS (c_X5_finds (t := 0) (by decide)) gX5_count_X5_finds i_X5_finds rfl (m_rec hK hP) ⟨Nat.le_of_ble_eq_true rfl, Nat.le_of_ble_eq_true rfl⟩ rfl hl.1 (As := [.int ((-1000000001))]) (rest := []) (st1 := [.int ((-1000000001))]) rfl rfl (Nat.le_of_ble_eq_true rfl) ⟨Nat.le_of_ble_eq_true rfl, Nat.le_of_ble_eq_true rfl⟩ dX5_count_59 (fun H locs hP hS => ?_)
  subst hQ
  exact mp_ri hx hb hr hlocks hP hS dX5_count_62 (by first | with_reducible rfl | (simp only [fnd, countF, if_neg c_1_0, if_neg c_1_1, if_neg c_1_2, if_neg c_1_3]; done) | (simp only [fnd, countF, if_neg c_1_0, if_neg c_1_1, if_neg c_1_2, if_neg c_1_3, Bool.false_eq_true, Bool.true_eq_false, and_true, true_and, false_and, and_false, and_self, not_true_eq_false, not_false_eq_true, if_true, if_false, reduceIte, or_false, false_or, true_or, or_true]; done) | (subst_vars; first | with_reducible rfl | (simp only [fnd, countF, if_neg c_1_0, if_neg c_1_1, if_neg c_1_2, if_neg c_1_3]; done) | (simp only [fnd, countF, if_neg c_1_0, if_neg c_1_1, if_neg c_1_2, if_neg c_1_3, Bool.false_eq_true, Bool.true_eq_false, and_true, true_and, false_and, and_false, and_self, not_true_eq_false, not_false_eq_true, if_true, if_false, reduceIte, or_false, false_or, true_or, or_true]; done)) | contradiction | rfl) (by first | (subst_vars; rfl) | (rw [if_neg (rg03 c_1_0 c_1_1 c_1_2 c_1_3)]; rfl))
theorem i_X5_count : ciOk yX5_count cX5_count 2 (some .int) wsX5_count 1 := ⟨⟨_, rfl⟩, by decide +kernel⟩
set_option maxHeartbeats 1000000 in
set_option maxRecDepth 100000 in
theorem c_X5_status {l : Launch} {D : va_G} {cy : Nat → ClassId} {ad : Nat → Nat} {sr kS ot asd stt : Nat → Int32} {ik : Int32} {tp : Nat → Int32} {td fr tt vl wr : Int32} {bo so : Nat → Int32} {nu mv : Nat → Int64} {q : Int32} : Met l yX5_status wsX5_status (rmz 1 25) (wPre D (mK D cy ad) (mw cy ad sr kS ot asd stt ik tp td fr tt vl wr bo so nu mv) [.ref (ad 0), .int (q)]) (mPub D cy ad (some (.int (if rg (-1) 6 q then statL stt q 7 0 (nI 0) else -1000000001))) sr kS (if rg (-1) 6 q then stt else fnd stt 0) ik tp td bo so nu) 0 0 (mA ad) := by
  refine wq_entry rfl rfl (Nat.le_of_ble_eq_true rfl) ?_
  intro p e s0 m args below meth c S hr hlocks hK hP ls hl
  have S : CallFix p m c cX5_status 4 s0 args wsX5_status RX5 := S
  obtain ⟨hx, hb, hml, hown, hts⟩ := id S
  have hin : ∀ w ∈ wsX50, w ∈ wsX5_status := fun w h => List.mem_cons_of_mem _ (List.mem_append_right _ h)
  have hS : va_S (mA ad) s0.heap s0.heap [] := va_S.rf
  have hl : lv_has ls 4 [(0, .ref (ad 0)), (1, .int (q))] := hl
  generalize hQ : MQ below (mPub D cy ad (some (.int (if rg (-1) 6 q then statL stt q 7 0 (nI 0) else -1000000001))) sr kS (if rg (-1) 6 q then stt else fnd stt 0) ik tp td bo so nu) args s0 0 0 (mA ad) = Q
  refine lv_iload_n hx hb dX5_status_0 rfl (lv_at hl 1 rfl) ?_
  refine lv_i2l (v := (q).toInt64) hx hb dX5_status_1 rfl ?_
  refine lv_ldc2 (v := (-1)) hx hb hown (hts (.constantLong RX5 289 ((-1))) (by decide +kernel)) dX5_status_2 ?_
  refine lv_ldc2 (v := 6) hx hb hown (hts (.constantLong RX5 291 (6)) (by decide +kernel)) dX5_status_5 ?_
  refine sq_S S (c_X5_inY) gX5_status_X5_in i_X5_in ⟨Nat.le_of_ble_eq_true rfl, Nat.le_of_ble_eq_true rfl⟩ rfl hl.1 (As := [.long ((q).toInt64), .long ((-1)), .long (6)]) (rest := []) (st1 := [.int (z (rg (-1) 6 (q)))]) rfl rfl (Nat.le_of_ble_eq_true rfl) ⟨Nat.le_of_ble_eq_true rfl, Nat.le_of_ble_eq_true rfl⟩ dX5_status_8 ?_
  refine lvz_if_ne (tgt := 21) hx hb dX5_status_11 (by decide) (fun c_11 => ?_) (fun c_11 => ?_)
  · skip
    refine lv_iconst (v := nI 0) hx hb dX5_status_21 (by decide) ?_
    refine lv_istore_n (lv' := [(2, .int (nI 0)), (0, .ref (ad 0)), (1, .int (q))]) hx hb dX5_status_22 rfl hl (by decide) rfl (fun ls hl => ?_)
    refine lv_iconst (v := nI 0) hx hb dX5_status_23 (by decide) ?_
    refine lv_istore_n (lv' := [(3, .int (nI 0)), (2, .int (nI 0)), (0, .ref (ad 0)), (1, .int (q))]) hx hb dX5_status_24 rfl hl (by decide) rfl (fun ls hl => ?_)
    have L_25 : ∀ (n : Nat) (j : Nat) (acc : Int32) (H : Heap) (locs : List Loc) (ls : Array Slot), (j + n = 7) → (statL stt q 7 0 (nI 0) = statL stt q n j acc) → va_P D vwCl (mw cy ad sr kS ot asd stt ik tp td fr tt vl wr bo so nu mv) H → va_S (mA ad) s0.heap H locs → lv_has ls 4 [(3, .int (nI j)), (2, .int (acc)), (0, .ref (ad 0)), (1, .int (q))] → W p l e (rmz 1 25) s0 m args below meth c H locs 0 0 Q (F0 m 25 ls []) := by
      intro n
      induction n with
      | zero =>
        intro j acc H locs ls hj hF hP hS hl
        refine lv_iload_n hx hb dX5_status_25 rfl (lv_at hl 0 rfl) ?_
        refine lv_bipush (v := nI 7) hx hb dX5_status_26 (by decide) ?_
        refine lvn_icmp_ge (tgt := 59) hx hb dX5_status_28 (by decide) (by omega) (by omega) (fun c_28 => ?_) (fun c_28 => ?_)
        · skip
          have hE : statL stt q 7 0 (nI 0) = acc := hF
          refine lv_iload_n hx hb dX5_status_59 rfl (lv_at hl 1 rfl) ?_
          subst hQ
          exact mp_ri hx hb hr hlocks hP hS dX5_status_60 (by first | with_reducible rfl | (simp only [fnd, if_pos c_11, if_pos c_28]; done) | (simp only [fnd, hE, c_11, if_pos c_28, Bool.false_eq_true, Bool.true_eq_false, and_true, true_and, false_and, and_false, and_self, not_true_eq_false, not_false_eq_true, if_true, if_false, reduceIte, or_false, false_or, true_or, or_true]; done) | (subst_vars; first | with_reducible rfl | (simp only [fnd, if_pos c_11, if_pos c_28]; done) | (simp only [fnd, hE, c_11, if_pos c_28, Bool.false_eq_true, Bool.true_eq_false, and_true, true_and, false_and, and_false, and_self, not_true_eq_false, not_false_eq_true, if_true, if_false, reduceIte, or_false, false_or, true_or, or_true]; done)) | contradiction | rfl) (by first | with_reducible rfl | (simp only [fnd, if_pos c_11, if_pos c_28]; done) | (simp only [fnd, hE, c_11, if_pos c_28, Bool.false_eq_true, Bool.true_eq_false, and_true, true_and, false_and, and_false, and_self, not_true_eq_false, not_false_eq_true, if_true, if_false, reduceIte, or_false, false_or, true_or, or_true]; done) | (subst_vars; first | with_reducible rfl | (simp only [fnd, if_pos c_11, if_pos c_28]; done) | (simp only [fnd, hE, c_11, if_pos c_28, Bool.false_eq_true, Bool.true_eq_false, and_true, true_and, false_and, and_false, and_self, not_true_eq_false, not_false_eq_true, if_true, if_false, reduceIte, or_false, false_or, true_or, or_true]; done)) | contradiction | rfl)
        · skip
          exfalso; omega
      | succ n ih_25 =>
        intro j acc H locs ls hj hF hP hS hl
        refine lv_iload_n hx hb dX5_status_25 rfl (lv_at hl 0 rfl) ?_
        refine lv_bipush (v := nI 7) hx hb dX5_status_26 (by decide) ?_
        refine lvn_icmp_ge (tgt := 59) hx hb dX5_status_28 (by decide) (by omega) (by omega) (fun c_28 => ?_) (fun c_28 => ?_)
        · skip
          exfalso; omega
        · skip
          refine lv_iload_n hx hb dX5_status_31 rfl (lv_at hl 1 rfl) ?_
          refine lv_iload_n hx hb dX5_status_32 rfl (lv_at hl 3 rfl) ?_
          have K_1 : ∀ (x_2 : Int32) (H : Heap) (locs : List Loc) (ls : Array Slot), x_2 = (if (q) < 0 then (stt j) else (if (nI j) = (q) then (stt j) else (nI 0))) → va_P D vwCl (mw cy ad sr kS ot asd stt ik tp td fr tt vl wr bo so nu mv) H → va_S (mA ad) s0.heap H locs → lv_has ls 4 [(3, .int (nI j)), (2, .int (acc)), (0, .ref (ad 0)), (1, .int (q))] → W p l e (rmz 1 25) s0 m args below meth c H locs 0 0 Q (F0 m 51 ls [.int (x_2), .int (acc)]) := by
            intro x_2 H locs ls ex_2 hP hS hl
            refine lv_iadd hx hb dX5_status_51 ?_
            refine lv_istore_n (lv' := [(2, .int ((acc) + (x_2))), (3, .int (nI j)), (0, .ref (ad 0)), (1, .int (q))]) hx hb dX5_status_52 rfl hl (by decide) rfl (fun ls hl => ?_)
            refine lv_iinc (v := nI (j + 1)) (lv' := [(3, .int (nI (j + 1))), (2, .int ((acc) + (x_2))), (0, .ref (ad 0)), (1, .int (q))]) hx hb dX5_status_53 hl (k := 1) rfl (nI_add _ _) (by decide) rfl (fun ls hl => ?_)
            refine lv_goto (tgt := 25) hx hb dX5_status_56 (by decide) ?_
            exact ih_25 (j + 1) _ _ _ ls (by omega) (by subst ex_2; exact hF) hP hS hl
          refine lv_if_lt (tgt := 41) hx hb dX5_status_33 (by decide) (fun c_33 => ?_) (fun c_33 => ?_)
          · skip
            refine lv_aload_n hx hb dX5_status_41 rfl (lv_at hl 2 rfl) ?_
            refine m_get hx hb hts hin hown hK hP 4 (by decide) (hts (.fieldLink RX5 22 "PennyRoadModel" "statuses" "[I") (by decide +kernel)) rfl dX5_status_42 ?_
            refine lv_iload_n hx hb dX5_status_45 rfl (lv_at hl 0 rfl) ?_
            refine m_ald hx hb hK hP 5 rfl (by decide) (by omega) dX5_status_46 ?_
            refine lv_goto (tgt := 51) hx hb dX5_status_47 (by decide) ?_
            exact K_1 (stt j) _ _ ls (by simp only [if_pos c_33]) hP hS hl
          · skip
            refine lv_iload_n hx hb dX5_status_36 rfl (lv_at hl 0 rfl) ?_
            refine lv_iload_n hx hb dX5_status_37 rfl (lv_at hl 3 rfl) ?_
            refine lv_icmp_ne (tgt := 50) hx hb dX5_status_38 (by decide) (fun c_38 => ?_) (fun c_38 => ?_)
            · skip
              refine lv_iconst (v := nI 0) hx hb dX5_status_50 (by decide) ?_
              exact K_1 (nI 0) _ _ ls (by simp only [if_neg c_33, if_neg c_38]) hP hS hl
            · skip
              refine lv_aload_n hx hb dX5_status_41 rfl (lv_at hl 2 rfl) ?_
              refine m_get hx hb hts hin hown hK hP 4 (by decide) (hts (.fieldLink RX5 22 "PennyRoadModel" "statuses" "[I") (by decide +kernel)) rfl dX5_status_42 ?_
              refine lv_iload_n hx hb dX5_status_45 rfl (lv_at hl 0 rfl) ?_
              refine m_ald hx hb hK hP 5 rfl (by decide) (by omega) dX5_status_46 ?_
              refine lv_goto (tgt := 51) hx hb dX5_status_47 (by decide) ?_
              exact K_1 (stt j) _ _ ls (by simp only [if_neg c_33, if_pos c_38]) hP hS hl
    exact L_25 7 0 (nI 0) _ _ ls (by omega) rfl hP hS hl
  · skip
    refine lv_aload_n hx hb dX5_status_14 rfl (lv_at hl 0 rfl) ?_
    refine lv_ldc (v := (-1000000001)) hx hb hown (hts (.constant RX5 41 ((-1000000001))) (by decide +kernel)) dX5_status_15 ?_
    refine wq_V S mK_ok hK hP hS (c_X5_finds (t := 0) (by decide)) gX5_status_X5_finds i_X5_finds rfl (m_rec hK hP) ⟨Nat.le_of_ble_eq_true rfl, Nat.le_of_ble_eq_true rfl⟩ rfl hl.1 (As := [.int ((-1000000001))]) (rest := []) (st1 := [.int ((-1000000001))]) rfl rfl (Nat.le_of_ble_eq_true rfl) ⟨Nat.le_of_ble_eq_true rfl, Nat.le_of_ble_eq_true rfl⟩ dX5_status_17 (fun H locs hP hS => ?_)
    subst hQ
    exact mp_ri hx hb hr hlocks hP hS dX5_status_20 (by first | with_reducible rfl | (simp only [fnd, if_neg c_11]; done) | (simp only [fnd, c_11, Bool.false_eq_true, Bool.true_eq_false, and_true, true_and, false_and, and_false, and_self, not_true_eq_false, not_false_eq_true, if_true, if_false, reduceIte, or_false, false_or, true_or, or_true]; done) | (subst_vars; first | with_reducible rfl | (simp only [fnd, if_neg c_11]; done) | (simp only [fnd, c_11, Bool.false_eq_true, Bool.true_eq_false, and_true, true_and, false_and, and_false, and_self, not_true_eq_false, not_false_eq_true, if_true, if_false, reduceIte, or_false, false_or, true_or, or_true]; done)) | contradiction | rfl) (by first | with_reducible rfl | (simp only [fnd, if_neg c_11]; done) | (simp only [fnd, c_11, Bool.false_eq_true, Bool.true_eq_false, and_true, true_and, false_and, and_false, and_self, not_true_eq_false, not_false_eq_true, if_true, if_false, reduceIte, or_false, false_or, true_or, or_true]; done) | (subst_vars; first | with_reducible rfl | (simp only [fnd, if_neg c_11]; done) | (simp only [fnd, c_11, Bool.false_eq_true, Bool.true_eq_false, and_true, true_and, false_and, and_false, and_self, not_true_eq_false, not_false_eq_true, if_true, if_false, reduceIte, or_false, false_or, true_or, or_true]; done)) | contradiction | rfl)
theorem i_X5_status : ciOk yX5_status cX5_status 4 (some .int) wsX5_status 1 := ⟨⟨_, rfl⟩, by decide +kernel⟩
set_option maxHeartbeats 1000000 in
set_option maxRecDepth 100000 in
theorem c_X5_feed {l : Launch} {D : va_G} {cy : Nat → ClassId} {ad : Nat → Nat} {sr kS ot asd stt : Nat → Int32} {ik : Int32} {tp : Nat → Int32} {td fr tt vl wr : Int32} {bo so : Nat → Int32} {nu mv : Nat → Int64} {q : Int32} {o : Int32} {T : Nat} (hT : td = nI T) (hT2 : T ≤ 120) : Met l yX5_feed wsX5_feed (rmz 1 25) (wPre D (mK D cy ad) (mw cy ad sr kS ot asd stt ik tp td fr tt vl wr bo so nu mv) [.ref (ad 0), .int (q), .int (o)]) (mPub D cy ad (some (.int (if rg 1 4 o then (if T + o.toNatClampNeg ≤ 120 then nI (T + o.toNatClampNeg) else -1000000002) else -1000000001))) sr kS (if rg 1 4 o then (if T + o.toNatClampNeg ≤ 120 then stt else fnd stt 1) else fnd stt 0) ik (if rg 1 4 o then (if T + o.toNatClampNeg ≤ 120 then feedL q o.toNatClampNeg T tp else tp) else tp) (if rg 1 4 o then (if T + o.toNatClampNeg ≤ 120 then nI (T + o.toNatClampNeg) else td) else td) bo so nu) 0 0 (mA ad) := by
  refine wq_entry rfl rfl (Nat.le_of_ble_eq_true rfl) ?_
  intro p e s0 m args below meth c S hr hlocks hK hP ls hl
  have S : CallFix p m c cX5_feed 4 s0 args wsX5_feed RX5 := S
  obtain ⟨hx, hb, hml, hown, hts⟩ := id S
  have hin : ∀ w ∈ wsX50, w ∈ wsX5_feed := fun w h => List.mem_cons_of_mem _ (List.mem_append_right _ h)
  have hS : va_S (mA ad) s0.heap s0.heap [] := va_S.rf
  have hl : lv_has ls 4 [(0, .ref (ad 0)), (1, .int (q)), (2, .int (o))] := hl
  generalize hQ : MQ below (mPub D cy ad (some (.int (if rg 1 4 o then (if T + o.toNatClampNeg ≤ 120 then nI (T + o.toNatClampNeg) else -1000000002) else -1000000001))) sr kS (if rg 1 4 o then (if T + o.toNatClampNeg ≤ 120 then stt else fnd stt 1) else fnd stt 0) ik (if rg 1 4 o then (if T + o.toNatClampNeg ≤ 120 then feedL q o.toNatClampNeg T tp else tp) else tp) (if rg 1 4 o then (if T + o.toNatClampNeg ≤ 120 then nI (T + o.toNatClampNeg) else td) else td) bo so nu) args s0 0 0 (mA ad) = Q
  subst hT
  refine lv_iload_n hx hb dX5_feed_0 rfl (lv_at hl 2 rfl) ?_
  refine lv_i2l (v := (o).toInt64) hx hb dX5_feed_1 rfl ?_
  refine lv_lconst (v := 1) hx hb dX5_feed_2 (by decide) ?_
  refine lv_ldc2 (v := 4) hx hb hown (hts (.constantLong RX5 165 (4)) (by decide +kernel)) dX5_feed_3 ?_
  refine sq_S S (c_X5_inY) gX5_feed_X5_in i_X5_in ⟨Nat.le_of_ble_eq_true rfl, Nat.le_of_ble_eq_true rfl⟩ rfl hl.1 (As := [.long ((o).toInt64), .long (1), .long (4)]) (rest := []) (st1 := [.int (z (rg 1 4 (o)))]) rfl rfl (Nat.le_of_ble_eq_true rfl) ⟨Nat.le_of_ble_eq_true rfl, Nat.le_of_ble_eq_true rfl⟩ dX5_feed_6 ?_
  refine lvz_if_ne (tgt := 19) hx hb dX5_feed_9 (by decide) (fun c_9 => ?_) (fun c_9 => ?_)
  · skip
    obtain ⟨m_, h_m_, h_m_2, rfl⟩ := rg_ix (a := 1) (b := 4) (by decide) c_9
    have hcl_m_ : (nI m_).toNatClampNeg = m_ := nI_clamp (by omega)
    refine lv_aload_n hx hb dX5_feed_19 rfl (lv_at hl 0 rfl) ?_
    refine m_get hx hb hts hin hown hK hP 7 (by decide) (hts (.fieldLink RX5 167 "PennyRoadModel" "taped" "I") (by decide +kernel)) rfl dX5_feed_20 ?_
    refine lv_iload_n hx hb dX5_feed_23 rfl (lv_at hl 2 rfl) ?_
    refine lvn_iadd hx hb dX5_feed_24 ?_
    refine lv_bipush (v := nI 120) hx hb dX5_feed_25 (by decide) ?_
    refine lvn_icmp_le (tgt := 37) hx hb dX5_feed_27 (by decide) (by omega) (by omega) (fun c_27 => ?_) (fun c_27 => ?_)
    · skip
      refine lv_iload_n hx hb dX5_feed_37 rfl (lv_at hl 2 rfl) ?_
      refine lv_iconst (v := nI 1) hx hb dX5_feed_38 (by decide) ?_
      refine lv_isub hx hb dX5_feed_39 ?_
      refine lv_top (pm_pred (by omega)) ?_
      refine lv_istore_n (lv' := [(3, .int (pm m_)), (0, .ref (ad 0)), (1, .int (q)), (2, .int (nI m_))]) hx hb dX5_feed_40 rfl hl (by decide) rfl (fun ls hl => ?_)
      have L_41 : ∀ (n : Nat) (t : Nat) (pp : Nat → Int32) (H : Heap) (locs : List Loc) (ls : Array Slot), (t + n = T + m_) → (feedL q m_ T tp = feedL q n t pp) → va_P D vwCl (mw cy ad sr kS ot asd stt ik pp (nI t) fr tt vl wr bo so nu mv) H → va_S (mA ad) s0.heap H locs → lv_has ls 4 [(3, .int (pm n)), (0, .ref (ad 0)), (1, .int (q)), (2, .int (nI m_))] → W p l e (rmz 1 25) s0 m args below meth c H locs 0 0 Q (F0 m 41 ls []) := by
        intro n
        induction n with
        | zero =>
          intro t pp H locs ls ht hF hP hS hl
          have hl : lv_has ls 4 [(3, .int ((-1))), (0, .ref (ad 0)), (1, .int (q)), (2, .int (nI m_))] := hl
          refine lv_iload_n hx hb dX5_feed_41 rfl (lv_at hl 0 rfl) ?_
          refine lv_if_lt (tgt := 80) hx hb dX5_feed_42 (by decide) (fun c_42 => ?_) (fun c_42 => ?_)
          · skip
            have hF : feedL q m_ T tp = pp := hF
            subst hF
            have ht9 : t = T + m_ := by omega
            subst ht9
            refine lv_aload_n hx hb dX5_feed_80 rfl (lv_at hl 1 rfl) ?_
            refine m_get hx hb hts hin hown hK hP 7 (by decide) (hts (.fieldLink RX5 167 "PennyRoadModel" "taped" "I") (by decide +kernel)) rfl dX5_feed_81 ?_
            subst hQ
            exact mp_ri hx hb hr hlocks hP hS dX5_feed_84 (by first | with_reducible rfl | (simp only [fnd, if_pos c_9, if_pos c_27, if_pos c_42]; done) | (simp only [fnd, hcl_m_, c_9, if_pos c_27, if_pos c_42, Bool.false_eq_true, Bool.true_eq_false, and_true, true_and, false_and, and_false, and_self, not_true_eq_false, not_false_eq_true, if_true, if_false, reduceIte, or_false, false_or, true_or, or_true]; done) | (subst_vars; first | with_reducible rfl | (simp only [fnd, if_pos c_9, if_pos c_27, if_pos c_42]; done) | (simp only [fnd, hcl_m_, c_9, if_pos c_27, if_pos c_42, Bool.false_eq_true, Bool.true_eq_false, and_true, true_and, false_and, and_false, and_self, not_true_eq_false, not_false_eq_true, if_true, if_false, reduceIte, or_false, false_or, true_or, or_true]; done)) | contradiction | rfl) (by first | with_reducible rfl | (simp only [fnd, if_pos c_9, if_pos c_27, if_pos c_42]; done) | (simp only [fnd, hcl_m_, c_9, if_pos c_27, if_pos c_42, Bool.false_eq_true, Bool.true_eq_false, and_true, true_and, false_and, and_false, and_self, not_true_eq_false, not_false_eq_true, if_true, if_false, reduceIte, or_false, false_or, true_or, or_true]; done) | (subst_vars; first | with_reducible rfl | (simp only [fnd, if_pos c_9, if_pos c_27, if_pos c_42]; done) | (simp only [fnd, hcl_m_, c_9, if_pos c_27, if_pos c_42, Bool.false_eq_true, Bool.true_eq_false, and_true, true_and, false_and, and_false, and_self, not_true_eq_false, not_false_eq_true, if_true, if_false, reduceIte, or_false, false_or, true_or, or_true]; done)) | contradiction | rfl)
          · skip
            exact absurd c_42 (by decide)
        | succ n ih_41 =>
          intro t pp H locs ls ht hF hP hS hl
          have hl : lv_has ls 4 [(3, .int (nI n)), (0, .ref (ad 0)), (1, .int (q)), (2, .int (nI m_))] := hl
          refine lv_iload_n hx hb dX5_feed_41 rfl (lv_at hl 0 rfl) ?_
          refine lv_if_lt (tgt := 80) hx hb dX5_feed_42 (by decide) (fun c_42 => ?_) (fun c_42 => ?_)
          · skip
            exact absurd c_42 (nI_pos (by omega))
          · skip
            refine lv_aload_n hx hb dX5_feed_45 rfl (lv_at hl 1 rfl) ?_
            refine m_get hx hb hts hin hown hK hP 6 (by decide) (hts (.fieldLink RX5 25 "PennyRoadModel" "tape" "[I") (by decide +kernel)) rfl dX5_feed_46 ?_
            refine lv_aload_n hx hb dX5_feed_49 rfl (lv_at hl 1 rfl) ?_
            refine m_get hx hb hts hin hown hK hP 7 (by decide) (hts (.fieldLink RX5 167 "PennyRoadModel" "taped" "I") (by decide +kernel)) rfl dX5_feed_50 ?_
            refine lv_iload_n hx hb dX5_feed_53 rfl (lv_at hl 2 rfl) ?_
            refine lv_bipush (v := nI 8) hx hb dX5_feed_54 (by decide) ?_
            refine lv_iload_n hx hb dX5_feed_56 rfl (lv_at hl 0 rfl) ?_
            refine lvn_imul hx hb dX5_feed_57 ?_
            refine lv_ishr hx hb dX5_feed_58 ?_
            refine lv_sipush (v := nI 255) hx hb dX5_feed_59 (by decide) ?_
            refine lv_iand hx hb dX5_feed_62 ?_
            refine m_ast (w' := (mw cy ad sr kS ot asd stt ik (upd pp t (((q) >>> ((nI (8 * n)) &&& 31)) &&& (nI 255))) (nI t) fr tt vl wr bo so nu mv)) hx hb hK hP hS 6 rfl (by decide) (by omega) rfl dX5_feed_63 (fun H locs hP hS => ?_)
            refine lv_aload_n hx hb dX5_feed_64 rfl (lv_at hl 1 rfl) ?_
            refine lv_dup hx hb dX5_feed_65 rfl ?_
            refine m_get hx hb hts hin hown hK hP 7 (by decide) (hts (.fieldLink RX5 167 "PennyRoadModel" "taped" "I") (by decide +kernel)) rfl dX5_feed_66 ?_
            refine lv_iconst (v := nI 1) hx hb dX5_feed_69 (by decide) ?_
            refine lvn_iadd hx hb dX5_feed_70 ?_
            refine m_put (w' := (mw cy ad sr kS ot asd stt ik (upd pp t (((q) >>> ((nI (8 * n)) &&& 31)) &&& (nI 255))) (nI (t + 1)) fr tt vl wr bo so nu mv)) (ty := .int) hx hb hts hin hown hK hP hS 7 (by decide) (hts (.fieldLink RX5 167 "PennyRoadModel" "taped" "I") (by decide +kernel)) rfl (by decide +kernel) rfl rfl rfl dX5_feed_71 (fun H locs hP hS => ?_)
            refine lv_iinc (v := pm n) (lv' := [(3, .int (pm n)), (0, .ref (ad 0)), (1, .int (q)), (2, .int (nI m_))]) hx hb dX5_feed_74 hl (k := 0) rfl (pm_dec n) (by decide) rfl (fun ls hl => ?_)
            refine lv_goto (tgt := 41) hx hb dX5_feed_77 (by decide) ?_
            exact ih_41 (t + 1) _ _ _ ls (by omega) hF hP hS hl
      exact L_41 m_ T tp _ _ ls (by omega) rfl hP hS hl
    · skip
      refine lv_aload_n hx hb dX5_feed_30 rfl (lv_at hl 0 rfl) ?_
      refine lv_ldc (v := (-1000000002)) hx hb hown (hts (.constant RX5 83 ((-1000000002))) (by decide +kernel)) dX5_feed_31 ?_
      refine wq_V S mK_ok hK hP hS (c_X5_finds (t := 1) (by decide)) gX5_feed_X5_finds i_X5_finds rfl (m_rec hK hP) ⟨Nat.le_of_ble_eq_true rfl, Nat.le_of_ble_eq_true rfl⟩ rfl hl.1 (As := [.int ((-1000000002))]) (rest := []) (st1 := [.int ((-1000000002))]) rfl rfl (Nat.le_of_ble_eq_true rfl) ⟨Nat.le_of_ble_eq_true rfl, Nat.le_of_ble_eq_true rfl⟩ dX5_feed_33 (fun H locs hP hS => ?_)
      subst hQ
      exact mp_ri hx hb hr hlocks hP hS dX5_feed_36 (by first | with_reducible rfl | (simp only [fnd, if_pos c_9, if_neg c_27]; done) | (simp only [fnd, hcl_m_, c_9, if_neg c_27, Bool.false_eq_true, Bool.true_eq_false, and_true, true_and, false_and, and_false, and_self, not_true_eq_false, not_false_eq_true, if_true, if_false, reduceIte, or_false, false_or, true_or, or_true]; done) | (subst_vars; first | with_reducible rfl | (simp only [fnd, if_pos c_9, if_neg c_27]; done) | (simp only [fnd, hcl_m_, c_9, if_neg c_27, Bool.false_eq_true, Bool.true_eq_false, and_true, true_and, false_and, and_false, and_self, not_true_eq_false, not_false_eq_true, if_true, if_false, reduceIte, or_false, false_or, true_or, or_true]; done)) | contradiction | rfl) (by first | with_reducible rfl | (simp only [fnd, if_pos c_9, if_neg c_27]; done) | (simp only [fnd, hcl_m_, c_9, if_neg c_27, Bool.false_eq_true, Bool.true_eq_false, and_true, true_and, false_and, and_false, and_self, not_true_eq_false, not_false_eq_true, if_true, if_false, reduceIte, or_false, false_or, true_or, or_true]; done) | (subst_vars; first | with_reducible rfl | (simp only [fnd, if_pos c_9, if_neg c_27]; done) | (simp only [fnd, hcl_m_, c_9, if_neg c_27, Bool.false_eq_true, Bool.true_eq_false, and_true, true_and, false_and, and_false, and_self, not_true_eq_false, not_false_eq_true, if_true, if_false, reduceIte, or_false, false_or, true_or, or_true]; done)) | contradiction | rfl)
  · skip
    refine lv_aload_n hx hb dX5_feed_12 rfl (lv_at hl 0 rfl) ?_
    refine lv_ldc (v := (-1000000001)) hx hb hown (hts (.constant RX5 41 ((-1000000001))) (by decide +kernel)) dX5_feed_13 ?_
    refine wq_V S mK_ok hK hP hS (c_X5_finds (t := 0) (by decide)) gX5_feed_X5_finds i_X5_finds rfl (m_rec hK hP) ⟨Nat.le_of_ble_eq_true rfl, Nat.le_of_ble_eq_true rfl⟩ rfl hl.1 (As := [.int ((-1000000001))]) (rest := []) (st1 := [.int ((-1000000001))]) rfl rfl (Nat.le_of_ble_eq_true rfl) ⟨Nat.le_of_ble_eq_true rfl, Nat.le_of_ble_eq_true rfl⟩ dX5_feed_15 (fun H locs hP hS => ?_)
    subst hQ
    exact mp_ri hx hb hr hlocks hP hS dX5_feed_18 (by first | with_reducible rfl | (simp only [fnd, if_neg c_9]; done) | (simp only [fnd, c_9, Bool.false_eq_true, Bool.true_eq_false, and_true, true_and, false_and, and_false, and_self, not_true_eq_false, not_false_eq_true, if_true, if_false, reduceIte, or_false, false_or, true_or, or_true]; done) | (subst_vars; first | with_reducible rfl | (simp only [fnd, if_neg c_9]; done) | (simp only [fnd, c_9, Bool.false_eq_true, Bool.true_eq_false, and_true, true_and, false_and, and_false, and_self, not_true_eq_false, not_false_eq_true, if_true, if_false, reduceIte, or_false, false_or, true_or, or_true]; done)) | contradiction | rfl) (by first | with_reducible rfl | (simp only [fnd, if_neg c_9]; done) | (simp only [fnd, c_9, Bool.false_eq_true, Bool.true_eq_false, and_true, true_and, false_and, and_false, and_self, not_true_eq_false, not_false_eq_true, if_true, if_false, reduceIte, or_false, false_or, true_or, or_true]; done) | (subst_vars; first | with_reducible rfl | (simp only [fnd, if_neg c_9]; done) | (simp only [fnd, c_9, Bool.false_eq_true, Bool.true_eq_false, and_true, true_and, false_and, and_false, and_self, not_true_eq_false, not_false_eq_true, if_true, if_false, reduceIte, or_false, false_or, true_or, or_true]; done)) | contradiction | rfl)
theorem i_X5_feed : ciOk yX5_feed cX5_feed 4 (some .int) wsX5_feed 2 := ⟨⟨_, rfl⟩, by decide +kernel⟩
set_option maxHeartbeats 1000000 in
set_option maxRecDepth 100000 in
theorem c_X5_narrowed {l : Launch} {b : Int32} {v : Int64} : Met l yX5_narrowed wsX5_narrowed (rmz 0 0) (sPre [.int (b), .long (v)]) (sPost (some (.long (narF b v)))) 0 0 (fun _ => False) := by
  refine sq_entry rfl rfl (Nat.le_of_ble_eq_true rfl) ?_
  intro p e s0 m args below meth c S hr hlocks ls hl
  have S : CallFix p m c cX5_narrowed 3 s0 args wsX5_narrowed RX5 := S
  obtain ⟨hx, hb, hml, hown, hts⟩ := id S
  have hl : lv_has ls 3 [(0, .int (b)), (1, .long (v))] := hl
  generalize hQ : MQ below (sPost (some (.long (narF b v)))) args s0 0 0 (fun _ => False) = Q
  refine lv_iload_n hx hb dX5_narrowed_0 rfl (lv_at hl 0 rfl) ?_
  refine lv_bipush (v := nI 8) hx hb dX5_narrowed_1 (by decide) ?_
  refine lv_icmp_ne (tgt := 13) hx hb dX5_narrowed_3 (by decide) (fun c_3 => ?_) (fun c_3 => ?_)
  · skip
    refine lv_iload_n hx hb dX5_narrowed_13 rfl (lv_at hl 0 rfl) ?_
    refine lv_bipush (v := nI 16) hx hb dX5_narrowed_14 (by decide) ?_
    refine lv_icmp_ne (tgt := 26) hx hb dX5_narrowed_16 (by decide) (fun c_16 => ?_) (fun c_16 => ?_)
    · skip
      refine lv_lload_n hx hb dX5_narrowed_26 rfl (lv_at hl 1 rfl) ?_
      subst hQ
      exact sq_rl hx hb hr hlocks dX5_narrowed_27 (by first | with_reducible rfl | (simp only [narF, if_neg c_3, if_neg c_16]; done) | (simp only [narF, if_neg c_3, if_neg c_16, Bool.false_eq_true, Bool.true_eq_false, and_true, true_and, false_and, and_false, and_self, not_true_eq_false, not_false_eq_true, if_true, if_false, reduceIte, or_false, false_or, true_or, or_true]; done) | (subst_vars; first | with_reducible rfl | (simp only [narF, if_neg c_3, if_neg c_16]; done) | (simp only [narF, if_neg c_3, if_neg c_16, Bool.false_eq_true, Bool.true_eq_false, and_true, true_and, false_and, and_false, and_self, not_true_eq_false, not_false_eq_true, if_true, if_false, reduceIte, or_false, false_or, true_or, or_true]; done)) | contradiction | rfl)
    · skip
      refine lv_lload_n hx hb dX5_narrowed_19 rfl (lv_at hl 1 rfl) ?_
      refine lv_l2i (v := (v).toInt32) hx hb dX5_narrowed_20 rfl ?_
      refine lv_i2s (v := ((v).toInt32).toInt16.toInt32) hx hb dX5_narrowed_21 rfl ?_
      refine lv_i2l (v := (((v).toInt32).toInt16.toInt32).toInt64) hx hb dX5_narrowed_22 rfl ?_
      refine lv_goto (tgt := 27) hx hb dX5_narrowed_23 (by decide) ?_
      subst hQ
      exact sq_rl hx hb hr hlocks dX5_narrowed_27 (by first | with_reducible rfl | (simp only [narF, if_neg c_3, if_pos c_16]; done) | (simp only [narF, if_neg c_3, if_pos c_16, Bool.false_eq_true, Bool.true_eq_false, and_true, true_and, false_and, and_false, and_self, not_true_eq_false, not_false_eq_true, if_true, if_false, reduceIte, or_false, false_or, true_or, or_true]; done) | (subst_vars; first | with_reducible rfl | (simp only [narF, if_neg c_3, if_pos c_16]; done) | (simp only [narF, if_neg c_3, if_pos c_16, Bool.false_eq_true, Bool.true_eq_false, and_true, true_and, false_and, and_false, and_self, not_true_eq_false, not_false_eq_true, if_true, if_false, reduceIte, or_false, false_or, true_or, or_true]; done)) | contradiction | rfl)
  · skip
    refine lv_lload_n hx hb dX5_narrowed_6 rfl (lv_at hl 1 rfl) ?_
    refine lv_l2i (v := (v).toInt32) hx hb dX5_narrowed_7 rfl ?_
    refine lv_i2b (v := ((v).toInt32).toInt8.toInt32) hx hb dX5_narrowed_8 rfl ?_
    refine lv_i2l (v := (((v).toInt32).toInt8.toInt32).toInt64) hx hb dX5_narrowed_9 rfl ?_
    refine lv_goto (tgt := 27) hx hb dX5_narrowed_10 (by decide) ?_
    subst hQ
    exact sq_rl hx hb hr hlocks dX5_narrowed_27 (by first | with_reducible rfl | (simp only [narF, if_pos c_3]; done) | (simp only [narF, if_pos c_3, Bool.false_eq_true, Bool.true_eq_false, and_true, true_and, false_and, and_false, and_self, not_true_eq_false, not_false_eq_true, if_true, if_false, reduceIte, or_false, false_or, true_or, or_true]; done) | (subst_vars; first | with_reducible rfl | (simp only [narF, if_pos c_3]; done) | (simp only [narF, if_pos c_3, Bool.false_eq_true, Bool.true_eq_false, and_true, true_and, false_and, and_false, and_self, not_true_eq_false, not_false_eq_true, if_true, if_false, reduceIte, or_false, false_or, true_or, or_true]; done)) | contradiction | rfl)
theorem i_X5_narrowed : ciOk yX5_narrowed cX5_narrowed 3 (some .long) wsX5_narrowed 2 := ⟨⟨_, rfl⟩, by decide +kernel⟩
set_option maxHeartbeats 1000000 in
set_option maxRecDepth 100000 in
theorem c_X5_wrongSheet {l : Launch} {D : va_G} {cy : Nat → ClassId} {ad : Nat → Nat} {sr kS ot asd stt : Nat → Int32} {ik : Int32} {tp : Nat → Int32} {td fr tt vl wr : Int32} {bo so : Nat → Int32} {nu mv : Nat → Int64} {q : Int32} : Met l yX5_wrongSheet wsX5_wrongSheet (rmz 2 45) (wPre D (mK D cy ad) (mw cy ad sr kS ot asd stt ik tp td fr tt vl wr bo so nu mv) [.ref (ad 0), .int (q)]) (wPost D (mw cy ad sr kS ot asd stt ik tp td fr tt vl wr bo so nu mv) (some (.int (wrS bo q))) (mA ad)) 0 0 (mA ad) := by
  refine wq_entry rfl rfl (Nat.le_of_ble_eq_true rfl) ?_
  intro p e s0 m args below meth c S hr hlocks hK hP ls hl
  have S : CallFix p m c cX5_wrongSheet 2 s0 args wsX5_wrongSheet RX5 := S
  obtain ⟨hx, hb, hml, hown, hts⟩ := id S
  have hin : ∀ w ∈ wsX50, w ∈ wsX5_wrongSheet := fun w h => List.mem_cons_of_mem _ (List.mem_append_right _ h)
  have hS : va_S (mA ad) s0.heap s0.heap [] := va_S.rf
  have hl : lv_has ls 2 [(0, .ref (ad 0)), (1, .int (q))] := hl
  generalize hQ : MQ below (wPost D (mw cy ad sr kS ot asd stt ik tp td fr tt vl wr bo so nu mv) (some (.int (wrS bo q))) (mA ad)) args s0 0 0 (mA ad) = Q
  refine lv_iload_n hx hb dX5_wrongSheet_0 rfl (lv_at hl 1 rfl) ?_
  refine sq_S S (c_X5_isOne) gX5_wrongSheet_X5_isOne i_X5_isOne ⟨Nat.le_of_ble_eq_true rfl, Nat.le_of_ble_eq_true rfl⟩ rfl hl.1 (As := [.int (q)]) (rest := []) (st1 := [.int (z (rg 0 3 (q)))]) rfl rfl (Nat.le_of_ble_eq_true rfl) ⟨Nat.le_of_ble_eq_true rfl, Nat.le_of_ble_eq_true rfl⟩ dX5_wrongSheet_1 ?_
  refine lvz_if_ne (tgt := 12) hx hb dX5_wrongSheet_4 (by decide) (fun c_4 => ?_) (fun c_4 => ?_)
  · skip
    obtain ⟨i, h_i, h_i2, rfl⟩ := rg_ix (a := 0) (b := 3) (by decide) c_4
    have hcl_i : (nI i).toNatClampNeg = i := nI_clamp (by omega)
    refine lv_aload_n hx hb dX5_wrongSheet_12 rfl (lv_at hl 0 rfl) ?_
    refine m_get hx hb hts hin hown hK hP 12 (by decide) (hts (.fieldLink RX5 28 "PennyRoadModel" "bitsOf" "[I") (by decide +kernel)) rfl dX5_wrongSheet_13 ?_
    refine lv_iload_n hx hb dX5_wrongSheet_16 rfl (lv_at hl 1 rfl) ?_
    refine m_ald hx hb hK hP 7 rfl (by decide) (by omega) dX5_wrongSheet_17 ?_
    refine lv_if_ne (tgt := 27) hx hb dX5_wrongSheet_18 (by decide) (fun c_18 => ?_) (fun c_18 => ?_)
    · skip
      refine lv_iconst (v := nI 0) hx hb dX5_wrongSheet_27 (by decide) ?_
      subst hQ
      exact wq_ri hx hb hr hlocks hP hS dX5_wrongSheet_28 (by first | with_reducible rfl | (simp only [wrS, if_pos c_4, if_neg c_18]; done) | (simp only [wrS, hcl_i, c_4, if_neg c_18, Bool.false_eq_true, Bool.true_eq_false, and_true, true_and, false_and, and_false, and_self, not_true_eq_false, not_false_eq_true, if_true, if_false, reduceIte, or_false, false_or, true_or, or_true]; done) | (subst_vars; first | with_reducible rfl | (simp only [wrS, if_pos c_4, if_neg c_18]; done) | (simp only [wrS, hcl_i, c_4, if_neg c_18, Bool.false_eq_true, Bool.true_eq_false, and_true, true_and, false_and, and_false, and_self, not_true_eq_false, not_false_eq_true, if_true, if_false, reduceIte, or_false, false_or, true_or, or_true]; done)) | contradiction | rfl) rfl
    · skip
      refine lv_ldcw (v := (-1000000006)) hx hb hown (hts (.constant RX5 272 ((-1000000006))) (by decide +kernel)) dX5_wrongSheet_21 ?_
      refine lv_goto (tgt := 28) hx hb dX5_wrongSheet_24 (by decide) ?_
      subst hQ
      exact wq_ri hx hb hr hlocks hP hS dX5_wrongSheet_28 (by first | with_reducible rfl | (simp only [wrS, if_pos c_4, if_pos c_18]; done) | (simp only [wrS, hcl_i, c_4, if_pos c_18, Bool.false_eq_true, Bool.true_eq_false, and_true, true_and, false_and, and_false, and_self, not_true_eq_false, not_false_eq_true, if_true, if_false, reduceIte, or_false, false_or, true_or, or_true]; done) | (subst_vars; first | with_reducible rfl | (simp only [wrS, if_pos c_4, if_pos c_18]; done) | (simp only [wrS, hcl_i, c_4, if_pos c_18, Bool.false_eq_true, Bool.true_eq_false, and_true, true_and, false_and, and_false, and_self, not_true_eq_false, not_false_eq_true, if_true, if_false, reduceIte, or_false, false_or, true_or, or_true]; done)) | contradiction | rfl) rfl
  · skip
    refine lv_ldc (v := (-1000000001)) hx hb hown (hts (.constant RX5 41 ((-1000000001))) (by decide +kernel)) dX5_wrongSheet_7 ?_
    refine lv_goto (tgt := 28) hx hb dX5_wrongSheet_9 (by decide) ?_
    subst hQ
    exact wq_ri hx hb hr hlocks hP hS dX5_wrongSheet_28 (by first | with_reducible rfl | (simp only [wrS, if_neg c_4]; done) | (simp only [wrS, c_4, Bool.false_eq_true, Bool.true_eq_false, and_true, true_and, false_and, and_false, and_self, not_true_eq_false, not_false_eq_true, if_true, if_false, reduceIte, or_false, false_or, true_or, or_true]; done) | (subst_vars; first | with_reducible rfl | (simp only [wrS, if_neg c_4]; done) | (simp only [wrS, c_4, Bool.false_eq_true, Bool.true_eq_false, and_true, true_and, false_and, and_false, and_self, not_true_eq_false, not_false_eq_true, if_true, if_false, reduceIte, or_false, false_or, true_or, or_true]; done)) | contradiction | rfl) rfl
theorem i_X5_wrongSheet : ciOk yX5_wrongSheet cX5_wrongSheet 2 (some .int) wsX5_wrongSheet 1 := ⟨⟨_, rfl⟩, by decide +kernel⟩
set_option maxHeartbeats 1000000 in
set_option maxRecDepth 100000 in
theorem c_X5_write {l : Launch} {D : va_G} {cy : Nat → ClassId} {ad : Nat → Nat} {sr kS ot asd stt : Nat → Int32} {ik : Int32} {tp : Nat → Int32} {td fr tt vl wr : Int32} {bo so : Nat → Int32} {nu mv : Nat → Int64} {q : Int32} {o : Int32} {x : Int64} (hz : ∀ t, t < 4 → ∃ z : Nat, z ≤ 40 ∧ so t = nI z) : Met l yX5_write wsX5_write (rmz 3 66) (wPre D (mK D cy ad) (mw cy ad sr kS ot asd stt ik tp td fr tt vl wr bo so nu mv) [.ref (ad 0), .int (q), .int (o), .long (x)]) (mPub D cy ad (some (.long (if rg 0 3 q then (if bo q.toNatClampNeg = 0 then (-1000000006 : Int32).toInt64 else if rg 0 (((so q.toNatClampNeg) - (nI 1)).toInt64).toInt o then nu (40 * q.toNatClampNeg + o.toNatClampNeg) else (-1000000001 : Int32).toInt64) else (-1000000001 : Int32).toInt64))) sr kS (if rg 0 3 q then (if bo q.toNatClampNeg = 0 then fnd stt 5 else if rg 0 (((so q.toNatClampNeg) - (nI 1)).toInt64).toInt o then stt else fnd stt 0) else fnd stt 0) ik tp td bo so (if rg 0 3 q then (if bo q.toNatClampNeg = 0 then nu else if rg 0 (((so q.toNatClampNeg) - (nI 1)).toInt64).toInt o then vp_updL nu (40 * q.toNatClampNeg + o.toNatClampNeg) (narF (bo q.toNatClampNeg) x) else nu) else nu)) 0 0 (mA ad) := by
  refine wq_entry rfl rfl (Nat.le_of_ble_eq_true rfl) ?_
  intro p e s0 m args below meth c S hr hlocks hK hP ls hl
  have S : CallFix p m c cX5_write 8 s0 args wsX5_write RX5 := S
  obtain ⟨hx, hb, hml, hown, hts⟩ := id S
  have hin : ∀ w ∈ wsX50, w ∈ wsX5_write := fun w h => List.mem_cons_of_mem _ (List.mem_append_right _ h)
  have hS : va_S (mA ad) s0.heap s0.heap [] := va_S.rf
  have hl : lv_has ls 8 [(0, .ref (ad 0)), (1, .int (q)), (2, .int (o)), (3, .long (x))] := hl
  generalize hQ : MQ below (mPub D cy ad (some (.long (if rg 0 3 q then (if bo q.toNatClampNeg = 0 then (-1000000006 : Int32).toInt64 else if rg 0 (((so q.toNatClampNeg) - (nI 1)).toInt64).toInt o then nu (40 * q.toNatClampNeg + o.toNatClampNeg) else (-1000000001 : Int32).toInt64) else (-1000000001 : Int32).toInt64))) sr kS (if rg 0 3 q then (if bo q.toNatClampNeg = 0 then fnd stt 5 else if rg 0 (((so q.toNatClampNeg) - (nI 1)).toInt64).toInt o then stt else fnd stt 0) else fnd stt 0) ik tp td bo so (if rg 0 3 q then (if bo q.toNatClampNeg = 0 then nu else if rg 0 (((so q.toNatClampNeg) - (nI 1)).toInt64).toInt o then vp_updL nu (40 * q.toNatClampNeg + o.toNatClampNeg) (narF (bo q.toNatClampNeg) x) else nu) else nu)) args s0 0 0 (mA ad) = Q
  refine lv_aload_n hx hb dX5_write_0 rfl (lv_at hl 0 rfl) ?_
  refine lv_iload_n hx hb dX5_write_1 rfl (lv_at hl 1 rfl) ?_
  refine wq_V S mK_ok hK hP hS (c_X5_wrongSheet) gX5_write_X5_wrongSheet i_X5_wrongSheet rfl (m_rec hK hP) ⟨Nat.le_of_ble_eq_true rfl, Nat.le_of_ble_eq_true rfl⟩ rfl hl.1 (As := [.int (q)]) (rest := []) (st1 := [.int (wrS bo (q))]) rfl rfl (Nat.le_of_ble_eq_true rfl) ⟨Nat.le_of_ble_eq_true rfl, Nat.le_of_ble_eq_true rfl⟩ dX5_write_2 (fun H locs hP hS => ?_)
  rcases ws3 bo q with c_a | ⟨c_a, c_b⟩ | ⟨c_a, c_b⟩
  · skip
    refine lv_top (wrS_1 c_a) ?_
    refine lv_istore (lv' := [(5, .int ((-1000000001))), (0, .ref (ad 0)), (1, .int (q)), (2, .int (o)), (3, .long (x))]) hx hb dX5_write_5 hl (by decide) rfl (fun ls hl => ?_)
    refine lv_iload hx hb dX5_write_7 (lv_at hl 0 rfl) ?_
    refine lv_if_eq (tgt := 20) hx hb dX5_write_9 (by decide) (fun c_9 => ?_) (fun c_9 => ?_)
    · skip
      exact absurd c_9 (by decide)
    · skip
      refine lv_aload_n hx hb dX5_write_12 rfl (lv_at hl 1 rfl) ?_
      refine lv_iload hx hb dX5_write_13 (lv_at hl 0 rfl) ?_
      refine wq_V S mK_ok hK hP hS (c_X5_finds (t := 0) (by decide)) gX5_write_X5_finds i_X5_finds rfl (m_rec hK hP) ⟨Nat.le_of_ble_eq_true rfl, Nat.le_of_ble_eq_true rfl⟩ rfl hl.1 (As := [.int ((-1000000001))]) (rest := []) (st1 := [.int ((-1000000001))]) rfl rfl (Nat.le_of_ble_eq_true rfl) ⟨Nat.le_of_ble_eq_true rfl, Nat.le_of_ble_eq_true rfl⟩ dX5_write_15 (fun H locs hP hS => ?_)
      refine lv_i2l (v := ((-1000000001) : Int32).toInt64) hx hb dX5_write_18 rfl ?_
      subst hQ
      exact mp_rl hx hb hr hlocks hP hS dX5_write_19 (by first | with_reducible rfl | (simp only [fnd, if_neg c_a, if_neg c_9]; done) | (simp only [fnd, c_a, if_neg c_9, Bool.false_eq_true, Bool.true_eq_false, and_true, true_and, false_and, and_false, and_self, not_true_eq_false, not_false_eq_true, if_true, if_false, reduceIte, or_false, false_or, true_or, or_true]; done) | (subst_vars; first | with_reducible rfl | (simp only [fnd, if_neg c_a, if_neg c_9]; done) | (simp only [fnd, c_a, if_neg c_9, Bool.false_eq_true, Bool.true_eq_false, and_true, true_and, false_and, and_false, and_self, not_true_eq_false, not_false_eq_true, if_true, if_false, reduceIte, or_false, false_or, true_or, or_true]; done)) | contradiction | rfl) (by first | with_reducible rfl | (simp only [fnd, if_neg c_a, if_neg c_9]; done) | (simp only [fnd, c_a, if_neg c_9, Bool.false_eq_true, Bool.true_eq_false, and_true, true_and, false_and, and_false, and_self, not_true_eq_false, not_false_eq_true, if_true, if_false, reduceIte, or_false, false_or, true_or, or_true]; done) | (subst_vars; first | with_reducible rfl | (simp only [fnd, if_neg c_a, if_neg c_9]; done) | (simp only [fnd, c_a, if_neg c_9, Bool.false_eq_true, Bool.true_eq_false, and_true, true_and, false_and, and_false, and_self, not_true_eq_false, not_false_eq_true, if_true, if_false, reduceIte, or_false, false_or, true_or, or_true]; done)) | contradiction | rfl)
  · skip
    refine lv_top (wrS_2 c_a c_b) ?_
    obtain ⟨i, h_i, h_i2, rfl⟩ := rg_ix (a := 0) (b := 3) (by decide) c_a
    have hcl_i : (nI i).toNatClampNeg = i := nI_clamp (by omega)
    rw [hcl_i] at c_b
    refine lv_istore (lv' := [(5, .int ((-1000000006))), (0, .ref (ad 0)), (1, .int (nI i)), (2, .int (o)), (3, .long (x))]) hx hb dX5_write_5 hl (by decide) rfl (fun ls hl => ?_)
    refine lv_iload hx hb dX5_write_7 (lv_at hl 0 rfl) ?_
    refine lv_if_eq (tgt := 20) hx hb dX5_write_9 (by decide) (fun c_9 => ?_) (fun c_9 => ?_)
    · skip
      exact absurd c_9 (by decide)
    · skip
      refine lv_aload_n hx hb dX5_write_12 rfl (lv_at hl 1 rfl) ?_
      refine lv_iload hx hb dX5_write_13 (lv_at hl 0 rfl) ?_
      refine wq_V S mK_ok hK hP hS (c_X5_finds (t := 5) (by decide)) gX5_write_X5_finds i_X5_finds rfl (m_rec hK hP) ⟨Nat.le_of_ble_eq_true rfl, Nat.le_of_ble_eq_true rfl⟩ rfl hl.1 (As := [.int ((-1000000006))]) (rest := []) (st1 := [.int ((-1000000006))]) rfl rfl (Nat.le_of_ble_eq_true rfl) ⟨Nat.le_of_ble_eq_true rfl, Nat.le_of_ble_eq_true rfl⟩ dX5_write_15 (fun H locs hP hS => ?_)
      refine lv_i2l (v := ((-1000000006) : Int32).toInt64) hx hb dX5_write_18 rfl ?_
      subst hQ
      exact mp_rl hx hb hr hlocks hP hS dX5_write_19 (by first | with_reducible rfl | (simp only [fnd, if_pos c_a, if_pos c_b, if_neg c_9]; done) | (simp only [fnd, hcl_i, c_a, if_pos c_b, if_neg c_9, Bool.false_eq_true, Bool.true_eq_false, and_true, true_and, false_and, and_false, and_self, not_true_eq_false, not_false_eq_true, if_true, if_false, reduceIte, or_false, false_or, true_or, or_true]; done) | (subst_vars; first | with_reducible rfl | (simp only [fnd, if_pos c_a, if_pos c_b, if_neg c_9]; done) | (simp only [fnd, hcl_i, c_a, if_pos c_b, if_neg c_9, Bool.false_eq_true, Bool.true_eq_false, and_true, true_and, false_and, and_false, and_self, not_true_eq_false, not_false_eq_true, if_true, if_false, reduceIte, or_false, false_or, true_or, or_true]; done)) | contradiction | rfl) (by first | with_reducible rfl | (simp only [fnd, if_pos c_a, if_pos c_b, if_neg c_9]; done) | (simp only [fnd, hcl_i, c_a, if_pos c_b, if_neg c_9, Bool.false_eq_true, Bool.true_eq_false, and_true, true_and, false_and, and_false, and_self, not_true_eq_false, not_false_eq_true, if_true, if_false, reduceIte, or_false, false_or, true_or, or_true]; done) | (subst_vars; first | with_reducible rfl | (simp only [fnd, if_pos c_a, if_pos c_b, if_neg c_9]; done) | (simp only [fnd, hcl_i, c_a, if_pos c_b, if_neg c_9, Bool.false_eq_true, Bool.true_eq_false, and_true, true_and, false_and, and_false, and_self, not_true_eq_false, not_false_eq_true, if_true, if_false, reduceIte, or_false, false_or, true_or, or_true]; done)) | contradiction | rfl)
  · skip
    refine lv_top (wrS_3 c_a c_b) ?_
    obtain ⟨i, h_i, h_i2, rfl⟩ := rg_ix (a := 0) (b := 3) (by decide) c_a
    have hcl_i : (nI i).toNatClampNeg = i := nI_clamp (by omega)
    rw [hcl_i] at c_b
    refine lv_istore (lv' := [(5, .int (nI 0)), (0, .ref (ad 0)), (1, .int (nI i)), (2, .int (o)), (3, .long (x))]) hx hb dX5_write_5 hl (by decide) rfl (fun ls hl => ?_)
    refine lv_iload hx hb dX5_write_7 (lv_at hl 0 rfl) ?_
    refine lv_if_eq (tgt := 20) hx hb dX5_write_9 (by decide) (fun c_9 => ?_) (fun c_9 => ?_)
    · skip
      refine lv_iload_n hx hb dX5_write_20 rfl (lv_at hl 3 rfl) ?_
      refine lv_i2l (v := (o).toInt64) hx hb dX5_write_21 rfl ?_
      refine lv_lconst (v := 0) hx hb dX5_write_22 (by decide) ?_
      refine lv_aload_n hx hb dX5_write_23 rfl (lv_at hl 1 rfl) ?_
      refine m_get hx hb hts hin hown hK hP 13 (by decide) (hts (.fieldLink RX5 31 "PennyRoadModel" "sizeOf" "[I") (by decide +kernel)) rfl dX5_write_24 ?_
      refine lv_iload_n hx hb dX5_write_27 rfl (lv_at hl 2 rfl) ?_
      refine m_ald hx hb hK hP 8 rfl (by decide) (by omega) dX5_write_28 ?_
      refine lv_iconst (v := nI 1) hx hb dX5_write_29 (by decide) ?_
      refine lv_isub hx hb dX5_write_30 ?_
      refine lv_i2l (v := ((so i) - (nI 1)).toInt64) hx hb dX5_write_31 rfl ?_
      refine sq_S S (c_X5_inY) gX5_write_X5_in i_X5_in ⟨Nat.le_of_ble_eq_true rfl, Nat.le_of_ble_eq_true rfl⟩ rfl hl.1 (As := [.long ((o).toInt64), .long (0), .long (((so i) - (nI 1)).toInt64)]) (rest := []) (st1 := [.int (z (rg 0 (((so i) - (nI 1)).toInt64).toInt (o)))]) rfl rfl (Nat.le_of_ble_eq_true rfl) ⟨Nat.le_of_ble_eq_true rfl, Nat.le_of_ble_eq_true rfl⟩ dX5_write_32 ?_
      refine lvz_if_ne (tgt := 46) hx hb dX5_write_35 (by decide) (fun c_35 => ?_) (fun c_35 => ?_)
      · skip
        obtain ⟨z_, hz4, hze⟩ := hz i (by omega)
        obtain ⟨j_, h_j, rfl⟩ := rgso hz4 hze c_35
        have hcl_j_ : (nI j_).toNatClampNeg = j_ := nI_clamp (by omega)
        refine lv_aload_n hx hb dX5_write_46 rfl (lv_at hl 1 rfl) ?_
        refine m_get hx hb hts hin hown hK hP 14 (by decide) (hts (.fieldLink RX5 34 "PennyRoadModel" "numbers" "[J") (by decide +kernel)) rfl dX5_write_47 ?_
        refine lv_bipush (v := nI 40) hx hb dX5_write_50 (by decide) ?_
        refine lv_iload_n hx hb dX5_write_52 rfl (lv_at hl 2 rfl) ?_
        refine lvn_imul hx hb dX5_write_53 ?_
        refine lv_iload_n hx hb dX5_write_54 rfl (lv_at hl 3 rfl) ?_
        refine lvn_iadd hx hb dX5_write_55 ?_
        refine m_lald hx hb hK hP 9 rfl (by decide) (by omega) dX5_write_56 ?_
        refine lv_lstore (lv' := [(6, .long (nu ((40 * i) + j_))), (5, .int (nI 0)), (0, .ref (ad 0)), (1, .int (nI i)), (2, .int (nI j_)), (3, .long (x))]) hx hb dX5_write_57 hl (by decide) rfl (fun ls hl => ?_)
        refine lv_aload_n hx hb dX5_write_59 rfl (lv_at hl 2 rfl) ?_
        refine m_get hx hb hts hin hown hK hP 14 (by decide) (hts (.fieldLink RX5 34 "PennyRoadModel" "numbers" "[J") (by decide +kernel)) rfl dX5_write_60 ?_
        refine lv_bipush (v := nI 40) hx hb dX5_write_63 (by decide) ?_
        refine lv_iload_n hx hb dX5_write_65 rfl (lv_at hl 3 rfl) ?_
        refine lvn_imul hx hb dX5_write_66 ?_
        refine lv_iload_n hx hb dX5_write_67 rfl (lv_at hl 4 rfl) ?_
        refine lvn_iadd hx hb dX5_write_68 ?_
        refine lv_aload_n hx hb dX5_write_69 rfl (lv_at hl 2 rfl) ?_
        refine m_get hx hb hts hin hown hK hP 12 (by decide) (hts (.fieldLink RX5 28 "PennyRoadModel" "bitsOf" "[I") (by decide +kernel)) rfl dX5_write_70 ?_
        refine lv_iload_n hx hb dX5_write_73 rfl (lv_at hl 3 rfl) ?_
        refine m_ald hx hb hK hP 7 rfl (by decide) (by omega) dX5_write_74 ?_
        refine lv_lload_n hx hb dX5_write_75 rfl (lv_at hl 5 rfl) ?_
        refine sq_S S (c_X5_narrowed) gX5_write_X5_narrowed i_X5_narrowed ⟨Nat.le_of_ble_eq_true rfl, Nat.le_of_ble_eq_true rfl⟩ rfl hl.1 (As := [.int (bo i), .long (x)]) (rest := [.int (nI ((40 * i) + j_)), .ref (ad 9)]) (st1 := [.long (narF (bo i) (x)), .int (nI ((40 * i) + j_)), .ref (ad 9)]) rfl rfl (Nat.le_of_ble_eq_true rfl) ⟨Nat.le_of_ble_eq_true rfl, Nat.le_of_ble_eq_true rfl⟩ dX5_write_76 ?_
        refine m_last (w' := (mw cy ad sr kS ot asd stt ik tp td fr tt vl wr bo so (vp_updL nu ((40 * i) + j_) (narF (bo i) (x))) mv)) hx hb hK hP hS 9 rfl (by decide) (by omega) rfl dX5_write_79 (fun H locs hP hS => ?_)
        refine lv_lload hx hb dX5_write_80 (lv_at hl 0 rfl) ?_
        subst hQ
        exact mp_rl hx hb hr hlocks hP hS dX5_write_82 (by first | with_reducible rfl | (simp only [fnd, if_pos c_a, if_neg c_b, if_pos c_9, if_pos c_35]; done) | (simp only [fnd, hcl_i, hcl_j_, c_a, if_neg c_b, if_pos c_9, c_35, Bool.false_eq_true, Bool.true_eq_false, and_true, true_and, false_and, and_false, and_self, not_true_eq_false, not_false_eq_true, if_true, if_false, reduceIte, or_false, false_or, true_or, or_true]; done) | (subst_vars; first | with_reducible rfl | (simp only [fnd, if_pos c_a, if_neg c_b, if_pos c_9, if_pos c_35]; done) | (simp only [fnd, hcl_i, hcl_j_, c_a, if_neg c_b, if_pos c_9, c_35, Bool.false_eq_true, Bool.true_eq_false, and_true, true_and, false_and, and_false, and_self, not_true_eq_false, not_false_eq_true, if_true, if_false, reduceIte, or_false, false_or, true_or, or_true]; done)) | contradiction | rfl) (by first | with_reducible rfl | (simp only [fnd, if_pos c_a, if_neg c_b, if_pos c_9, if_pos c_35]; done) | (simp only [fnd, hcl_i, hcl_j_, c_a, if_neg c_b, if_pos c_9, c_35, Bool.false_eq_true, Bool.true_eq_false, and_true, true_and, false_and, and_false, and_self, not_true_eq_false, not_false_eq_true, if_true, if_false, reduceIte, or_false, false_or, true_or, or_true]; done) | (subst_vars; first | with_reducible rfl | (simp only [fnd, if_pos c_a, if_neg c_b, if_pos c_9, if_pos c_35]; done) | (simp only [fnd, hcl_i, hcl_j_, c_a, if_neg c_b, if_pos c_9, c_35, Bool.false_eq_true, Bool.true_eq_false, and_true, true_and, false_and, and_false, and_self, not_true_eq_false, not_false_eq_true, if_true, if_false, reduceIte, or_false, false_or, true_or, or_true]; done)) | contradiction | rfl)
      · skip
        refine lv_aload_n hx hb dX5_write_38 rfl (lv_at hl 1 rfl) ?_
        refine lv_ldc (v := (-1000000001)) hx hb hown (hts (.constant RX5 41 ((-1000000001))) (by decide +kernel)) dX5_write_39 ?_
        refine wq_V S mK_ok hK hP hS (c_X5_finds (t := 0) (by decide)) gX5_write_X5_finds i_X5_finds rfl (m_rec hK hP) ⟨Nat.le_of_ble_eq_true rfl, Nat.le_of_ble_eq_true rfl⟩ rfl hl.1 (As := [.int ((-1000000001))]) (rest := []) (st1 := [.int ((-1000000001))]) rfl rfl (Nat.le_of_ble_eq_true rfl) ⟨Nat.le_of_ble_eq_true rfl, Nat.le_of_ble_eq_true rfl⟩ dX5_write_41 (fun H locs hP hS => ?_)
        refine lv_i2l (v := ((-1000000001) : Int32).toInt64) hx hb dX5_write_44 rfl ?_
        subst hQ
        exact mp_rl hx hb hr hlocks hP hS dX5_write_45 (by first | with_reducible rfl | (simp only [fnd, if_pos c_a, if_neg c_b, if_pos c_9, if_neg c_35]; done) | (simp only [fnd, hcl_i, c_a, if_neg c_b, if_pos c_9, c_35, Bool.false_eq_true, Bool.true_eq_false, and_true, true_and, false_and, and_false, and_self, not_true_eq_false, not_false_eq_true, if_true, if_false, reduceIte, or_false, false_or, true_or, or_true]; done) | (subst_vars; first | with_reducible rfl | (simp only [fnd, if_pos c_a, if_neg c_b, if_pos c_9, if_neg c_35]; done) | (simp only [fnd, hcl_i, c_a, if_neg c_b, if_pos c_9, c_35, Bool.false_eq_true, Bool.true_eq_false, and_true, true_and, false_and, and_false, and_self, not_true_eq_false, not_false_eq_true, if_true, if_false, reduceIte, or_false, false_or, true_or, or_true]; done)) | contradiction | rfl) (by first | with_reducible rfl | (simp only [fnd, if_pos c_a, if_neg c_b, if_pos c_9, if_neg c_35]; done) | (simp only [fnd, hcl_i, c_a, if_neg c_b, if_pos c_9, c_35, Bool.false_eq_true, Bool.true_eq_false, and_true, true_and, false_and, and_false, and_self, not_true_eq_false, not_false_eq_true, if_true, if_false, reduceIte, or_false, false_or, true_or, or_true]; done) | (subst_vars; first | with_reducible rfl | (simp only [fnd, if_pos c_a, if_neg c_b, if_pos c_9, if_neg c_35]; done) | (simp only [fnd, hcl_i, c_a, if_neg c_b, if_pos c_9, c_35, Bool.false_eq_true, Bool.true_eq_false, and_true, true_and, false_and, and_false, and_self, not_true_eq_false, not_false_eq_true, if_true, if_false, reduceIte, or_false, false_or, true_or, or_true]; done)) | contradiction | rfl)
    · skip
      exact absurd c_9 (by decide)
theorem i_X5_write : ciOk yX5_write cX5_write 8 (some .long) wsX5_write 3 := ⟨⟨_, rfl⟩, by decide +kernel⟩
set_option maxHeartbeats 1000000 in
set_option maxRecDepth 100000 in
theorem c_X5_sheet {l : Launch} {D : va_G} {cy : Nat → ClassId} {ad : Nat → Nat} {sr kS ot asd stt : Nat → Int32} {ik : Int32} {tp : Nat → Int32} {td fr tt vl wr : Int32} {bo so : Nat → Int32} {nu mv : Nat → Int64} {q : Int32} {o : Int32} {v : Int32} : Met l yX5_sheet wsX5_sheet (rmz 2 45) (wPre D (mK D cy ad) (mw cy ad sr kS ot asd stt ik tp td fr tt vl wr bo so nu mv) [.ref (ad 0), .int (q), .int (o), .int (v)]) (mPub D cy ad (some (.int (if rg 0 3 q ∧ bitsOk o then (if 0 ≤ v then (if v ≤ nI 40 then (if o = 0 then nI 0 else v) else -1000000001) else -1000000007) else -1000000001))) sr kS (if rg 0 3 q ∧ bitsOk o then (if 0 ≤ v then (if v ≤ nI 40 then stt else fnd stt 0) else fnd stt 6) else fnd stt 0) ik tp td (if rg 0 3 q ∧ bitsOk o then (if 0 ≤ v then (if v ≤ nI 40 then upd bo q.toNatClampNeg o else bo) else bo) else bo) (if rg 0 3 q ∧ bitsOk o then (if 0 ≤ v then (if v ≤ nI 40 then upd so q.toNatClampNeg (if o = 0 then nI 0 else v) else so) else so) else so) (if rg 0 3 q ∧ bitsOk o then (if 0 ≤ v then (if v ≤ nI 40 then zrJ nu q.toNatClampNeg 40 else nu) else nu) else nu)) 0 0 (mA ad) := by
  refine wq_entry rfl rfl (Nat.le_of_ble_eq_true rfl) ?_
  intro p e s0 m args below meth c S hr hlocks hK hP ls hl
  have S : CallFix p m c cX5_sheet 5 s0 args wsX5_sheet RX5 := S
  obtain ⟨hx, hb, hml, hown, hts⟩ := id S
  have hin : ∀ w ∈ wsX50, w ∈ wsX5_sheet := fun w h => List.mem_cons_of_mem _ (List.mem_append_right _ h)
  have hS : va_S (mA ad) s0.heap s0.heap [] := va_S.rf
  have hl : lv_has ls 5 [(0, .ref (ad 0)), (1, .int (q)), (2, .int (o)), (3, .int (v))] := hl
  generalize hQ : MQ below (mPub D cy ad (some (.int (if rg 0 3 q ∧ bitsOk o then (if 0 ≤ v then (if v ≤ nI 40 then (if o = 0 then nI 0 else v) else -1000000001) else -1000000007) else -1000000001))) sr kS (if rg 0 3 q ∧ bitsOk o then (if 0 ≤ v then (if v ≤ nI 40 then stt else fnd stt 0) else fnd stt 6) else fnd stt 0) ik tp td (if rg 0 3 q ∧ bitsOk o then (if 0 ≤ v then (if v ≤ nI 40 then upd bo q.toNatClampNeg o else bo) else bo) else bo) (if rg 0 3 q ∧ bitsOk o then (if 0 ≤ v then (if v ≤ nI 40 then upd so q.toNatClampNeg (if o = 0 then nI 0 else v) else so) else so) else so) (if rg 0 3 q ∧ bitsOk o then (if 0 ≤ v then (if v ≤ nI 40 then zrJ nu q.toNatClampNeg 40 else nu) else nu) else nu)) args s0 0 0 (mA ad) = Q
  refine lv_iload_n hx hb dX5_sheet_0 rfl (lv_at hl 1 rfl) ?_
  refine sq_S S (c_X5_isOne) gX5_sheet_X5_isOne i_X5_isOne ⟨Nat.le_of_ble_eq_true rfl, Nat.le_of_ble_eq_true rfl⟩ rfl hl.1 (As := [.int (q)]) (rest := []) (st1 := [.int (z (rg 0 3 (q)))]) rfl rfl (Nat.le_of_ble_eq_true rfl) ⟨Nat.le_of_ble_eq_true rfl, Nat.le_of_ble_eq_true rfl⟩ dX5_sheet_1 ?_
  refine lvz_if_eq (tgt := 29) hx hb dX5_sheet_4 (by decide) (fun c_4 => ?_) (fun c_4 => ?_)
  · skip
    refine lv_aload_n hx hb dX5_sheet_29 rfl (lv_at hl 0 rfl) ?_
    refine lv_ldc (v := (-1000000001)) hx hb hown (hts (.constant RX5 41 ((-1000000001))) (by decide +kernel)) dX5_sheet_30 ?_
    refine wq_V S mK_ok hK hP hS (c_X5_finds (t := 0) (by decide)) gX5_sheet_X5_finds i_X5_finds rfl (m_rec hK hP) ⟨Nat.le_of_ble_eq_true rfl, Nat.le_of_ble_eq_true rfl⟩ rfl hl.1 (As := [.int ((-1000000001))]) (rest := []) (st1 := [.int ((-1000000001))]) rfl rfl (Nat.le_of_ble_eq_true rfl) ⟨Nat.le_of_ble_eq_true rfl, Nat.le_of_ble_eq_true rfl⟩ dX5_sheet_32 (fun H locs hP hS => ?_)
    subst hQ
    exact mp_ri hx hb hr hlocks hP hS dX5_sheet_35 (by first | with_reducible rfl | (simp only [fnd, bitsOk, upd_s, if_neg c_4]; done) | (simp only [fnd, bitsOk, upd_s, c_4, Bool.true_and, Bool.false_and, Bool.true_or, Bool.or_true, Bool.false_or, Bool.or_false, Bool.and_true, Bool.and_false, Bool.or_self, Bool.and_self, Bool.false_eq_true, Bool.true_eq_false, and_true, true_and, false_and, and_false, and_self, not_true_eq_false, not_false_eq_true, if_true, if_false, reduceIte, or_false, false_or, true_or, or_true]; done) | (subst_vars; first | with_reducible rfl | (simp only [fnd, bitsOk, upd_s, if_neg c_4]; done) | (simp only [fnd, bitsOk, upd_s, c_4, Bool.true_and, Bool.false_and, Bool.true_or, Bool.or_true, Bool.false_or, Bool.or_false, Bool.and_true, Bool.and_false, Bool.or_self, Bool.and_self, Bool.false_eq_true, Bool.true_eq_false, and_true, true_and, false_and, and_false, and_self, not_true_eq_false, not_false_eq_true, if_true, if_false, reduceIte, or_false, false_or, true_or, or_true]; done)) | contradiction | rfl) (by first | with_reducible rfl | (simp only [fnd, bitsOk, upd_s, if_neg c_4]; done) | (simp only [fnd, bitsOk, upd_s, c_4, Bool.true_and, Bool.false_and, Bool.true_or, Bool.or_true, Bool.false_or, Bool.or_false, Bool.and_true, Bool.and_false, Bool.or_self, Bool.and_self, Bool.false_eq_true, Bool.true_eq_false, and_true, true_and, false_and, and_false, and_self, not_true_eq_false, not_false_eq_true, if_true, if_false, reduceIte, or_false, false_or, true_or, or_true]; done) | (subst_vars; first | with_reducible rfl | (simp only [fnd, bitsOk, upd_s, if_neg c_4]; done) | (simp only [fnd, bitsOk, upd_s, c_4, Bool.true_and, Bool.false_and, Bool.true_or, Bool.or_true, Bool.false_or, Bool.or_false, Bool.and_true, Bool.and_false, Bool.or_self, Bool.and_self, Bool.false_eq_true, Bool.true_eq_false, and_true, true_and, false_and, and_false, and_self, not_true_eq_false, not_false_eq_true, if_true, if_false, reduceIte, or_false, false_or, true_or, or_true]; done)) | contradiction | rfl)
  · skip
    refine lv_iload_n hx hb dX5_sheet_7 rfl (lv_at hl 2 rfl) ?_
    refine lv_if_eq (tgt := 36) hx hb dX5_sheet_8 (by decide) (fun c_8 => ?_) (fun c_8 => ?_)
    · skip
      refine lv_iload_n hx hb dX5_sheet_36 rfl (lv_at hl 3 rfl) ?_
      refine lv_if_ge (tgt := 48) hx hb dX5_sheet_37 (by decide) (fun c_37 => ?_) (fun c_37 => ?_)
      · skip
        refine lv_iload_n hx hb dX5_sheet_48 rfl (lv_at hl 3 rfl) ?_
        refine lv_bipush (v := nI 40) hx hb dX5_sheet_49 (by decide) ?_
        refine lv_icmp_le (tgt := 61) hx hb dX5_sheet_51 (by decide) (fun c_51 => ?_) (fun c_51 => ?_)
        · skip
          obtain ⟨i, h_i, h_i2, rfl⟩ := rg_ix (a := 0) (b := 3) (by decide) c_4
          have hcl_i : (nI i).toNatClampNeg = i := nI_clamp (by omega)
          refine lv_aload_n hx hb dX5_sheet_61 rfl (lv_at hl 0 rfl) ?_
          refine m_get hx hb hts hin hown hK hP 12 (by decide) (hts (.fieldLink RX5 28 "PennyRoadModel" "bitsOf" "[I") (by decide +kernel)) rfl dX5_sheet_62 ?_
          refine lv_iload_n hx hb dX5_sheet_65 rfl (lv_at hl 1 rfl) ?_
          refine lv_iload_n hx hb dX5_sheet_66 rfl (lv_at hl 2 rfl) ?_
          refine m_ast (w' := (mw cy ad sr kS ot asd stt ik tp td fr tt vl wr (upd bo i o) so nu mv)) hx hb hK hP hS 7 rfl (by decide) (by omega) rfl dX5_sheet_67 (fun H locs hP hS => ?_)
          refine lv_aload_n hx hb dX5_sheet_68 rfl (lv_at hl 0 rfl) ?_
          refine m_get hx hb hts hin hown hK hP 13 (by decide) (hts (.fieldLink RX5 31 "PennyRoadModel" "sizeOf" "[I") (by decide +kernel)) rfl dX5_sheet_69 ?_
          refine lv_iload_n hx hb dX5_sheet_72 rfl (lv_at hl 1 rfl) ?_
          refine lv_iload_n hx hb dX5_sheet_73 rfl (lv_at hl 2 rfl) ?_
          have K_1 : ∀ (x_2 : Int32) (H : Heap) (locs : List Loc) (ls : Array Slot), x_2 = (if (o) = 0 then (nI 0) else v) → va_P D vwCl (mw cy ad sr kS ot asd stt ik tp td fr tt vl wr (upd bo i o) so nu mv) H → va_S (mA ad) s0.heap H locs → lv_has ls 5 [(0, .ref (ad 0)), (1, .int (nI i)), (2, .int (o)), (3, .int (v))] → W p l e (rmz 2 45) s0 m args below meth c H locs 0 0 Q (F0 m 82 ls [.int (x_2), .int (nI i), .ref (ad 8)]) := by
            intro x_2 H locs ls ex_2 hP hS hl
            refine m_ast (w' := (mw cy ad sr kS ot asd stt ik tp td fr tt vl wr (upd bo i o) (upd so i x_2) nu mv)) hx hb hK hP hS 8 rfl (by decide) (by omega) rfl dX5_sheet_82 (fun H locs hP hS => ?_)
            refine lv_iconst (v := nI 0) hx hb dX5_sheet_83 (by decide) ?_
            refine lv_istore (lv' := [(4, .int (nI 0)), (0, .ref (ad 0)), (1, .int (nI i)), (2, .int (o)), (3, .int (v))]) hx hb dX5_sheet_84 hl (by decide) rfl (fun ls hl => ?_)
            have L_86 : ∀ (n : Nat) (j : Nat) (H : Heap) (locs : List Loc) (ls : Array Slot), (j + n = 40) → va_P D vwCl (mw cy ad sr kS ot asd stt ik tp td fr tt vl wr (upd bo i o) (upd so i x_2) (zrJ nu i j) mv) H → va_S (mA ad) s0.heap H locs → lv_has ls 5 [(4, .int (nI j)), (0, .ref (ad 0)), (1, .int (nI i)), (2, .int (o)), (3, .int (v))] → W p l e (rmz 2 45) s0 m args below meth c H locs 0 0 Q (F0 m 86 ls []) := by
              intro n
              induction n with
              | zero =>
                intro j H locs ls hj hP hS hl
                refine lv_iload hx hb dX5_sheet_86 (lv_at hl 0 rfl) ?_
                refine lv_bipush (v := nI 40) hx hb dX5_sheet_88 (by decide) ?_
                refine lvn_icmp_ge (tgt := 112) hx hb dX5_sheet_90 (by decide) (by omega) (by omega) (fun c_90 => ?_) (fun c_90 => ?_)
                · skip
                  have hj9 : j = 40 := by omega
                  subst hj9
                  refine lv_aload_n hx hb dX5_sheet_112 rfl (lv_at hl 1 rfl) ?_
                  refine m_get hx hb hts hin hown hK hP 13 (by decide) (hts (.fieldLink RX5 31 "PennyRoadModel" "sizeOf" "[I") (by decide +kernel)) rfl dX5_sheet_113 ?_
                  refine lv_iload_n hx hb dX5_sheet_116 rfl (lv_at hl 2 rfl) ?_
                  refine m_ald hx hb hK hP 8 rfl (by decide) (by omega) dX5_sheet_117 ?_
                  subst hQ
                  exact mp_ri hx hb hr hlocks hP hS dX5_sheet_118 (by first | with_reducible rfl | (simp only [fnd, bitsOk, upd_s, if_pos c_4, if_pos c_8, if_pos c_37, if_pos c_51, if_pos c_90]; done) | (simp only [fnd, bitsOk, upd_s, decide_eq_true c_8, decide_eq_true c_37, decide_eq_true c_51, decide_eq_true c_90, hcl_i, ex_2, c_4, if_pos c_8, if_pos c_37, if_pos c_51, if_pos c_90, Bool.true_and, Bool.false_and, Bool.true_or, Bool.or_true, Bool.false_or, Bool.or_false, Bool.and_true, Bool.and_false, Bool.or_self, Bool.and_self, Bool.false_eq_true, Bool.true_eq_false, and_true, true_and, false_and, and_false, and_self, not_true_eq_false, not_false_eq_true, if_true, if_false, reduceIte, or_false, false_or, true_or, or_true]; done) | (subst_vars; first | with_reducible rfl | (simp only [fnd, bitsOk, upd_s, if_pos c_4, if_pos c_8, if_pos c_37, if_pos c_51, if_pos c_90]; done) | (simp only [fnd, bitsOk, upd_s, decide_eq_true c_8, decide_eq_true c_37, decide_eq_true c_51, decide_eq_true c_90, hcl_i, ex_2, c_4, if_pos c_8, if_pos c_37, if_pos c_51, if_pos c_90, Bool.true_and, Bool.false_and, Bool.true_or, Bool.or_true, Bool.false_or, Bool.or_false, Bool.and_true, Bool.and_false, Bool.or_self, Bool.and_self, Bool.false_eq_true, Bool.true_eq_false, and_true, true_and, false_and, and_false, and_self, not_true_eq_false, not_false_eq_true, if_true, if_false, reduceIte, or_false, false_or, true_or, or_true]; done)) | contradiction | rfl) (by first | with_reducible rfl | (simp only [fnd, bitsOk, upd_s, if_pos c_4, if_pos c_8, if_pos c_37, if_pos c_51, if_pos c_90]; done) | (simp only [fnd, bitsOk, upd_s, decide_eq_true c_8, decide_eq_true c_37, decide_eq_true c_51, decide_eq_true c_90, hcl_i, ex_2, c_4, if_pos c_8, if_pos c_37, if_pos c_51, if_pos c_90, Bool.true_and, Bool.false_and, Bool.true_or, Bool.or_true, Bool.false_or, Bool.or_false, Bool.and_true, Bool.and_false, Bool.or_self, Bool.and_self, Bool.false_eq_true, Bool.true_eq_false, and_true, true_and, false_and, and_false, and_self, not_true_eq_false, not_false_eq_true, if_true, if_false, reduceIte, or_false, false_or, true_or, or_true]; done) | (subst_vars; first | with_reducible rfl | (simp only [fnd, bitsOk, upd_s, if_pos c_4, if_pos c_8, if_pos c_37, if_pos c_51, if_pos c_90]; done) | (simp only [fnd, bitsOk, upd_s, decide_eq_true c_8, decide_eq_true c_37, decide_eq_true c_51, decide_eq_true c_90, hcl_i, ex_2, c_4, if_pos c_8, if_pos c_37, if_pos c_51, if_pos c_90, Bool.true_and, Bool.false_and, Bool.true_or, Bool.or_true, Bool.false_or, Bool.or_false, Bool.and_true, Bool.and_false, Bool.or_self, Bool.and_self, Bool.false_eq_true, Bool.true_eq_false, and_true, true_and, false_and, and_false, and_self, not_true_eq_false, not_false_eq_true, if_true, if_false, reduceIte, or_false, false_or, true_or, or_true]; done)) | contradiction | rfl)
                · skip
                  exfalso; omega
              | succ n ih_86 =>
                intro j H locs ls hj hP hS hl
                refine lv_iload hx hb dX5_sheet_86 (lv_at hl 0 rfl) ?_
                refine lv_bipush (v := nI 40) hx hb dX5_sheet_88 (by decide) ?_
                refine lvn_icmp_ge (tgt := 112) hx hb dX5_sheet_90 (by decide) (by omega) (by omega) (fun c_90 => ?_) (fun c_90 => ?_)
                · skip
                  exfalso; omega
                · skip
                  refine lv_aload_n hx hb dX5_sheet_93 rfl (lv_at hl 1 rfl) ?_
                  refine m_get hx hb hts hin hown hK hP 14 (by decide) (hts (.fieldLink RX5 34 "PennyRoadModel" "numbers" "[J") (by decide +kernel)) rfl dX5_sheet_94 ?_
                  refine lv_bipush (v := nI 40) hx hb dX5_sheet_97 (by decide) ?_
                  refine lv_iload_n hx hb dX5_sheet_99 rfl (lv_at hl 2 rfl) ?_
                  refine lvn_imul hx hb dX5_sheet_100 ?_
                  refine lv_iload hx hb dX5_sheet_101 (lv_at hl 0 rfl) ?_
                  refine lvn_iadd hx hb dX5_sheet_103 ?_
                  refine lv_lconst (v := 0) hx hb dX5_sheet_104 (by decide) ?_
                  refine m_last (w' := (mw cy ad sr kS ot asd stt ik tp td fr tt vl wr (upd bo i o) (upd so i x_2) (vp_updL (zrJ nu i j) ((40 * i) + j) 0) mv)) hx hb hK hP hS 9 rfl (by decide) (by omega) rfl dX5_sheet_105 (fun H locs hP hS => ?_)
                  refine lv_iinc (v := nI (j + 1)) (lv' := [(4, .int (nI (j + 1))), (0, .ref (ad 0)), (1, .int (nI i)), (2, .int (o)), (3, .int (v))]) hx hb dX5_sheet_106 hl (k := 0) rfl (nI_add _ _) (by decide) rfl (fun ls hl => ?_)
                  refine lv_goto (tgt := 86) hx hb dX5_sheet_109 (by decide) ?_
                  exact ih_86 (j + 1) _ _ ls (by omega) (by rw [zrJ_s] at hP; exact hP) hS hl
            exact L_86 40 0 _ _ ls (by omega) (by rw [zrJ_0]; exact hP) hS hl
          refine lv_if_ne (tgt := 81) hx hb dX5_sheet_74 (by decide) (fun c_74 => ?_) (fun c_74 => ?_)
          · skip
            refine lv_iload_n hx hb dX5_sheet_81 rfl (lv_at hl 3 rfl) ?_
            exact K_1 (v) _ _ ls (by simp only [if_neg c_74]) hP hS hl
          · skip
            refine lv_iconst (v := nI 0) hx hb dX5_sheet_77 (by decide) ?_
            refine lv_goto (tgt := 82) hx hb dX5_sheet_78 (by decide) ?_
            exact K_1 (nI 0) _ _ ls (by simp only [if_pos c_74]) hP hS hl
        · skip
          refine lv_aload_n hx hb dX5_sheet_54 rfl (lv_at hl 0 rfl) ?_
          refine lv_ldc (v := (-1000000001)) hx hb hown (hts (.constant RX5 41 ((-1000000001))) (by decide +kernel)) dX5_sheet_55 ?_
          refine wq_V S mK_ok hK hP hS (c_X5_finds (t := 0) (by decide)) gX5_sheet_X5_finds i_X5_finds rfl (m_rec hK hP) ⟨Nat.le_of_ble_eq_true rfl, Nat.le_of_ble_eq_true rfl⟩ rfl hl.1 (As := [.int ((-1000000001))]) (rest := []) (st1 := [.int ((-1000000001))]) rfl rfl (Nat.le_of_ble_eq_true rfl) ⟨Nat.le_of_ble_eq_true rfl, Nat.le_of_ble_eq_true rfl⟩ dX5_sheet_57 (fun H locs hP hS => ?_)
          subst hQ
          exact mp_ri hx hb hr hlocks hP hS dX5_sheet_60 (by first | with_reducible rfl | (simp only [fnd, bitsOk, upd_s, if_pos c_4, if_pos c_8, if_pos c_37, if_neg c_51]; done) | (simp only [fnd, bitsOk, upd_s, decide_eq_true c_8, decide_eq_true c_37, decide_eq_false c_51, c_4, if_pos c_8, if_pos c_37, if_neg c_51, Bool.true_and, Bool.false_and, Bool.true_or, Bool.or_true, Bool.false_or, Bool.or_false, Bool.and_true, Bool.and_false, Bool.or_self, Bool.and_self, Bool.false_eq_true, Bool.true_eq_false, and_true, true_and, false_and, and_false, and_self, not_true_eq_false, not_false_eq_true, if_true, if_false, reduceIte, or_false, false_or, true_or, or_true]; done) | (subst_vars; first | with_reducible rfl | (simp only [fnd, bitsOk, upd_s, if_pos c_4, if_pos c_8, if_pos c_37, if_neg c_51]; done) | (simp only [fnd, bitsOk, upd_s, decide_eq_true c_8, decide_eq_true c_37, decide_eq_false c_51, c_4, if_pos c_8, if_pos c_37, if_neg c_51, Bool.true_and, Bool.false_and, Bool.true_or, Bool.or_true, Bool.false_or, Bool.or_false, Bool.and_true, Bool.and_false, Bool.or_self, Bool.and_self, Bool.false_eq_true, Bool.true_eq_false, and_true, true_and, false_and, and_false, and_self, not_true_eq_false, not_false_eq_true, if_true, if_false, reduceIte, or_false, false_or, true_or, or_true]; done)) | contradiction | rfl) (by first | with_reducible rfl | (simp only [fnd, bitsOk, upd_s, if_pos c_4, if_pos c_8, if_pos c_37, if_neg c_51]; done) | (simp only [fnd, bitsOk, upd_s, decide_eq_true c_8, decide_eq_true c_37, decide_eq_false c_51, c_4, if_pos c_8, if_pos c_37, if_neg c_51, Bool.true_and, Bool.false_and, Bool.true_or, Bool.or_true, Bool.false_or, Bool.or_false, Bool.and_true, Bool.and_false, Bool.or_self, Bool.and_self, Bool.false_eq_true, Bool.true_eq_false, and_true, true_and, false_and, and_false, and_self, not_true_eq_false, not_false_eq_true, if_true, if_false, reduceIte, or_false, false_or, true_or, or_true]; done) | (subst_vars; first | with_reducible rfl | (simp only [fnd, bitsOk, upd_s, if_pos c_4, if_pos c_8, if_pos c_37, if_neg c_51]; done) | (simp only [fnd, bitsOk, upd_s, decide_eq_true c_8, decide_eq_true c_37, decide_eq_false c_51, c_4, if_pos c_8, if_pos c_37, if_neg c_51, Bool.true_and, Bool.false_and, Bool.true_or, Bool.or_true, Bool.false_or, Bool.or_false, Bool.and_true, Bool.and_false, Bool.or_self, Bool.and_self, Bool.false_eq_true, Bool.true_eq_false, and_true, true_and, false_and, and_false, and_self, not_true_eq_false, not_false_eq_true, if_true, if_false, reduceIte, or_false, false_or, true_or, or_true]; done)) | contradiction | rfl)
      · skip
        refine lv_aload_n hx hb dX5_sheet_40 rfl (lv_at hl 0 rfl) ?_
        refine lv_ldcw (v := (-1000000007)) hx hb hown (hts (.constant RX5 271 ((-1000000007))) (by decide +kernel)) dX5_sheet_41 ?_
        refine wq_V S mK_ok hK hP hS (c_X5_finds (t := 6) (by decide)) gX5_sheet_X5_finds i_X5_finds rfl (m_rec hK hP) ⟨Nat.le_of_ble_eq_true rfl, Nat.le_of_ble_eq_true rfl⟩ rfl hl.1 (As := [.int ((-1000000007))]) (rest := []) (st1 := [.int ((-1000000007))]) rfl rfl (Nat.le_of_ble_eq_true rfl) ⟨Nat.le_of_ble_eq_true rfl, Nat.le_of_ble_eq_true rfl⟩ dX5_sheet_44 (fun H locs hP hS => ?_)
        subst hQ
        exact mp_ri hx hb hr hlocks hP hS dX5_sheet_47 (by first | with_reducible rfl | (simp only [fnd, bitsOk, upd_s, if_pos c_4, if_pos c_8, if_neg c_37]; done) | (simp only [fnd, bitsOk, upd_s, decide_eq_true c_8, decide_eq_false c_37, c_4, if_pos c_8, if_neg c_37, Bool.true_and, Bool.false_and, Bool.true_or, Bool.or_true, Bool.false_or, Bool.or_false, Bool.and_true, Bool.and_false, Bool.or_self, Bool.and_self, Bool.false_eq_true, Bool.true_eq_false, and_true, true_and, false_and, and_false, and_self, not_true_eq_false, not_false_eq_true, if_true, if_false, reduceIte, or_false, false_or, true_or, or_true]; done) | (subst_vars; first | with_reducible rfl | (simp only [fnd, bitsOk, upd_s, if_pos c_4, if_pos c_8, if_neg c_37]; done) | (simp only [fnd, bitsOk, upd_s, decide_eq_true c_8, decide_eq_false c_37, c_4, if_pos c_8, if_neg c_37, Bool.true_and, Bool.false_and, Bool.true_or, Bool.or_true, Bool.false_or, Bool.or_false, Bool.and_true, Bool.and_false, Bool.or_self, Bool.and_self, Bool.false_eq_true, Bool.true_eq_false, and_true, true_and, false_and, and_false, and_self, not_true_eq_false, not_false_eq_true, if_true, if_false, reduceIte, or_false, false_or, true_or, or_true]; done)) | contradiction | rfl) (by first | with_reducible rfl | (simp only [fnd, bitsOk, upd_s, if_pos c_4, if_pos c_8, if_neg c_37]; done) | (simp only [fnd, bitsOk, upd_s, decide_eq_true c_8, decide_eq_false c_37, c_4, if_pos c_8, if_neg c_37, Bool.true_and, Bool.false_and, Bool.true_or, Bool.or_true, Bool.false_or, Bool.or_false, Bool.and_true, Bool.and_false, Bool.or_self, Bool.and_self, Bool.false_eq_true, Bool.true_eq_false, and_true, true_and, false_and, and_false, and_self, not_true_eq_false, not_false_eq_true, if_true, if_false, reduceIte, or_false, false_or, true_or, or_true]; done) | (subst_vars; first | with_reducible rfl | (simp only [fnd, bitsOk, upd_s, if_pos c_4, if_pos c_8, if_neg c_37]; done) | (simp only [fnd, bitsOk, upd_s, decide_eq_true c_8, decide_eq_false c_37, c_4, if_pos c_8, if_neg c_37, Bool.true_and, Bool.false_and, Bool.true_or, Bool.or_true, Bool.false_or, Bool.or_false, Bool.and_true, Bool.and_false, Bool.or_self, Bool.and_self, Bool.false_eq_true, Bool.true_eq_false, and_true, true_and, false_and, and_false, and_self, not_true_eq_false, not_false_eq_true, if_true, if_false, reduceIte, or_false, false_or, true_or, or_true]; done)) | contradiction | rfl)
    · skip
      refine lv_iload_n hx hb dX5_sheet_11 rfl (lv_at hl 2 rfl) ?_
      refine lv_bipush (v := nI 8) hx hb dX5_sheet_12 (by decide) ?_
      refine lv_icmp_eq (tgt := 36) hx hb dX5_sheet_14 (by decide) (fun c_14 => ?_) (fun c_14 => ?_)
      · skip
        refine lv_iload_n hx hb dX5_sheet_36 rfl (lv_at hl 3 rfl) ?_
        refine lv_if_ge (tgt := 48) hx hb dX5_sheet_37 (by decide) (fun c_37 => ?_) (fun c_37 => ?_)
        · skip
          refine lv_iload_n hx hb dX5_sheet_48 rfl (lv_at hl 3 rfl) ?_
          refine lv_bipush (v := nI 40) hx hb dX5_sheet_49 (by decide) ?_
          refine lv_icmp_le (tgt := 61) hx hb dX5_sheet_51 (by decide) (fun c_51 => ?_) (fun c_51 => ?_)
          · skip
            obtain ⟨i, h_i, h_i2, rfl⟩ := rg_ix (a := 0) (b := 3) (by decide) c_4
            have hcl_i : (nI i).toNatClampNeg = i := nI_clamp (by omega)
            refine lv_aload_n hx hb dX5_sheet_61 rfl (lv_at hl 0 rfl) ?_
            refine m_get hx hb hts hin hown hK hP 12 (by decide) (hts (.fieldLink RX5 28 "PennyRoadModel" "bitsOf" "[I") (by decide +kernel)) rfl dX5_sheet_62 ?_
            refine lv_iload_n hx hb dX5_sheet_65 rfl (lv_at hl 1 rfl) ?_
            refine lv_iload_n hx hb dX5_sheet_66 rfl (lv_at hl 2 rfl) ?_
            refine m_ast (w' := (mw cy ad sr kS ot asd stt ik tp td fr tt vl wr (upd bo i o) so nu mv)) hx hb hK hP hS 7 rfl (by decide) (by omega) rfl dX5_sheet_67 (fun H locs hP hS => ?_)
            refine lv_aload_n hx hb dX5_sheet_68 rfl (lv_at hl 0 rfl) ?_
            refine m_get hx hb hts hin hown hK hP 13 (by decide) (hts (.fieldLink RX5 31 "PennyRoadModel" "sizeOf" "[I") (by decide +kernel)) rfl dX5_sheet_69 ?_
            refine lv_iload_n hx hb dX5_sheet_72 rfl (lv_at hl 1 rfl) ?_
            refine lv_iload_n hx hb dX5_sheet_73 rfl (lv_at hl 2 rfl) ?_
            have K_3 : ∀ (x_4 : Int32) (H : Heap) (locs : List Loc) (ls : Array Slot), x_4 = (if (o) = 0 then (nI 0) else v) → va_P D vwCl (mw cy ad sr kS ot asd stt ik tp td fr tt vl wr (upd bo i o) so nu mv) H → va_S (mA ad) s0.heap H locs → lv_has ls 5 [(0, .ref (ad 0)), (1, .int (nI i)), (2, .int (o)), (3, .int (v))] → W p l e (rmz 2 45) s0 m args below meth c H locs 0 0 Q (F0 m 82 ls [.int (x_4), .int (nI i), .ref (ad 8)]) := by
              intro x_4 H locs ls ex_4 hP hS hl
              refine m_ast (w' := (mw cy ad sr kS ot asd stt ik tp td fr tt vl wr (upd bo i o) (upd so i x_4) nu mv)) hx hb hK hP hS 8 rfl (by decide) (by omega) rfl dX5_sheet_82 (fun H locs hP hS => ?_)
              refine lv_iconst (v := nI 0) hx hb dX5_sheet_83 (by decide) ?_
              refine lv_istore (lv' := [(4, .int (nI 0)), (0, .ref (ad 0)), (1, .int (nI i)), (2, .int (o)), (3, .int (v))]) hx hb dX5_sheet_84 hl (by decide) rfl (fun ls hl => ?_)
              have L_86 : ∀ (n : Nat) (j : Nat) (H : Heap) (locs : List Loc) (ls : Array Slot), (j + n = 40) → va_P D vwCl (mw cy ad sr kS ot asd stt ik tp td fr tt vl wr (upd bo i o) (upd so i x_4) (zrJ nu i j) mv) H → va_S (mA ad) s0.heap H locs → lv_has ls 5 [(4, .int (nI j)), (0, .ref (ad 0)), (1, .int (nI i)), (2, .int (o)), (3, .int (v))] → W p l e (rmz 2 45) s0 m args below meth c H locs 0 0 Q (F0 m 86 ls []) := by
                intro n
                induction n with
                | zero =>
                  intro j H locs ls hj hP hS hl
                  refine lv_iload hx hb dX5_sheet_86 (lv_at hl 0 rfl) ?_
                  refine lv_bipush (v := nI 40) hx hb dX5_sheet_88 (by decide) ?_
                  refine lvn_icmp_ge (tgt := 112) hx hb dX5_sheet_90 (by decide) (by omega) (by omega) (fun c_90 => ?_) (fun c_90 => ?_)
                  · skip
                    have hj9 : j = 40 := by omega
                    subst hj9
                    refine lv_aload_n hx hb dX5_sheet_112 rfl (lv_at hl 1 rfl) ?_
                    refine m_get hx hb hts hin hown hK hP 13 (by decide) (hts (.fieldLink RX5 31 "PennyRoadModel" "sizeOf" "[I") (by decide +kernel)) rfl dX5_sheet_113 ?_
                    refine lv_iload_n hx hb dX5_sheet_116 rfl (lv_at hl 2 rfl) ?_
                    refine m_ald hx hb hK hP 8 rfl (by decide) (by omega) dX5_sheet_117 ?_
                    subst hQ
                    exact mp_ri hx hb hr hlocks hP hS dX5_sheet_118 (by first | with_reducible rfl | (simp only [fnd, bitsOk, upd_s, if_pos c_4, if_neg c_8, if_pos c_14, if_pos c_37, if_pos c_51, if_pos c_90]; done) | (simp only [fnd, bitsOk, upd_s, decide_eq_false c_8, decide_eq_true c_14, decide_eq_true c_37, decide_eq_true c_51, decide_eq_true c_90, hcl_i, ex_4, c_4, if_neg c_8, if_pos c_14, if_pos c_37, if_pos c_51, if_pos c_90, Bool.true_and, Bool.false_and, Bool.true_or, Bool.or_true, Bool.false_or, Bool.or_false, Bool.and_true, Bool.and_false, Bool.or_self, Bool.and_self, Bool.false_eq_true, Bool.true_eq_false, and_true, true_and, false_and, and_false, and_self, not_true_eq_false, not_false_eq_true, if_true, if_false, reduceIte, or_false, false_or, true_or, or_true]; done) | (subst_vars; first | with_reducible rfl | (simp only [fnd, bitsOk, upd_s, if_pos c_4, if_neg c_8, if_pos c_14, if_pos c_37, if_pos c_51, if_pos c_90]; done) | (simp only [fnd, bitsOk, upd_s, decide_eq_false c_8, decide_eq_true c_14, decide_eq_true c_37, decide_eq_true c_51, decide_eq_true c_90, hcl_i, ex_4, c_4, if_neg c_8, if_pos c_14, if_pos c_37, if_pos c_51, if_pos c_90, Bool.true_and, Bool.false_and, Bool.true_or, Bool.or_true, Bool.false_or, Bool.or_false, Bool.and_true, Bool.and_false, Bool.or_self, Bool.and_self, Bool.false_eq_true, Bool.true_eq_false, and_true, true_and, false_and, and_false, and_self, not_true_eq_false, not_false_eq_true, if_true, if_false, reduceIte, or_false, false_or, true_or, or_true]; done)) | contradiction | rfl) (by first | with_reducible rfl | (simp only [fnd, bitsOk, upd_s, if_pos c_4, if_neg c_8, if_pos c_14, if_pos c_37, if_pos c_51, if_pos c_90]; done) | (simp only [fnd, bitsOk, upd_s, decide_eq_false c_8, decide_eq_true c_14, decide_eq_true c_37, decide_eq_true c_51, decide_eq_true c_90, hcl_i, ex_4, c_4, if_neg c_8, if_pos c_14, if_pos c_37, if_pos c_51, if_pos c_90, Bool.true_and, Bool.false_and, Bool.true_or, Bool.or_true, Bool.false_or, Bool.or_false, Bool.and_true, Bool.and_false, Bool.or_self, Bool.and_self, Bool.false_eq_true, Bool.true_eq_false, and_true, true_and, false_and, and_false, and_self, not_true_eq_false, not_false_eq_true, if_true, if_false, reduceIte, or_false, false_or, true_or, or_true]; done) | (subst_vars; first | with_reducible rfl | (simp only [fnd, bitsOk, upd_s, if_pos c_4, if_neg c_8, if_pos c_14, if_pos c_37, if_pos c_51, if_pos c_90]; done) | (simp only [fnd, bitsOk, upd_s, decide_eq_false c_8, decide_eq_true c_14, decide_eq_true c_37, decide_eq_true c_51, decide_eq_true c_90, hcl_i, ex_4, c_4, if_neg c_8, if_pos c_14, if_pos c_37, if_pos c_51, if_pos c_90, Bool.true_and, Bool.false_and, Bool.true_or, Bool.or_true, Bool.false_or, Bool.or_false, Bool.and_true, Bool.and_false, Bool.or_self, Bool.and_self, Bool.false_eq_true, Bool.true_eq_false, and_true, true_and, false_and, and_false, and_self, not_true_eq_false, not_false_eq_true, if_true, if_false, reduceIte, or_false, false_or, true_or, or_true]; done)) | contradiction | rfl)
                  · skip
                    exfalso; omega
                | succ n ih_86 =>
                  intro j H locs ls hj hP hS hl
                  refine lv_iload hx hb dX5_sheet_86 (lv_at hl 0 rfl) ?_
                  refine lv_bipush (v := nI 40) hx hb dX5_sheet_88 (by decide) ?_
                  refine lvn_icmp_ge (tgt := 112) hx hb dX5_sheet_90 (by decide) (by omega) (by omega) (fun c_90 => ?_) (fun c_90 => ?_)
                  · skip
                    exfalso; omega
                  · skip
                    refine lv_aload_n hx hb dX5_sheet_93 rfl (lv_at hl 1 rfl) ?_
                    refine m_get hx hb hts hin hown hK hP 14 (by decide) (hts (.fieldLink RX5 34 "PennyRoadModel" "numbers" "[J") (by decide +kernel)) rfl dX5_sheet_94 ?_
                    refine lv_bipush (v := nI 40) hx hb dX5_sheet_97 (by decide) ?_
                    refine lv_iload_n hx hb dX5_sheet_99 rfl (lv_at hl 2 rfl) ?_
                    refine lvn_imul hx hb dX5_sheet_100 ?_
                    refine lv_iload hx hb dX5_sheet_101 (lv_at hl 0 rfl) ?_
                    refine lvn_iadd hx hb dX5_sheet_103 ?_
                    refine lv_lconst (v := 0) hx hb dX5_sheet_104 (by decide) ?_
                    refine m_last (w' := (mw cy ad sr kS ot asd stt ik tp td fr tt vl wr (upd bo i o) (upd so i x_4) (vp_updL (zrJ nu i j) ((40 * i) + j) 0) mv)) hx hb hK hP hS 9 rfl (by decide) (by omega) rfl dX5_sheet_105 (fun H locs hP hS => ?_)
                    refine lv_iinc (v := nI (j + 1)) (lv' := [(4, .int (nI (j + 1))), (0, .ref (ad 0)), (1, .int (nI i)), (2, .int (o)), (3, .int (v))]) hx hb dX5_sheet_106 hl (k := 0) rfl (nI_add _ _) (by decide) rfl (fun ls hl => ?_)
                    refine lv_goto (tgt := 86) hx hb dX5_sheet_109 (by decide) ?_
                    exact ih_86 (j + 1) _ _ ls (by omega) (by rw [zrJ_s] at hP; exact hP) hS hl
              exact L_86 40 0 _ _ ls (by omega) (by rw [zrJ_0]; exact hP) hS hl
            refine lv_if_ne (tgt := 81) hx hb dX5_sheet_74 (by decide) (fun c_74 => ?_) (fun c_74 => ?_)
            · skip
              refine lv_iload_n hx hb dX5_sheet_81 rfl (lv_at hl 3 rfl) ?_
              exact K_3 (v) _ _ ls (by simp only [if_neg c_74]) hP hS hl
            · skip
              refine lv_iconst (v := nI 0) hx hb dX5_sheet_77 (by decide) ?_
              refine lv_goto (tgt := 82) hx hb dX5_sheet_78 (by decide) ?_
              exact K_3 (nI 0) _ _ ls (by simp only [if_pos c_74]) hP hS hl
          · skip
            refine lv_aload_n hx hb dX5_sheet_54 rfl (lv_at hl 0 rfl) ?_
            refine lv_ldc (v := (-1000000001)) hx hb hown (hts (.constant RX5 41 ((-1000000001))) (by decide +kernel)) dX5_sheet_55 ?_
            refine wq_V S mK_ok hK hP hS (c_X5_finds (t := 0) (by decide)) gX5_sheet_X5_finds i_X5_finds rfl (m_rec hK hP) ⟨Nat.le_of_ble_eq_true rfl, Nat.le_of_ble_eq_true rfl⟩ rfl hl.1 (As := [.int ((-1000000001))]) (rest := []) (st1 := [.int ((-1000000001))]) rfl rfl (Nat.le_of_ble_eq_true rfl) ⟨Nat.le_of_ble_eq_true rfl, Nat.le_of_ble_eq_true rfl⟩ dX5_sheet_57 (fun H locs hP hS => ?_)
            subst hQ
            exact mp_ri hx hb hr hlocks hP hS dX5_sheet_60 (by first | with_reducible rfl | (simp only [fnd, bitsOk, upd_s, if_pos c_4, if_neg c_8, if_pos c_14, if_pos c_37, if_neg c_51]; done) | (simp only [fnd, bitsOk, upd_s, decide_eq_false c_8, decide_eq_true c_14, decide_eq_true c_37, decide_eq_false c_51, c_4, if_neg c_8, if_pos c_14, if_pos c_37, if_neg c_51, Bool.true_and, Bool.false_and, Bool.true_or, Bool.or_true, Bool.false_or, Bool.or_false, Bool.and_true, Bool.and_false, Bool.or_self, Bool.and_self, Bool.false_eq_true, Bool.true_eq_false, and_true, true_and, false_and, and_false, and_self, not_true_eq_false, not_false_eq_true, if_true, if_false, reduceIte, or_false, false_or, true_or, or_true]; done) | (subst_vars; first | with_reducible rfl | (simp only [fnd, bitsOk, upd_s, if_pos c_4, if_neg c_8, if_pos c_14, if_pos c_37, if_neg c_51]; done) | (simp only [fnd, bitsOk, upd_s, decide_eq_false c_8, decide_eq_true c_14, decide_eq_true c_37, decide_eq_false c_51, c_4, if_neg c_8, if_pos c_14, if_pos c_37, if_neg c_51, Bool.true_and, Bool.false_and, Bool.true_or, Bool.or_true, Bool.false_or, Bool.or_false, Bool.and_true, Bool.and_false, Bool.or_self, Bool.and_self, Bool.false_eq_true, Bool.true_eq_false, and_true, true_and, false_and, and_false, and_self, not_true_eq_false, not_false_eq_true, if_true, if_false, reduceIte, or_false, false_or, true_or, or_true]; done)) | contradiction | rfl) (by first | with_reducible rfl | (simp only [fnd, bitsOk, upd_s, if_pos c_4, if_neg c_8, if_pos c_14, if_pos c_37, if_neg c_51]; done) | (simp only [fnd, bitsOk, upd_s, decide_eq_false c_8, decide_eq_true c_14, decide_eq_true c_37, decide_eq_false c_51, c_4, if_neg c_8, if_pos c_14, if_pos c_37, if_neg c_51, Bool.true_and, Bool.false_and, Bool.true_or, Bool.or_true, Bool.false_or, Bool.or_false, Bool.and_true, Bool.and_false, Bool.or_self, Bool.and_self, Bool.false_eq_true, Bool.true_eq_false, and_true, true_and, false_and, and_false, and_self, not_true_eq_false, not_false_eq_true, if_true, if_false, reduceIte, or_false, false_or, true_or, or_true]; done) | (subst_vars; first | with_reducible rfl | (simp only [fnd, bitsOk, upd_s, if_pos c_4, if_neg c_8, if_pos c_14, if_pos c_37, if_neg c_51]; done) | (simp only [fnd, bitsOk, upd_s, decide_eq_false c_8, decide_eq_true c_14, decide_eq_true c_37, decide_eq_false c_51, c_4, if_neg c_8, if_pos c_14, if_pos c_37, if_neg c_51, Bool.true_and, Bool.false_and, Bool.true_or, Bool.or_true, Bool.false_or, Bool.or_false, Bool.and_true, Bool.and_false, Bool.or_self, Bool.and_self, Bool.false_eq_true, Bool.true_eq_false, and_true, true_and, false_and, and_false, and_self, not_true_eq_false, not_false_eq_true, if_true, if_false, reduceIte, or_false, false_or, true_or, or_true]; done)) | contradiction | rfl)
        · skip
          refine lv_aload_n hx hb dX5_sheet_40 rfl (lv_at hl 0 rfl) ?_
          refine lv_ldcw (v := (-1000000007)) hx hb hown (hts (.constant RX5 271 ((-1000000007))) (by decide +kernel)) dX5_sheet_41 ?_
          refine wq_V S mK_ok hK hP hS (c_X5_finds (t := 6) (by decide)) gX5_sheet_X5_finds i_X5_finds rfl (m_rec hK hP) ⟨Nat.le_of_ble_eq_true rfl, Nat.le_of_ble_eq_true rfl⟩ rfl hl.1 (As := [.int ((-1000000007))]) (rest := []) (st1 := [.int ((-1000000007))]) rfl rfl (Nat.le_of_ble_eq_true rfl) ⟨Nat.le_of_ble_eq_true rfl, Nat.le_of_ble_eq_true rfl⟩ dX5_sheet_44 (fun H locs hP hS => ?_)
          subst hQ
          exact mp_ri hx hb hr hlocks hP hS dX5_sheet_47 (by first | with_reducible rfl | (simp only [fnd, bitsOk, upd_s, if_pos c_4, if_neg c_8, if_pos c_14, if_neg c_37]; done) | (simp only [fnd, bitsOk, upd_s, decide_eq_false c_8, decide_eq_true c_14, decide_eq_false c_37, c_4, if_neg c_8, if_pos c_14, if_neg c_37, Bool.true_and, Bool.false_and, Bool.true_or, Bool.or_true, Bool.false_or, Bool.or_false, Bool.and_true, Bool.and_false, Bool.or_self, Bool.and_self, Bool.false_eq_true, Bool.true_eq_false, and_true, true_and, false_and, and_false, and_self, not_true_eq_false, not_false_eq_true, if_true, if_false, reduceIte, or_false, false_or, true_or, or_true]; done) | (subst_vars; first | with_reducible rfl | (simp only [fnd, bitsOk, upd_s, if_pos c_4, if_neg c_8, if_pos c_14, if_neg c_37]; done) | (simp only [fnd, bitsOk, upd_s, decide_eq_false c_8, decide_eq_true c_14, decide_eq_false c_37, c_4, if_neg c_8, if_pos c_14, if_neg c_37, Bool.true_and, Bool.false_and, Bool.true_or, Bool.or_true, Bool.false_or, Bool.or_false, Bool.and_true, Bool.and_false, Bool.or_self, Bool.and_self, Bool.false_eq_true, Bool.true_eq_false, and_true, true_and, false_and, and_false, and_self, not_true_eq_false, not_false_eq_true, if_true, if_false, reduceIte, or_false, false_or, true_or, or_true]; done)) | contradiction | rfl) (by first | with_reducible rfl | (simp only [fnd, bitsOk, upd_s, if_pos c_4, if_neg c_8, if_pos c_14, if_neg c_37]; done) | (simp only [fnd, bitsOk, upd_s, decide_eq_false c_8, decide_eq_true c_14, decide_eq_false c_37, c_4, if_neg c_8, if_pos c_14, if_neg c_37, Bool.true_and, Bool.false_and, Bool.true_or, Bool.or_true, Bool.false_or, Bool.or_false, Bool.and_true, Bool.and_false, Bool.or_self, Bool.and_self, Bool.false_eq_true, Bool.true_eq_false, and_true, true_and, false_and, and_false, and_self, not_true_eq_false, not_false_eq_true, if_true, if_false, reduceIte, or_false, false_or, true_or, or_true]; done) | (subst_vars; first | with_reducible rfl | (simp only [fnd, bitsOk, upd_s, if_pos c_4, if_neg c_8, if_pos c_14, if_neg c_37]; done) | (simp only [fnd, bitsOk, upd_s, decide_eq_false c_8, decide_eq_true c_14, decide_eq_false c_37, c_4, if_neg c_8, if_pos c_14, if_neg c_37, Bool.true_and, Bool.false_and, Bool.true_or, Bool.or_true, Bool.false_or, Bool.or_false, Bool.and_true, Bool.and_false, Bool.or_self, Bool.and_self, Bool.false_eq_true, Bool.true_eq_false, and_true, true_and, false_and, and_false, and_self, not_true_eq_false, not_false_eq_true, if_true, if_false, reduceIte, or_false, false_or, true_or, or_true]; done)) | contradiction | rfl)
      · skip
        refine lv_iload_n hx hb dX5_sheet_17 rfl (lv_at hl 2 rfl) ?_
        refine lv_bipush (v := nI 16) hx hb dX5_sheet_18 (by decide) ?_
        refine lv_icmp_eq (tgt := 36) hx hb dX5_sheet_20 (by decide) (fun c_20 => ?_) (fun c_20 => ?_)
        · skip
          refine lv_iload_n hx hb dX5_sheet_36 rfl (lv_at hl 3 rfl) ?_
          refine lv_if_ge (tgt := 48) hx hb dX5_sheet_37 (by decide) (fun c_37 => ?_) (fun c_37 => ?_)
          · skip
            refine lv_iload_n hx hb dX5_sheet_48 rfl (lv_at hl 3 rfl) ?_
            refine lv_bipush (v := nI 40) hx hb dX5_sheet_49 (by decide) ?_
            refine lv_icmp_le (tgt := 61) hx hb dX5_sheet_51 (by decide) (fun c_51 => ?_) (fun c_51 => ?_)
            · skip
              obtain ⟨i, h_i, h_i2, rfl⟩ := rg_ix (a := 0) (b := 3) (by decide) c_4
              have hcl_i : (nI i).toNatClampNeg = i := nI_clamp (by omega)
              refine lv_aload_n hx hb dX5_sheet_61 rfl (lv_at hl 0 rfl) ?_
              refine m_get hx hb hts hin hown hK hP 12 (by decide) (hts (.fieldLink RX5 28 "PennyRoadModel" "bitsOf" "[I") (by decide +kernel)) rfl dX5_sheet_62 ?_
              refine lv_iload_n hx hb dX5_sheet_65 rfl (lv_at hl 1 rfl) ?_
              refine lv_iload_n hx hb dX5_sheet_66 rfl (lv_at hl 2 rfl) ?_
              refine m_ast (w' := (mw cy ad sr kS ot asd stt ik tp td fr tt vl wr (upd bo i o) so nu mv)) hx hb hK hP hS 7 rfl (by decide) (by omega) rfl dX5_sheet_67 (fun H locs hP hS => ?_)
              refine lv_aload_n hx hb dX5_sheet_68 rfl (lv_at hl 0 rfl) ?_
              refine m_get hx hb hts hin hown hK hP 13 (by decide) (hts (.fieldLink RX5 31 "PennyRoadModel" "sizeOf" "[I") (by decide +kernel)) rfl dX5_sheet_69 ?_
              refine lv_iload_n hx hb dX5_sheet_72 rfl (lv_at hl 1 rfl) ?_
              refine lv_iload_n hx hb dX5_sheet_73 rfl (lv_at hl 2 rfl) ?_
              have K_5 : ∀ (x_6 : Int32) (H : Heap) (locs : List Loc) (ls : Array Slot), x_6 = (if (o) = 0 then (nI 0) else v) → va_P D vwCl (mw cy ad sr kS ot asd stt ik tp td fr tt vl wr (upd bo i o) so nu mv) H → va_S (mA ad) s0.heap H locs → lv_has ls 5 [(0, .ref (ad 0)), (1, .int (nI i)), (2, .int (o)), (3, .int (v))] → W p l e (rmz 2 45) s0 m args below meth c H locs 0 0 Q (F0 m 82 ls [.int (x_6), .int (nI i), .ref (ad 8)]) := by
                intro x_6 H locs ls ex_6 hP hS hl
                refine m_ast (w' := (mw cy ad sr kS ot asd stt ik tp td fr tt vl wr (upd bo i o) (upd so i x_6) nu mv)) hx hb hK hP hS 8 rfl (by decide) (by omega) rfl dX5_sheet_82 (fun H locs hP hS => ?_)
                refine lv_iconst (v := nI 0) hx hb dX5_sheet_83 (by decide) ?_
                refine lv_istore (lv' := [(4, .int (nI 0)), (0, .ref (ad 0)), (1, .int (nI i)), (2, .int (o)), (3, .int (v))]) hx hb dX5_sheet_84 hl (by decide) rfl (fun ls hl => ?_)
                have L_86 : ∀ (n : Nat) (j : Nat) (H : Heap) (locs : List Loc) (ls : Array Slot), (j + n = 40) → va_P D vwCl (mw cy ad sr kS ot asd stt ik tp td fr tt vl wr (upd bo i o) (upd so i x_6) (zrJ nu i j) mv) H → va_S (mA ad) s0.heap H locs → lv_has ls 5 [(4, .int (nI j)), (0, .ref (ad 0)), (1, .int (nI i)), (2, .int (o)), (3, .int (v))] → W p l e (rmz 2 45) s0 m args below meth c H locs 0 0 Q (F0 m 86 ls []) := by
                  intro n
                  induction n with
                  | zero =>
                    intro j H locs ls hj hP hS hl
                    refine lv_iload hx hb dX5_sheet_86 (lv_at hl 0 rfl) ?_
                    refine lv_bipush (v := nI 40) hx hb dX5_sheet_88 (by decide) ?_
                    refine lvn_icmp_ge (tgt := 112) hx hb dX5_sheet_90 (by decide) (by omega) (by omega) (fun c_90 => ?_) (fun c_90 => ?_)
                    · skip
                      have hj9 : j = 40 := by omega
                      subst hj9
                      refine lv_aload_n hx hb dX5_sheet_112 rfl (lv_at hl 1 rfl) ?_
                      refine m_get hx hb hts hin hown hK hP 13 (by decide) (hts (.fieldLink RX5 31 "PennyRoadModel" "sizeOf" "[I") (by decide +kernel)) rfl dX5_sheet_113 ?_
                      refine lv_iload_n hx hb dX5_sheet_116 rfl (lv_at hl 2 rfl) ?_
                      refine m_ald hx hb hK hP 8 rfl (by decide) (by omega) dX5_sheet_117 ?_
                      subst hQ
                      exact mp_ri hx hb hr hlocks hP hS dX5_sheet_118 (by first | with_reducible rfl | (simp only [fnd, bitsOk, upd_s, if_pos c_4, if_neg c_8, if_neg c_14, if_pos c_20, if_pos c_37, if_pos c_51, if_pos c_90]; done) | (simp only [fnd, bitsOk, upd_s, decide_eq_false c_8, decide_eq_false c_14, decide_eq_true c_20, decide_eq_true c_37, decide_eq_true c_51, decide_eq_true c_90, hcl_i, ex_6, c_4, if_neg c_8, if_neg c_14, if_pos c_20, if_pos c_37, if_pos c_51, if_pos c_90, Bool.true_and, Bool.false_and, Bool.true_or, Bool.or_true, Bool.false_or, Bool.or_false, Bool.and_true, Bool.and_false, Bool.or_self, Bool.and_self, Bool.false_eq_true, Bool.true_eq_false, and_true, true_and, false_and, and_false, and_self, not_true_eq_false, not_false_eq_true, if_true, if_false, reduceIte, or_false, false_or, true_or, or_true]; done) | (subst_vars; first | with_reducible rfl | (simp only [fnd, bitsOk, upd_s, if_pos c_4, if_neg c_8, if_neg c_14, if_pos c_20, if_pos c_37, if_pos c_51, if_pos c_90]; done) | (simp only [fnd, bitsOk, upd_s, decide_eq_false c_8, decide_eq_false c_14, decide_eq_true c_20, decide_eq_true c_37, decide_eq_true c_51, decide_eq_true c_90, hcl_i, ex_6, c_4, if_neg c_8, if_neg c_14, if_pos c_20, if_pos c_37, if_pos c_51, if_pos c_90, Bool.true_and, Bool.false_and, Bool.true_or, Bool.or_true, Bool.false_or, Bool.or_false, Bool.and_true, Bool.and_false, Bool.or_self, Bool.and_self, Bool.false_eq_true, Bool.true_eq_false, and_true, true_and, false_and, and_false, and_self, not_true_eq_false, not_false_eq_true, if_true, if_false, reduceIte, or_false, false_or, true_or, or_true]; done)) | contradiction | rfl) (by first | with_reducible rfl | (simp only [fnd, bitsOk, upd_s, if_pos c_4, if_neg c_8, if_neg c_14, if_pos c_20, if_pos c_37, if_pos c_51, if_pos c_90]; done) | (simp only [fnd, bitsOk, upd_s, decide_eq_false c_8, decide_eq_false c_14, decide_eq_true c_20, decide_eq_true c_37, decide_eq_true c_51, decide_eq_true c_90, hcl_i, ex_6, c_4, if_neg c_8, if_neg c_14, if_pos c_20, if_pos c_37, if_pos c_51, if_pos c_90, Bool.true_and, Bool.false_and, Bool.true_or, Bool.or_true, Bool.false_or, Bool.or_false, Bool.and_true, Bool.and_false, Bool.or_self, Bool.and_self, Bool.false_eq_true, Bool.true_eq_false, and_true, true_and, false_and, and_false, and_self, not_true_eq_false, not_false_eq_true, if_true, if_false, reduceIte, or_false, false_or, true_or, or_true]; done) | (subst_vars; first | with_reducible rfl | (simp only [fnd, bitsOk, upd_s, if_pos c_4, if_neg c_8, if_neg c_14, if_pos c_20, if_pos c_37, if_pos c_51, if_pos c_90]; done) | (simp only [fnd, bitsOk, upd_s, decide_eq_false c_8, decide_eq_false c_14, decide_eq_true c_20, decide_eq_true c_37, decide_eq_true c_51, decide_eq_true c_90, hcl_i, ex_6, c_4, if_neg c_8, if_neg c_14, if_pos c_20, if_pos c_37, if_pos c_51, if_pos c_90, Bool.true_and, Bool.false_and, Bool.true_or, Bool.or_true, Bool.false_or, Bool.or_false, Bool.and_true, Bool.and_false, Bool.or_self, Bool.and_self, Bool.false_eq_true, Bool.true_eq_false, and_true, true_and, false_and, and_false, and_self, not_true_eq_false, not_false_eq_true, if_true, if_false, reduceIte, or_false, false_or, true_or, or_true]; done)) | contradiction | rfl)
                    · skip
                      exfalso; omega
                  | succ n ih_86 =>
                    intro j H locs ls hj hP hS hl
                    refine lv_iload hx hb dX5_sheet_86 (lv_at hl 0 rfl) ?_
                    refine lv_bipush (v := nI 40) hx hb dX5_sheet_88 (by decide) ?_
                    refine lvn_icmp_ge (tgt := 112) hx hb dX5_sheet_90 (by decide) (by omega) (by omega) (fun c_90 => ?_) (fun c_90 => ?_)
                    · skip
                      exfalso; omega
                    · skip
                      refine lv_aload_n hx hb dX5_sheet_93 rfl (lv_at hl 1 rfl) ?_
                      refine m_get hx hb hts hin hown hK hP 14 (by decide) (hts (.fieldLink RX5 34 "PennyRoadModel" "numbers" "[J") (by decide +kernel)) rfl dX5_sheet_94 ?_
                      refine lv_bipush (v := nI 40) hx hb dX5_sheet_97 (by decide) ?_
                      refine lv_iload_n hx hb dX5_sheet_99 rfl (lv_at hl 2 rfl) ?_
                      refine lvn_imul hx hb dX5_sheet_100 ?_
                      refine lv_iload hx hb dX5_sheet_101 (lv_at hl 0 rfl) ?_
                      refine lvn_iadd hx hb dX5_sheet_103 ?_
                      refine lv_lconst (v := 0) hx hb dX5_sheet_104 (by decide) ?_
                      refine m_last (w' := (mw cy ad sr kS ot asd stt ik tp td fr tt vl wr (upd bo i o) (upd so i x_6) (vp_updL (zrJ nu i j) ((40 * i) + j) 0) mv)) hx hb hK hP hS 9 rfl (by decide) (by omega) rfl dX5_sheet_105 (fun H locs hP hS => ?_)
                      refine lv_iinc (v := nI (j + 1)) (lv' := [(4, .int (nI (j + 1))), (0, .ref (ad 0)), (1, .int (nI i)), (2, .int (o)), (3, .int (v))]) hx hb dX5_sheet_106 hl (k := 0) rfl (nI_add _ _) (by decide) rfl (fun ls hl => ?_)
                      refine lv_goto (tgt := 86) hx hb dX5_sheet_109 (by decide) ?_
                      exact ih_86 (j + 1) _ _ ls (by omega) (by rw [zrJ_s] at hP; exact hP) hS hl
                exact L_86 40 0 _ _ ls (by omega) (by rw [zrJ_0]; exact hP) hS hl
              refine lv_if_ne (tgt := 81) hx hb dX5_sheet_74 (by decide) (fun c_74 => ?_) (fun c_74 => ?_)
              · skip
                refine lv_iload_n hx hb dX5_sheet_81 rfl (lv_at hl 3 rfl) ?_
                exact K_5 (v) _ _ ls (by simp only [if_neg c_74]) hP hS hl
              · skip
                refine lv_iconst (v := nI 0) hx hb dX5_sheet_77 (by decide) ?_
                refine lv_goto (tgt := 82) hx hb dX5_sheet_78 (by decide) ?_
                exact K_5 (nI 0) _ _ ls (by simp only [if_pos c_74]) hP hS hl
            · skip
              refine lv_aload_n hx hb dX5_sheet_54 rfl (lv_at hl 0 rfl) ?_
              refine lv_ldc (v := (-1000000001)) hx hb hown (hts (.constant RX5 41 ((-1000000001))) (by decide +kernel)) dX5_sheet_55 ?_
              refine wq_V S mK_ok hK hP hS (c_X5_finds (t := 0) (by decide)) gX5_sheet_X5_finds i_X5_finds rfl (m_rec hK hP) ⟨Nat.le_of_ble_eq_true rfl, Nat.le_of_ble_eq_true rfl⟩ rfl hl.1 (As := [.int ((-1000000001))]) (rest := []) (st1 := [.int ((-1000000001))]) rfl rfl (Nat.le_of_ble_eq_true rfl) ⟨Nat.le_of_ble_eq_true rfl, Nat.le_of_ble_eq_true rfl⟩ dX5_sheet_57 (fun H locs hP hS => ?_)
              subst hQ
              exact mp_ri hx hb hr hlocks hP hS dX5_sheet_60 (by first | with_reducible rfl | (simp only [fnd, bitsOk, upd_s, if_pos c_4, if_neg c_8, if_neg c_14, if_pos c_20, if_pos c_37, if_neg c_51]; done) | (simp only [fnd, bitsOk, upd_s, decide_eq_false c_8, decide_eq_false c_14, decide_eq_true c_20, decide_eq_true c_37, decide_eq_false c_51, c_4, if_neg c_8, if_neg c_14, if_pos c_20, if_pos c_37, if_neg c_51, Bool.true_and, Bool.false_and, Bool.true_or, Bool.or_true, Bool.false_or, Bool.or_false, Bool.and_true, Bool.and_false, Bool.or_self, Bool.and_self, Bool.false_eq_true, Bool.true_eq_false, and_true, true_and, false_and, and_false, and_self, not_true_eq_false, not_false_eq_true, if_true, if_false, reduceIte, or_false, false_or, true_or, or_true]; done) | (subst_vars; first | with_reducible rfl | (simp only [fnd, bitsOk, upd_s, if_pos c_4, if_neg c_8, if_neg c_14, if_pos c_20, if_pos c_37, if_neg c_51]; done) | (simp only [fnd, bitsOk, upd_s, decide_eq_false c_8, decide_eq_false c_14, decide_eq_true c_20, decide_eq_true c_37, decide_eq_false c_51, c_4, if_neg c_8, if_neg c_14, if_pos c_20, if_pos c_37, if_neg c_51, Bool.true_and, Bool.false_and, Bool.true_or, Bool.or_true, Bool.false_or, Bool.or_false, Bool.and_true, Bool.and_false, Bool.or_self, Bool.and_self, Bool.false_eq_true, Bool.true_eq_false, and_true, true_and, false_and, and_false, and_self, not_true_eq_false, not_false_eq_true, if_true, if_false, reduceIte, or_false, false_or, true_or, or_true]; done)) | contradiction | rfl) (by first | with_reducible rfl | (simp only [fnd, bitsOk, upd_s, if_pos c_4, if_neg c_8, if_neg c_14, if_pos c_20, if_pos c_37, if_neg c_51]; done) | (simp only [fnd, bitsOk, upd_s, decide_eq_false c_8, decide_eq_false c_14, decide_eq_true c_20, decide_eq_true c_37, decide_eq_false c_51, c_4, if_neg c_8, if_neg c_14, if_pos c_20, if_pos c_37, if_neg c_51, Bool.true_and, Bool.false_and, Bool.true_or, Bool.or_true, Bool.false_or, Bool.or_false, Bool.and_true, Bool.and_false, Bool.or_self, Bool.and_self, Bool.false_eq_true, Bool.true_eq_false, and_true, true_and, false_and, and_false, and_self, not_true_eq_false, not_false_eq_true, if_true, if_false, reduceIte, or_false, false_or, true_or, or_true]; done) | (subst_vars; first | with_reducible rfl | (simp only [fnd, bitsOk, upd_s, if_pos c_4, if_neg c_8, if_neg c_14, if_pos c_20, if_pos c_37, if_neg c_51]; done) | (simp only [fnd, bitsOk, upd_s, decide_eq_false c_8, decide_eq_false c_14, decide_eq_true c_20, decide_eq_true c_37, decide_eq_false c_51, c_4, if_neg c_8, if_neg c_14, if_pos c_20, if_pos c_37, if_neg c_51, Bool.true_and, Bool.false_and, Bool.true_or, Bool.or_true, Bool.false_or, Bool.or_false, Bool.and_true, Bool.and_false, Bool.or_self, Bool.and_self, Bool.false_eq_true, Bool.true_eq_false, and_true, true_and, false_and, and_false, and_self, not_true_eq_false, not_false_eq_true, if_true, if_false, reduceIte, or_false, false_or, true_or, or_true]; done)) | contradiction | rfl)
          · skip
            refine lv_aload_n hx hb dX5_sheet_40 rfl (lv_at hl 0 rfl) ?_
            refine lv_ldcw (v := (-1000000007)) hx hb hown (hts (.constant RX5 271 ((-1000000007))) (by decide +kernel)) dX5_sheet_41 ?_
            refine wq_V S mK_ok hK hP hS (c_X5_finds (t := 6) (by decide)) gX5_sheet_X5_finds i_X5_finds rfl (m_rec hK hP) ⟨Nat.le_of_ble_eq_true rfl, Nat.le_of_ble_eq_true rfl⟩ rfl hl.1 (As := [.int ((-1000000007))]) (rest := []) (st1 := [.int ((-1000000007))]) rfl rfl (Nat.le_of_ble_eq_true rfl) ⟨Nat.le_of_ble_eq_true rfl, Nat.le_of_ble_eq_true rfl⟩ dX5_sheet_44 (fun H locs hP hS => ?_)
            subst hQ
            exact mp_ri hx hb hr hlocks hP hS dX5_sheet_47 (by first | with_reducible rfl | (simp only [fnd, bitsOk, upd_s, if_pos c_4, if_neg c_8, if_neg c_14, if_pos c_20, if_neg c_37]; done) | (simp only [fnd, bitsOk, upd_s, decide_eq_false c_8, decide_eq_false c_14, decide_eq_true c_20, decide_eq_false c_37, c_4, if_neg c_8, if_neg c_14, if_pos c_20, if_neg c_37, Bool.true_and, Bool.false_and, Bool.true_or, Bool.or_true, Bool.false_or, Bool.or_false, Bool.and_true, Bool.and_false, Bool.or_self, Bool.and_self, Bool.false_eq_true, Bool.true_eq_false, and_true, true_and, false_and, and_false, and_self, not_true_eq_false, not_false_eq_true, if_true, if_false, reduceIte, or_false, false_or, true_or, or_true]; done) | (subst_vars; first | with_reducible rfl | (simp only [fnd, bitsOk, upd_s, if_pos c_4, if_neg c_8, if_neg c_14, if_pos c_20, if_neg c_37]; done) | (simp only [fnd, bitsOk, upd_s, decide_eq_false c_8, decide_eq_false c_14, decide_eq_true c_20, decide_eq_false c_37, c_4, if_neg c_8, if_neg c_14, if_pos c_20, if_neg c_37, Bool.true_and, Bool.false_and, Bool.true_or, Bool.or_true, Bool.false_or, Bool.or_false, Bool.and_true, Bool.and_false, Bool.or_self, Bool.and_self, Bool.false_eq_true, Bool.true_eq_false, and_true, true_and, false_and, and_false, and_self, not_true_eq_false, not_false_eq_true, if_true, if_false, reduceIte, or_false, false_or, true_or, or_true]; done)) | contradiction | rfl) (by first | with_reducible rfl | (simp only [fnd, bitsOk, upd_s, if_pos c_4, if_neg c_8, if_neg c_14, if_pos c_20, if_neg c_37]; done) | (simp only [fnd, bitsOk, upd_s, decide_eq_false c_8, decide_eq_false c_14, decide_eq_true c_20, decide_eq_false c_37, c_4, if_neg c_8, if_neg c_14, if_pos c_20, if_neg c_37, Bool.true_and, Bool.false_and, Bool.true_or, Bool.or_true, Bool.false_or, Bool.or_false, Bool.and_true, Bool.and_false, Bool.or_self, Bool.and_self, Bool.false_eq_true, Bool.true_eq_false, and_true, true_and, false_and, and_false, and_self, not_true_eq_false, not_false_eq_true, if_true, if_false, reduceIte, or_false, false_or, true_or, or_true]; done) | (subst_vars; first | with_reducible rfl | (simp only [fnd, bitsOk, upd_s, if_pos c_4, if_neg c_8, if_neg c_14, if_pos c_20, if_neg c_37]; done) | (simp only [fnd, bitsOk, upd_s, decide_eq_false c_8, decide_eq_false c_14, decide_eq_true c_20, decide_eq_false c_37, c_4, if_neg c_8, if_neg c_14, if_pos c_20, if_neg c_37, Bool.true_and, Bool.false_and, Bool.true_or, Bool.or_true, Bool.false_or, Bool.or_false, Bool.and_true, Bool.and_false, Bool.or_self, Bool.and_self, Bool.false_eq_true, Bool.true_eq_false, and_true, true_and, false_and, and_false, and_self, not_true_eq_false, not_false_eq_true, if_true, if_false, reduceIte, or_false, false_or, true_or, or_true]; done)) | contradiction | rfl)
        · skip
          refine lv_iload_n hx hb dX5_sheet_23 rfl (lv_at hl 2 rfl) ?_
          refine lv_bipush (v := nI 64) hx hb dX5_sheet_24 (by decide) ?_
          refine lv_icmp_eq (tgt := 36) hx hb dX5_sheet_26 (by decide) (fun c_26 => ?_) (fun c_26 => ?_)
          · skip
            refine lv_iload_n hx hb dX5_sheet_36 rfl (lv_at hl 3 rfl) ?_
            refine lv_if_ge (tgt := 48) hx hb dX5_sheet_37 (by decide) (fun c_37 => ?_) (fun c_37 => ?_)
            · skip
              refine lv_iload_n hx hb dX5_sheet_48 rfl (lv_at hl 3 rfl) ?_
              refine lv_bipush (v := nI 40) hx hb dX5_sheet_49 (by decide) ?_
              refine lv_icmp_le (tgt := 61) hx hb dX5_sheet_51 (by decide) (fun c_51 => ?_) (fun c_51 => ?_)
              · skip
                obtain ⟨i, h_i, h_i2, rfl⟩ := rg_ix (a := 0) (b := 3) (by decide) c_4
                have hcl_i : (nI i).toNatClampNeg = i := nI_clamp (by omega)
                refine lv_aload_n hx hb dX5_sheet_61 rfl (lv_at hl 0 rfl) ?_
                refine m_get hx hb hts hin hown hK hP 12 (by decide) (hts (.fieldLink RX5 28 "PennyRoadModel" "bitsOf" "[I") (by decide +kernel)) rfl dX5_sheet_62 ?_
                refine lv_iload_n hx hb dX5_sheet_65 rfl (lv_at hl 1 rfl) ?_
                refine lv_iload_n hx hb dX5_sheet_66 rfl (lv_at hl 2 rfl) ?_
                refine m_ast (w' := (mw cy ad sr kS ot asd stt ik tp td fr tt vl wr (upd bo i o) so nu mv)) hx hb hK hP hS 7 rfl (by decide) (by omega) rfl dX5_sheet_67 (fun H locs hP hS => ?_)
                refine lv_aload_n hx hb dX5_sheet_68 rfl (lv_at hl 0 rfl) ?_
                refine m_get hx hb hts hin hown hK hP 13 (by decide) (hts (.fieldLink RX5 31 "PennyRoadModel" "sizeOf" "[I") (by decide +kernel)) rfl dX5_sheet_69 ?_
                refine lv_iload_n hx hb dX5_sheet_72 rfl (lv_at hl 1 rfl) ?_
                refine lv_iload_n hx hb dX5_sheet_73 rfl (lv_at hl 2 rfl) ?_
                have K_7 : ∀ (x_8 : Int32) (H : Heap) (locs : List Loc) (ls : Array Slot), x_8 = (if (o) = 0 then (nI 0) else v) → va_P D vwCl (mw cy ad sr kS ot asd stt ik tp td fr tt vl wr (upd bo i o) so nu mv) H → va_S (mA ad) s0.heap H locs → lv_has ls 5 [(0, .ref (ad 0)), (1, .int (nI i)), (2, .int (o)), (3, .int (v))] → W p l e (rmz 2 45) s0 m args below meth c H locs 0 0 Q (F0 m 82 ls [.int (x_8), .int (nI i), .ref (ad 8)]) := by
                  intro x_8 H locs ls ex_8 hP hS hl
                  refine m_ast (w' := (mw cy ad sr kS ot asd stt ik tp td fr tt vl wr (upd bo i o) (upd so i x_8) nu mv)) hx hb hK hP hS 8 rfl (by decide) (by omega) rfl dX5_sheet_82 (fun H locs hP hS => ?_)
                  refine lv_iconst (v := nI 0) hx hb dX5_sheet_83 (by decide) ?_
                  refine lv_istore (lv' := [(4, .int (nI 0)), (0, .ref (ad 0)), (1, .int (nI i)), (2, .int (o)), (3, .int (v))]) hx hb dX5_sheet_84 hl (by decide) rfl (fun ls hl => ?_)
                  have L_86 : ∀ (n : Nat) (j : Nat) (H : Heap) (locs : List Loc) (ls : Array Slot), (j + n = 40) → va_P D vwCl (mw cy ad sr kS ot asd stt ik tp td fr tt vl wr (upd bo i o) (upd so i x_8) (zrJ nu i j) mv) H → va_S (mA ad) s0.heap H locs → lv_has ls 5 [(4, .int (nI j)), (0, .ref (ad 0)), (1, .int (nI i)), (2, .int (o)), (3, .int (v))] → W p l e (rmz 2 45) s0 m args below meth c H locs 0 0 Q (F0 m 86 ls []) := by
                    intro n
                    induction n with
                    | zero =>
                      intro j H locs ls hj hP hS hl
                      refine lv_iload hx hb dX5_sheet_86 (lv_at hl 0 rfl) ?_
                      refine lv_bipush (v := nI 40) hx hb dX5_sheet_88 (by decide) ?_
                      refine lvn_icmp_ge (tgt := 112) hx hb dX5_sheet_90 (by decide) (by omega) (by omega) (fun c_90 => ?_) (fun c_90 => ?_)
                      · skip
                        have hj9 : j = 40 := by omega
                        subst hj9
                        refine lv_aload_n hx hb dX5_sheet_112 rfl (lv_at hl 1 rfl) ?_
                        refine m_get hx hb hts hin hown hK hP 13 (by decide) (hts (.fieldLink RX5 31 "PennyRoadModel" "sizeOf" "[I") (by decide +kernel)) rfl dX5_sheet_113 ?_
                        refine lv_iload_n hx hb dX5_sheet_116 rfl (lv_at hl 2 rfl) ?_
                        refine m_ald hx hb hK hP 8 rfl (by decide) (by omega) dX5_sheet_117 ?_
                        subst hQ
                        exact mp_ri hx hb hr hlocks hP hS dX5_sheet_118 (by first | with_reducible rfl | (simp only [fnd, bitsOk, upd_s, if_pos c_4, if_neg c_8, if_neg c_14, if_neg c_20, if_pos c_26, if_pos c_37, if_pos c_51, if_pos c_90]; done) | (simp only [fnd, bitsOk, upd_s, decide_eq_false c_8, decide_eq_false c_14, decide_eq_false c_20, decide_eq_true c_26, decide_eq_true c_37, decide_eq_true c_51, decide_eq_true c_90, hcl_i, ex_8, c_4, if_neg c_8, if_neg c_14, if_neg c_20, if_pos c_26, if_pos c_37, if_pos c_51, if_pos c_90, Bool.true_and, Bool.false_and, Bool.true_or, Bool.or_true, Bool.false_or, Bool.or_false, Bool.and_true, Bool.and_false, Bool.or_self, Bool.and_self, Bool.false_eq_true, Bool.true_eq_false, and_true, true_and, false_and, and_false, and_self, not_true_eq_false, not_false_eq_true, if_true, if_false, reduceIte, or_false, false_or, true_or, or_true]; done) | (subst_vars; first | with_reducible rfl | (simp only [fnd, bitsOk, upd_s, if_pos c_4, if_neg c_8, if_neg c_14, if_neg c_20, if_pos c_26, if_pos c_37, if_pos c_51, if_pos c_90]; done) | (simp only [fnd, bitsOk, upd_s, decide_eq_false c_8, decide_eq_false c_14, decide_eq_false c_20, decide_eq_true c_26, decide_eq_true c_37, decide_eq_true c_51, decide_eq_true c_90, hcl_i, ex_8, c_4, if_neg c_8, if_neg c_14, if_neg c_20, if_pos c_26, if_pos c_37, if_pos c_51, if_pos c_90, Bool.true_and, Bool.false_and, Bool.true_or, Bool.or_true, Bool.false_or, Bool.or_false, Bool.and_true, Bool.and_false, Bool.or_self, Bool.and_self, Bool.false_eq_true, Bool.true_eq_false, and_true, true_and, false_and, and_false, and_self, not_true_eq_false, not_false_eq_true, if_true, if_false, reduceIte, or_false, false_or, true_or, or_true]; done)) | contradiction | rfl) (by first | with_reducible rfl | (simp only [fnd, bitsOk, upd_s, if_pos c_4, if_neg c_8, if_neg c_14, if_neg c_20, if_pos c_26, if_pos c_37, if_pos c_51, if_pos c_90]; done) | (simp only [fnd, bitsOk, upd_s, decide_eq_false c_8, decide_eq_false c_14, decide_eq_false c_20, decide_eq_true c_26, decide_eq_true c_37, decide_eq_true c_51, decide_eq_true c_90, hcl_i, ex_8, c_4, if_neg c_8, if_neg c_14, if_neg c_20, if_pos c_26, if_pos c_37, if_pos c_51, if_pos c_90, Bool.true_and, Bool.false_and, Bool.true_or, Bool.or_true, Bool.false_or, Bool.or_false, Bool.and_true, Bool.and_false, Bool.or_self, Bool.and_self, Bool.false_eq_true, Bool.true_eq_false, and_true, true_and, false_and, and_false, and_self, not_true_eq_false, not_false_eq_true, if_true, if_false, reduceIte, or_false, false_or, true_or, or_true]; done) | (subst_vars; first | with_reducible rfl | (simp only [fnd, bitsOk, upd_s, if_pos c_4, if_neg c_8, if_neg c_14, if_neg c_20, if_pos c_26, if_pos c_37, if_pos c_51, if_pos c_90]; done) | (simp only [fnd, bitsOk, upd_s, decide_eq_false c_8, decide_eq_false c_14, decide_eq_false c_20, decide_eq_true c_26, decide_eq_true c_37, decide_eq_true c_51, decide_eq_true c_90, hcl_i, ex_8, c_4, if_neg c_8, if_neg c_14, if_neg c_20, if_pos c_26, if_pos c_37, if_pos c_51, if_pos c_90, Bool.true_and, Bool.false_and, Bool.true_or, Bool.or_true, Bool.false_or, Bool.or_false, Bool.and_true, Bool.and_false, Bool.or_self, Bool.and_self, Bool.false_eq_true, Bool.true_eq_false, and_true, true_and, false_and, and_false, and_self, not_true_eq_false, not_false_eq_true, if_true, if_false, reduceIte, or_false, false_or, true_or, or_true]; done)) | contradiction | rfl)
                      · skip
                        exfalso; omega
                    | succ n ih_86 =>
                      intro j H locs ls hj hP hS hl
                      refine lv_iload hx hb dX5_sheet_86 (lv_at hl 0 rfl) ?_
                      refine lv_bipush (v := nI 40) hx hb dX5_sheet_88 (by decide) ?_
                      refine lvn_icmp_ge (tgt := 112) hx hb dX5_sheet_90 (by decide) (by omega) (by omega) (fun c_90 => ?_) (fun c_90 => ?_)
                      · skip
                        exfalso; omega
                      · skip
                        refine lv_aload_n hx hb dX5_sheet_93 rfl (lv_at hl 1 rfl) ?_
                        refine m_get hx hb hts hin hown hK hP 14 (by decide) (hts (.fieldLink RX5 34 "PennyRoadModel" "numbers" "[J") (by decide +kernel)) rfl dX5_sheet_94 ?_
                        refine lv_bipush (v := nI 40) hx hb dX5_sheet_97 (by decide) ?_
                        refine lv_iload_n hx hb dX5_sheet_99 rfl (lv_at hl 2 rfl) ?_
                        refine lvn_imul hx hb dX5_sheet_100 ?_
                        refine lv_iload hx hb dX5_sheet_101 (lv_at hl 0 rfl) ?_
                        refine lvn_iadd hx hb dX5_sheet_103 ?_
                        refine lv_lconst (v := 0) hx hb dX5_sheet_104 (by decide) ?_
                        refine m_last (w' := (mw cy ad sr kS ot asd stt ik tp td fr tt vl wr (upd bo i o) (upd so i x_8) (vp_updL (zrJ nu i j) ((40 * i) + j) 0) mv)) hx hb hK hP hS 9 rfl (by decide) (by omega) rfl dX5_sheet_105 (fun H locs hP hS => ?_)
                        refine lv_iinc (v := nI (j + 1)) (lv' := [(4, .int (nI (j + 1))), (0, .ref (ad 0)), (1, .int (nI i)), (2, .int (o)), (3, .int (v))]) hx hb dX5_sheet_106 hl (k := 0) rfl (nI_add _ _) (by decide) rfl (fun ls hl => ?_)
                        refine lv_goto (tgt := 86) hx hb dX5_sheet_109 (by decide) ?_
                        exact ih_86 (j + 1) _ _ ls (by omega) (by rw [zrJ_s] at hP; exact hP) hS hl
                  exact L_86 40 0 _ _ ls (by omega) (by rw [zrJ_0]; exact hP) hS hl
                refine lv_if_ne (tgt := 81) hx hb dX5_sheet_74 (by decide) (fun c_74 => ?_) (fun c_74 => ?_)
                · skip
                  refine lv_iload_n hx hb dX5_sheet_81 rfl (lv_at hl 3 rfl) ?_
                  exact K_7 (v) _ _ ls (by simp only [if_neg c_74]) hP hS hl
                · skip
                  refine lv_iconst (v := nI 0) hx hb dX5_sheet_77 (by decide) ?_
                  refine lv_goto (tgt := 82) hx hb dX5_sheet_78 (by decide) ?_
                  exact K_7 (nI 0) _ _ ls (by simp only [if_pos c_74]) hP hS hl
              · skip
                refine lv_aload_n hx hb dX5_sheet_54 rfl (lv_at hl 0 rfl) ?_
                refine lv_ldc (v := (-1000000001)) hx hb hown (hts (.constant RX5 41 ((-1000000001))) (by decide +kernel)) dX5_sheet_55 ?_
                refine wq_V S mK_ok hK hP hS (c_X5_finds (t := 0) (by decide)) gX5_sheet_X5_finds i_X5_finds rfl (m_rec hK hP) ⟨Nat.le_of_ble_eq_true rfl, Nat.le_of_ble_eq_true rfl⟩ rfl hl.1 (As := [.int ((-1000000001))]) (rest := []) (st1 := [.int ((-1000000001))]) rfl rfl (Nat.le_of_ble_eq_true rfl) ⟨Nat.le_of_ble_eq_true rfl, Nat.le_of_ble_eq_true rfl⟩ dX5_sheet_57 (fun H locs hP hS => ?_)
                subst hQ
                exact mp_ri hx hb hr hlocks hP hS dX5_sheet_60 (by first | with_reducible rfl | (simp only [fnd, bitsOk, upd_s, if_pos c_4, if_neg c_8, if_neg c_14, if_neg c_20, if_pos c_26, if_pos c_37, if_neg c_51]; done) | (simp only [fnd, bitsOk, upd_s, decide_eq_false c_8, decide_eq_false c_14, decide_eq_false c_20, decide_eq_true c_26, decide_eq_true c_37, decide_eq_false c_51, c_4, if_neg c_8, if_neg c_14, if_neg c_20, if_pos c_26, if_pos c_37, if_neg c_51, Bool.true_and, Bool.false_and, Bool.true_or, Bool.or_true, Bool.false_or, Bool.or_false, Bool.and_true, Bool.and_false, Bool.or_self, Bool.and_self, Bool.false_eq_true, Bool.true_eq_false, and_true, true_and, false_and, and_false, and_self, not_true_eq_false, not_false_eq_true, if_true, if_false, reduceIte, or_false, false_or, true_or, or_true]; done) | (subst_vars; first | with_reducible rfl | (simp only [fnd, bitsOk, upd_s, if_pos c_4, if_neg c_8, if_neg c_14, if_neg c_20, if_pos c_26, if_pos c_37, if_neg c_51]; done) | (simp only [fnd, bitsOk, upd_s, decide_eq_false c_8, decide_eq_false c_14, decide_eq_false c_20, decide_eq_true c_26, decide_eq_true c_37, decide_eq_false c_51, c_4, if_neg c_8, if_neg c_14, if_neg c_20, if_pos c_26, if_pos c_37, if_neg c_51, Bool.true_and, Bool.false_and, Bool.true_or, Bool.or_true, Bool.false_or, Bool.or_false, Bool.and_true, Bool.and_false, Bool.or_self, Bool.and_self, Bool.false_eq_true, Bool.true_eq_false, and_true, true_and, false_and, and_false, and_self, not_true_eq_false, not_false_eq_true, if_true, if_false, reduceIte, or_false, false_or, true_or, or_true]; done)) | contradiction | rfl) (by first | with_reducible rfl | (simp only [fnd, bitsOk, upd_s, if_pos c_4, if_neg c_8, if_neg c_14, if_neg c_20, if_pos c_26, if_pos c_37, if_neg c_51]; done) | (simp only [fnd, bitsOk, upd_s, decide_eq_false c_8, decide_eq_false c_14, decide_eq_false c_20, decide_eq_true c_26, decide_eq_true c_37, decide_eq_false c_51, c_4, if_neg c_8, if_neg c_14, if_neg c_20, if_pos c_26, if_pos c_37, if_neg c_51, Bool.true_and, Bool.false_and, Bool.true_or, Bool.or_true, Bool.false_or, Bool.or_false, Bool.and_true, Bool.and_false, Bool.or_self, Bool.and_self, Bool.false_eq_true, Bool.true_eq_false, and_true, true_and, false_and, and_false, and_self, not_true_eq_false, not_false_eq_true, if_true, if_false, reduceIte, or_false, false_or, true_or, or_true]; done) | (subst_vars; first | with_reducible rfl | (simp only [fnd, bitsOk, upd_s, if_pos c_4, if_neg c_8, if_neg c_14, if_neg c_20, if_pos c_26, if_pos c_37, if_neg c_51]; done) | (simp only [fnd, bitsOk, upd_s, decide_eq_false c_8, decide_eq_false c_14, decide_eq_false c_20, decide_eq_true c_26, decide_eq_true c_37, decide_eq_false c_51, c_4, if_neg c_8, if_neg c_14, if_neg c_20, if_pos c_26, if_pos c_37, if_neg c_51, Bool.true_and, Bool.false_and, Bool.true_or, Bool.or_true, Bool.false_or, Bool.or_false, Bool.and_true, Bool.and_false, Bool.or_self, Bool.and_self, Bool.false_eq_true, Bool.true_eq_false, and_true, true_and, false_and, and_false, and_self, not_true_eq_false, not_false_eq_true, if_true, if_false, reduceIte, or_false, false_or, true_or, or_true]; done)) | contradiction | rfl)
            · skip
              refine lv_aload_n hx hb dX5_sheet_40 rfl (lv_at hl 0 rfl) ?_
              refine lv_ldcw (v := (-1000000007)) hx hb hown (hts (.constant RX5 271 ((-1000000007))) (by decide +kernel)) dX5_sheet_41 ?_
              refine wq_V S mK_ok hK hP hS (c_X5_finds (t := 6) (by decide)) gX5_sheet_X5_finds i_X5_finds rfl (m_rec hK hP) ⟨Nat.le_of_ble_eq_true rfl, Nat.le_of_ble_eq_true rfl⟩ rfl hl.1 (As := [.int ((-1000000007))]) (rest := []) (st1 := [.int ((-1000000007))]) rfl rfl (Nat.le_of_ble_eq_true rfl) ⟨Nat.le_of_ble_eq_true rfl, Nat.le_of_ble_eq_true rfl⟩ dX5_sheet_44 (fun H locs hP hS => ?_)
              subst hQ
              exact mp_ri hx hb hr hlocks hP hS dX5_sheet_47 (by first | with_reducible rfl | (simp only [fnd, bitsOk, upd_s, if_pos c_4, if_neg c_8, if_neg c_14, if_neg c_20, if_pos c_26, if_neg c_37]; done) | (simp only [fnd, bitsOk, upd_s, decide_eq_false c_8, decide_eq_false c_14, decide_eq_false c_20, decide_eq_true c_26, decide_eq_false c_37, c_4, if_neg c_8, if_neg c_14, if_neg c_20, if_pos c_26, if_neg c_37, Bool.true_and, Bool.false_and, Bool.true_or, Bool.or_true, Bool.false_or, Bool.or_false, Bool.and_true, Bool.and_false, Bool.or_self, Bool.and_self, Bool.false_eq_true, Bool.true_eq_false, and_true, true_and, false_and, and_false, and_self, not_true_eq_false, not_false_eq_true, if_true, if_false, reduceIte, or_false, false_or, true_or, or_true]; done) | (subst_vars; first | with_reducible rfl | (simp only [fnd, bitsOk, upd_s, if_pos c_4, if_neg c_8, if_neg c_14, if_neg c_20, if_pos c_26, if_neg c_37]; done) | (simp only [fnd, bitsOk, upd_s, decide_eq_false c_8, decide_eq_false c_14, decide_eq_false c_20, decide_eq_true c_26, decide_eq_false c_37, c_4, if_neg c_8, if_neg c_14, if_neg c_20, if_pos c_26, if_neg c_37, Bool.true_and, Bool.false_and, Bool.true_or, Bool.or_true, Bool.false_or, Bool.or_false, Bool.and_true, Bool.and_false, Bool.or_self, Bool.and_self, Bool.false_eq_true, Bool.true_eq_false, and_true, true_and, false_and, and_false, and_self, not_true_eq_false, not_false_eq_true, if_true, if_false, reduceIte, or_false, false_or, true_or, or_true]; done)) | contradiction | rfl) (by first | with_reducible rfl | (simp only [fnd, bitsOk, upd_s, if_pos c_4, if_neg c_8, if_neg c_14, if_neg c_20, if_pos c_26, if_neg c_37]; done) | (simp only [fnd, bitsOk, upd_s, decide_eq_false c_8, decide_eq_false c_14, decide_eq_false c_20, decide_eq_true c_26, decide_eq_false c_37, c_4, if_neg c_8, if_neg c_14, if_neg c_20, if_pos c_26, if_neg c_37, Bool.true_and, Bool.false_and, Bool.true_or, Bool.or_true, Bool.false_or, Bool.or_false, Bool.and_true, Bool.and_false, Bool.or_self, Bool.and_self, Bool.false_eq_true, Bool.true_eq_false, and_true, true_and, false_and, and_false, and_self, not_true_eq_false, not_false_eq_true, if_true, if_false, reduceIte, or_false, false_or, true_or, or_true]; done) | (subst_vars; first | with_reducible rfl | (simp only [fnd, bitsOk, upd_s, if_pos c_4, if_neg c_8, if_neg c_14, if_neg c_20, if_pos c_26, if_neg c_37]; done) | (simp only [fnd, bitsOk, upd_s, decide_eq_false c_8, decide_eq_false c_14, decide_eq_false c_20, decide_eq_true c_26, decide_eq_false c_37, c_4, if_neg c_8, if_neg c_14, if_neg c_20, if_pos c_26, if_neg c_37, Bool.true_and, Bool.false_and, Bool.true_or, Bool.or_true, Bool.false_or, Bool.or_false, Bool.and_true, Bool.and_false, Bool.or_self, Bool.and_self, Bool.false_eq_true, Bool.true_eq_false, and_true, true_and, false_and, and_false, and_self, not_true_eq_false, not_false_eq_true, if_true, if_false, reduceIte, or_false, false_or, true_or, or_true]; done)) | contradiction | rfl)
          · skip
            refine lv_aload_n hx hb dX5_sheet_29 rfl (lv_at hl 0 rfl) ?_
            refine lv_ldc (v := (-1000000001)) hx hb hown (hts (.constant RX5 41 ((-1000000001))) (by decide +kernel)) dX5_sheet_30 ?_
            refine wq_V S mK_ok hK hP hS (c_X5_finds (t := 0) (by decide)) gX5_sheet_X5_finds i_X5_finds rfl (m_rec hK hP) ⟨Nat.le_of_ble_eq_true rfl, Nat.le_of_ble_eq_true rfl⟩ rfl hl.1 (As := [.int ((-1000000001))]) (rest := []) (st1 := [.int ((-1000000001))]) rfl rfl (Nat.le_of_ble_eq_true rfl) ⟨Nat.le_of_ble_eq_true rfl, Nat.le_of_ble_eq_true rfl⟩ dX5_sheet_32 (fun H locs hP hS => ?_)
            subst hQ
            exact mp_ri hx hb hr hlocks hP hS dX5_sheet_35 (by first | with_reducible rfl | (simp only [fnd, bitsOk, upd_s, if_pos c_4, if_neg c_8, if_neg c_14, if_neg c_20, if_neg c_26]; done) | (simp only [fnd, bitsOk, upd_s, decide_eq_false c_8, decide_eq_false c_14, decide_eq_false c_20, decide_eq_false c_26, c_4, if_neg c_8, if_neg c_14, if_neg c_20, if_neg c_26, Bool.true_and, Bool.false_and, Bool.true_or, Bool.or_true, Bool.false_or, Bool.or_false, Bool.and_true, Bool.and_false, Bool.or_self, Bool.and_self, Bool.false_eq_true, Bool.true_eq_false, and_true, true_and, false_and, and_false, and_self, not_true_eq_false, not_false_eq_true, if_true, if_false, reduceIte, or_false, false_or, true_or, or_true]; done) | (subst_vars; first | with_reducible rfl | (simp only [fnd, bitsOk, upd_s, if_pos c_4, if_neg c_8, if_neg c_14, if_neg c_20, if_neg c_26]; done) | (simp only [fnd, bitsOk, upd_s, decide_eq_false c_8, decide_eq_false c_14, decide_eq_false c_20, decide_eq_false c_26, c_4, if_neg c_8, if_neg c_14, if_neg c_20, if_neg c_26, Bool.true_and, Bool.false_and, Bool.true_or, Bool.or_true, Bool.false_or, Bool.or_false, Bool.and_true, Bool.and_false, Bool.or_self, Bool.and_self, Bool.false_eq_true, Bool.true_eq_false, and_true, true_and, false_and, and_false, and_self, not_true_eq_false, not_false_eq_true, if_true, if_false, reduceIte, or_false, false_or, true_or, or_true]; done)) | contradiction | rfl) (by first | with_reducible rfl | (simp only [fnd, bitsOk, upd_s, if_pos c_4, if_neg c_8, if_neg c_14, if_neg c_20, if_neg c_26]; done) | (simp only [fnd, bitsOk, upd_s, decide_eq_false c_8, decide_eq_false c_14, decide_eq_false c_20, decide_eq_false c_26, c_4, if_neg c_8, if_neg c_14, if_neg c_20, if_neg c_26, Bool.true_and, Bool.false_and, Bool.true_or, Bool.or_true, Bool.false_or, Bool.or_false, Bool.and_true, Bool.and_false, Bool.or_self, Bool.and_self, Bool.false_eq_true, Bool.true_eq_false, and_true, true_and, false_and, and_false, and_self, not_true_eq_false, not_false_eq_true, if_true, if_false, reduceIte, or_false, false_or, true_or, or_true]; done) | (subst_vars; first | with_reducible rfl | (simp only [fnd, bitsOk, upd_s, if_pos c_4, if_neg c_8, if_neg c_14, if_neg c_20, if_neg c_26]; done) | (simp only [fnd, bitsOk, upd_s, decide_eq_false c_8, decide_eq_false c_14, decide_eq_false c_20, decide_eq_false c_26, c_4, if_neg c_8, if_neg c_14, if_neg c_20, if_neg c_26, Bool.true_and, Bool.false_and, Bool.true_or, Bool.or_true, Bool.false_or, Bool.or_false, Bool.and_true, Bool.and_false, Bool.or_self, Bool.and_self, Bool.false_eq_true, Bool.true_eq_false, and_true, true_and, false_and, and_false, and_self, not_true_eq_false, not_false_eq_true, if_true, if_false, reduceIte, or_false, false_or, true_or, or_true]; done)) | contradiction | rfl)
theorem i_X5_sheet : ciOk yX5_sheet cX5_sheet 5 (some .int) wsX5_sheet 3 := ⟨⟨_, rfl⟩, by decide +kernel⟩
