theorem lt8_z {N : Nat} : (if 8 ≤ N then nI 0 else nI 1) = z (decide (N < 8) = true) := by
  by_cases h : 8 ≤ N
  · rw [if_pos h, z_f (by simp; omega)]
  · rw [if_neg h, z_t (by simp; omega)]
theorem mustP_lt {tp : Nat → Int32} {T : Nat} {S : PS} (h : okS T S) (hw : ¬ S.2.2.2.1 = true) (hf : S.2.1 < T) : S.2.1 < (mustP tp T true S).2.1 := by
  obtain ⟨h1, h2, h3, h4⟩ := h
  unfold mustP
  rw [if_neg (by simpa using hw)]
  have := tokA_in (tp := tp) h2
  show S.2.1 < tokA tp T S.2.2.1
  have := h3 hf
  omega
theorem nW_of {sr : Nat → Int32} {N : Nat} (h8 : N ≤ 8) (h : sr 0 = nI N) : nW sr = N := by unfold nW; rw [h]; exact nI_clamp (by omega)
theorem okS_n {T : Nat} {S : PS} (h : okS T S) : S.1 0 = nI (nW S.1) ∧ nW S.1 ≤ 8 := by
  obtain ⟨-, -, -, N, h8, e⟩ := h
  rw [nW_of h8 e]
  exact ⟨e, h8⟩
set_option maxHeartbeats 1000000 in
set_option maxRecDepth 100000 in
theorem c_X5_kindHere {l : Launch} {D : va_G} {cy : Nat → ClassId} {ad : Nat → Nat} {sr : Nat → Int32} {kS : Nat → Int32} {ot : Nat → Int32} {asd : Nat → Int32} {stt : Nat → Int32} {ik : Int32} {tp : Nat → Int32} {vl : Int32} {bo : Nat → Int32} {so : Nat → Int32} {nu : Nat → Int64} {mv : Nat → Int64} {T : Nat} {f : Nat} {t : Nat} {wb : Bool} (hT2 : T ≤ 120) (hok : okS T (sr, f, t, wb, vl)) : Met l yX5_kindHere wsX5_kindHere (rmz 3 68) (wPre D (mK D cy ad) (mw cy ad sr kS ot asd stt ik tp (nI T) (nI f) (nI t) vl (z (wb = true)) bo so nu mv) [.ref (ad 0)]) (wPost D (mw cy ad sr kS ot asd stt ik tp (nI T) (nI f) (nI t) vl (z (wb = true)) bo so nu mv) (some (.int (kindF (wordF tp T (sr, f, t, wb, vl))))) (mA ad)) 0 0 (mA ad) := by
  refine wq_entry rfl rfl (Nat.le_of_ble_eq_true rfl) ?_
  intro p e s0 m args below meth c S hr hlocks hK hP ls hl
  have S : CallFix p m c cX5_kindHere 3 s0 args wsX5_kindHere RX5 := S
  obtain ⟨hx, hb, hml, hown, hts⟩ := id S
  have hin : ∀ w ∈ wsX50, w ∈ wsX5_kindHere := fun w h => List.mem_cons_of_mem _ (List.mem_append_right _ h)
  have hS : va_S (mA ad) s0.heap s0.heap [] := va_S.rf
  have hl : lv_has ls 3 [(0, .ref (ad 0))] := hl
  generalize hQ : MQ below (wPost D (mw cy ad sr kS ot asd stt ik tp (nI T) (nI f) (nI t) vl (z (wb = true)) bo so nu mv) (some (.int (kindF (wordF tp T (sr, f, t, wb, vl))))) (mA ad)) args s0 0 0 (mA ad) = Q
  refine lv_aload_n hx hb dX5_kindHere_0 rfl (lv_at hl 0 rfl) ?_
  refine wq_V S mK_ok hK hP hS (c_X5_word hT2 hok) gX5_kindHere_X5_word i_X5_word rfl (m_rec hK hP) ⟨Nat.le_of_ble_eq_true rfl, Nat.le_of_ble_eq_true rfl⟩ rfl hl.1 (As := []) (rest := []) (st1 := [.long (wordF tp T (sr, f, t, wb, vl))]) rfl rfl (Nat.le_of_ble_eq_true rfl) ⟨Nat.le_of_ble_eq_true rfl, Nat.le_of_ble_eq_true rfl⟩ dX5_kindHere_1 (fun H locs hP hS => ?_)
  refine lv_lstore_n (lv' := [(1, .long (wordF tp T (sr, f, t, wb, vl))), (0, .ref (ad 0))]) hx hb dX5_kindHere_4 rfl hl (by decide) rfl (fun ls hl => ?_)
  refine lv_lload_n hx hb dX5_kindHere_5 rfl (lv_at hl 0 rfl) ?_
  refine lv_ldc2 (v := 773205170) hx hb hown (hts (.constantLong RX5 216 (773205170)) (by decide +kernel)) dX5_kindHere_6 ?_
  refine W.lcmp hx hb dX5_kindHere_9 ?_
  refine lv_if_ne (tgt := 17) hx hb dX5_kindHere_10 (by decide) (fun c_10 => ?_) (fun c_10 => ?_)
  · skip
    rw [lg_cmp_eq] at c_10
    refine lv_lload_n hx hb dX5_kindHere_17 rfl (lv_at hl 0 rfl) ?_
    refine lv_ldc2 (v := 542257202) hx hb hown (hts (.constantLong RX5 218 (542257202)) (by decide +kernel)) dX5_kindHere_18 ?_
    refine W.lcmp hx hb dX5_kindHere_21 ?_
    refine lv_if_ne (tgt := 29) hx hb dX5_kindHere_22 (by decide) (fun c_22 => ?_) (fun c_22 => ?_)
    · skip
      rw [lg_cmp_eq] at c_22
      refine lv_lload_n hx hb dX5_kindHere_29 rfl (lv_at hl 0 rfl) ?_
      refine lv_ldc2 (v := 13097138) hx hb hown (hts (.constantLong RX5 220 (13097138)) (by decide +kernel)) dX5_kindHere_30 ?_
      refine W.lcmp hx hb dX5_kindHere_33 ?_
      refine lv_if_ne (tgt := 41) hx hb dX5_kindHere_34 (by decide) (fun c_34 => ?_) (fun c_34 => ?_)
      · skip
        rw [lg_cmp_eq] at c_34
        refine lv_lload_n hx hb dX5_kindHere_41 rfl (lv_at hl 0 rfl) ?_
        refine lv_ldc2 (v := 394661) hx hb hown (hts (.constantLong RX5 222 (394661)) (by decide +kernel)) dX5_kindHere_42 ?_
        refine W.lcmp hx hb dX5_kindHere_45 ?_
        refine lv_if_ne (tgt := 53) hx hb dX5_kindHere_46 (by decide) (fun c_46 => ?_) (fun c_46 => ?_)
        · skip
          rw [lg_cmp_eq] at c_46
          refine lv_lload_n hx hb dX5_kindHere_53 rfl (lv_at hl 0 rfl) ?_
          refine lv_ldc2 (v := 3413044) hx hb hown (hts (.constantLong RX5 224 (3413044)) (by decide +kernel)) dX5_kindHere_54 ?_
          refine W.lcmp hx hb dX5_kindHere_57 ?_
          refine lv_if_ne (tgt := 65) hx hb dX5_kindHere_58 (by decide) (fun c_58 => ?_) (fun c_58 => ?_)
          · skip
            rw [lg_cmp_eq] at c_58
            refine lv_lload_n hx hb dX5_kindHere_65 rfl (lv_at hl 0 rfl) ?_
            refine lv_ldc2 (v := 17494690093) hx hb hown (hts (.constantLong RX5 226 (17494690093)) (by decide +kernel)) dX5_kindHere_66 ?_
            refine W.lcmp hx hb dX5_kindHere_69 ?_
            refine lv_if_ne (tgt := 77) hx hb dX5_kindHere_70 (by decide) (fun c_70 => ?_) (fun c_70 => ?_)
            · skip
              rw [lg_cmp_eq] at c_70
              refine lv_iconst (v := (-1)) hx hb dX5_kindHere_77 (by decide) ?_
              subst hQ
              exact wq_ri hx hb hr hlocks hP hS dX5_kindHere_78 (by first | with_reducible rfl | (simp only [kindF, if_neg c_10, if_neg c_22, if_neg c_34, if_neg c_46, if_neg c_58, if_neg c_70]; done) | (simp only [kindF, if_neg c_10, if_neg c_22, if_neg c_34, if_neg c_46, if_neg c_58, if_neg c_70, Bool.false_eq_true, Bool.true_eq_false, and_true, true_and, false_and, and_false, and_self, not_true_eq_false, not_false_eq_true, if_true, if_false, reduceIte, or_false, false_or, true_or, or_true]; done) | (subst_vars; first | with_reducible rfl | (simp only [kindF, if_neg c_10, if_neg c_22, if_neg c_34, if_neg c_46, if_neg c_58, if_neg c_70]; done) | (simp only [kindF, if_neg c_10, if_neg c_22, if_neg c_34, if_neg c_46, if_neg c_58, if_neg c_70, Bool.false_eq_true, Bool.true_eq_false, and_true, true_and, false_and, and_false, and_self, not_true_eq_false, not_false_eq_true, if_true, if_false, reduceIte, or_false, false_or, true_or, or_true]; done)) | contradiction | rfl) rfl
            · skip
              rw [lg_cmp_eq] at c_70
              refine lv_iconst (v := nI 5) hx hb dX5_kindHere_73 (by decide) ?_
              refine lv_goto (tgt := 78) hx hb dX5_kindHere_74 (by decide) ?_
              subst hQ
              exact wq_ri hx hb hr hlocks hP hS dX5_kindHere_78 (by first | with_reducible rfl | (simp only [kindF, if_neg c_10, if_neg c_22, if_neg c_34, if_neg c_46, if_neg c_58, if_pos c_70]; done) | (simp only [kindF, if_neg c_10, if_neg c_22, if_neg c_34, if_neg c_46, if_neg c_58, if_pos c_70, Bool.false_eq_true, Bool.true_eq_false, and_true, true_and, false_and, and_false, and_self, not_true_eq_false, not_false_eq_true, if_true, if_false, reduceIte, or_false, false_or, true_or, or_true]; done) | (subst_vars; first | with_reducible rfl | (simp only [kindF, if_neg c_10, if_neg c_22, if_neg c_34, if_neg c_46, if_neg c_58, if_pos c_70]; done) | (simp only [kindF, if_neg c_10, if_neg c_22, if_neg c_34, if_neg c_46, if_neg c_58, if_pos c_70, Bool.false_eq_true, Bool.true_eq_false, and_true, true_and, false_and, and_false, and_self, not_true_eq_false, not_false_eq_true, if_true, if_false, reduceIte, or_false, false_or, true_or, or_true]; done)) | contradiction | rfl) rfl
          · skip
            rw [lg_cmp_eq] at c_58
            refine lv_iconst (v := nI 4) hx hb dX5_kindHere_61 (by decide) ?_
            refine lv_goto (tgt := 78) hx hb dX5_kindHere_62 (by decide) ?_
            subst hQ
            exact wq_ri hx hb hr hlocks hP hS dX5_kindHere_78 (by first | with_reducible rfl | (simp only [kindF, if_neg c_10, if_neg c_22, if_neg c_34, if_neg c_46, if_pos c_58]; done) | (simp only [kindF, if_neg c_10, if_neg c_22, if_neg c_34, if_neg c_46, if_pos c_58, Bool.false_eq_true, Bool.true_eq_false, and_true, true_and, false_and, and_false, and_self, not_true_eq_false, not_false_eq_true, if_true, if_false, reduceIte, or_false, false_or, true_or, or_true]; done) | (subst_vars; first | with_reducible rfl | (simp only [kindF, if_neg c_10, if_neg c_22, if_neg c_34, if_neg c_46, if_pos c_58]; done) | (simp only [kindF, if_neg c_10, if_neg c_22, if_neg c_34, if_neg c_46, if_pos c_58, Bool.false_eq_true, Bool.true_eq_false, and_true, true_and, false_and, and_false, and_self, not_true_eq_false, not_false_eq_true, if_true, if_false, reduceIte, or_false, false_or, true_or, or_true]; done)) | contradiction | rfl) rfl
        · skip
          rw [lg_cmp_eq] at c_46
          refine lv_iconst (v := nI 3) hx hb dX5_kindHere_49 (by decide) ?_
          refine lv_goto (tgt := 78) hx hb dX5_kindHere_50 (by decide) ?_
          subst hQ
          exact wq_ri hx hb hr hlocks hP hS dX5_kindHere_78 (by first | with_reducible rfl | (simp only [kindF, if_neg c_10, if_neg c_22, if_neg c_34, if_pos c_46]; done) | (simp only [kindF, if_neg c_10, if_neg c_22, if_neg c_34, if_pos c_46, Bool.false_eq_true, Bool.true_eq_false, and_true, true_and, false_and, and_false, and_self, not_true_eq_false, not_false_eq_true, if_true, if_false, reduceIte, or_false, false_or, true_or, or_true]; done) | (subst_vars; first | with_reducible rfl | (simp only [kindF, if_neg c_10, if_neg c_22, if_neg c_34, if_pos c_46]; done) | (simp only [kindF, if_neg c_10, if_neg c_22, if_neg c_34, if_pos c_46, Bool.false_eq_true, Bool.true_eq_false, and_true, true_and, false_and, and_false, and_self, not_true_eq_false, not_false_eq_true, if_true, if_false, reduceIte, or_false, false_or, true_or, or_true]; done)) | contradiction | rfl) rfl
      · skip
        rw [lg_cmp_eq] at c_34
        refine lv_iconst (v := nI 2) hx hb dX5_kindHere_37 (by decide) ?_
        refine lv_goto (tgt := 78) hx hb dX5_kindHere_38 (by decide) ?_
        subst hQ
        exact wq_ri hx hb hr hlocks hP hS dX5_kindHere_78 (by first | with_reducible rfl | (simp only [kindF, if_neg c_10, if_neg c_22, if_pos c_34]; done) | (simp only [kindF, if_neg c_10, if_neg c_22, if_pos c_34, Bool.false_eq_true, Bool.true_eq_false, and_true, true_and, false_and, and_false, and_self, not_true_eq_false, not_false_eq_true, if_true, if_false, reduceIte, or_false, false_or, true_or, or_true]; done) | (subst_vars; first | with_reducible rfl | (simp only [kindF, if_neg c_10, if_neg c_22, if_pos c_34]; done) | (simp only [kindF, if_neg c_10, if_neg c_22, if_pos c_34, Bool.false_eq_true, Bool.true_eq_false, and_true, true_and, false_and, and_false, and_self, not_true_eq_false, not_false_eq_true, if_true, if_false, reduceIte, or_false, false_or, true_or, or_true]; done)) | contradiction | rfl) rfl
    · skip
      rw [lg_cmp_eq] at c_22
      refine lv_iconst (v := nI 1) hx hb dX5_kindHere_25 (by decide) ?_
      refine lv_goto (tgt := 78) hx hb dX5_kindHere_26 (by decide) ?_
      subst hQ
      exact wq_ri hx hb hr hlocks hP hS dX5_kindHere_78 (by first | with_reducible rfl | (simp only [kindF, if_neg c_10, if_pos c_22]; done) | (simp only [kindF, if_neg c_10, if_pos c_22, Bool.false_eq_true, Bool.true_eq_false, and_true, true_and, false_and, and_false, and_self, not_true_eq_false, not_false_eq_true, if_true, if_false, reduceIte, or_false, false_or, true_or, or_true]; done) | (subst_vars; first | with_reducible rfl | (simp only [kindF, if_neg c_10, if_pos c_22]; done) | (simp only [kindF, if_neg c_10, if_pos c_22, Bool.false_eq_true, Bool.true_eq_false, and_true, true_and, false_and, and_false, and_self, not_true_eq_false, not_false_eq_true, if_true, if_false, reduceIte, or_false, false_or, true_or, or_true]; done)) | contradiction | rfl) rfl
  · skip
    rw [lg_cmp_eq] at c_10
    refine lv_iconst (v := nI 0) hx hb dX5_kindHere_13 (by decide) ?_
    refine lv_goto (tgt := 78) hx hb dX5_kindHere_14 (by decide) ?_
    subst hQ
    exact wq_ri hx hb hr hlocks hP hS dX5_kindHere_78 (by first | with_reducible rfl | (simp only [kindF, if_pos c_10]; done) | (simp only [kindF, if_pos c_10, Bool.false_eq_true, Bool.true_eq_false, and_true, true_and, false_and, and_false, and_self, not_true_eq_false, not_false_eq_true, if_true, if_false, reduceIte, or_false, false_or, true_or, or_true]; done) | (subst_vars; first | with_reducible rfl | (simp only [kindF, if_pos c_10]; done) | (simp only [kindF, if_pos c_10, Bool.false_eq_true, Bool.true_eq_false, and_true, true_and, false_and, and_false, and_self, not_true_eq_false, not_false_eq_true, if_true, if_false, reduceIte, or_false, false_or, true_or, or_true]; done)) | contradiction | rfl) rfl
theorem i_X5_kindHere : ciOk yX5_kindHere cX5_kindHere 3 (some .int) wsX5_kindHere 0 := ⟨⟨_, rfl⟩, by decide +kernel⟩
set_option maxHeartbeats 1000000 in
set_option maxRecDepth 100000 in
theorem c_X5_partItem {l : Launch} {D : va_G} {cy : Nat → ClassId} {ad : Nat → Nat} {sr : Nat → Int32} {kS : Nat → Int32} {ot : Nat → Int32} {asd : Nat → Int32} {stt : Nat → Int32} {ik : Int32} {tp : Nat → Int32} {vl : Int32} {bo : Nat → Int32} {so : Nat → Int32} {nu : Nat → Int64} {mv : Nat → Int64} {T : Nat} {f : Nat} {t : Nat} {wb : Bool} {nm : Int64} {wh : Nat} {mo : Nat} (hT2 : T ≤ 120) (hok : okS T (sr, f, t, wb, vl)) (hwh : wh < 69) (hwh0 : wh ≠ 0) (hmo : mo < 2 ^ 31) : Met l yX5_partItem wsX5_partItem (rmz 5 113) (wPre D (mK D cy ad) (mw cy ad sr kS ot asd stt ik tp (nI T) (nI f) (nI t) vl (z (wb = true)) bo so nu mv) [.ref (ad 0), .long (nm), .int (nI wh), .int (nI mo)]) (wPost D (mw cy ad ((partP tp T nm wh mo (sr, f, t, wb, vl)).1) kS ot asd stt ik tp (nI T) (nI (partP tp T nm wh mo (sr, f, t, wb, vl)).2.1) (nI (partP tp T nm wh mo (sr, f, t, wb, vl)).2.2.1) ((partP tp T nm wh mo (sr, f, t, wb, vl)).2.2.2.2) (z ((partP tp T nm wh mo (sr, f, t, wb, vl)).2.2.2.1 = true)) bo so nu mv) none (mA ad)) 0 0 (mA ad) := by
  refine wq_entry rfl rfl (Nat.le_of_ble_eq_true rfl) ?_
  intro p e s0 m args below meth c S hr hlocks hK hP ls hl
  have S : CallFix p m c cX5_partItem 5 s0 args wsX5_partItem RX5 := S
  obtain ⟨hx, hb, hml, hown, hts⟩ := id S
  have hin : ∀ w ∈ wsX50, w ∈ wsX5_partItem := fun w h => List.mem_cons_of_mem _ (List.mem_append_right _ h)
  have hS : va_S (mA ad) s0.heap s0.heap [] := va_S.rf
  have hl : lv_has ls 5 [(0, .ref (ad 0)), (1, .long (nm)), (3, .int (nI wh)), (4, .int (nI mo))] := hl
  generalize hQ : MQ below (wPost D (mw cy ad ((partP tp T nm wh mo (sr, f, t, wb, vl)).1) kS ot asd stt ik tp (nI T) (nI (partP tp T nm wh mo (sr, f, t, wb, vl)).2.1) (nI (partP tp T nm wh mo (sr, f, t, wb, vl)).2.2.1) ((partP tp T nm wh mo (sr, f, t, wb, vl)).2.2.2.2) (z ((partP tp T nm wh mo (sr, f, t, wb, vl)).2.2.2.1 = true)) bo so nu mv) none (mA ad)) args s0 0 0 (mA ad) = Q
  refine lv_aload_n hx hb dX5_partItem_0 rfl (lv_at hl 0 rfl) ?_
  refine wq_V S mK_ok hK hP hS (c_X5_word hT2 hok) gX5_partItem_X5_word i_X5_word rfl (m_rec hK hP) ⟨Nat.le_of_ble_eq_true rfl, Nat.le_of_ble_eq_true rfl⟩ rfl hl.1 (As := []) (rest := []) (st1 := [.long (wordF tp T (sr, f, t, wb, vl))]) rfl rfl (Nat.le_of_ble_eq_true rfl) ⟨Nat.le_of_ble_eq_true rfl, Nat.le_of_ble_eq_true rfl⟩ dX5_partItem_1 (fun H locs hP hS => ?_)
  refine lv_lload_n hx hb dX5_partItem_4 rfl (lv_at hl 1 rfl) ?_
  refine W.lcmp hx hb dX5_partItem_5 ?_
  refine lv_if_ne (tgt := 47) hx hb dX5_partItem_6 (by decide) (fun c_6 => ?_) (fun c_6 => ?_)
  · skip
    rw [lg_cmp_eq] at c_6
    subst hQ
    exact wq_rv hx hb hr hlocks hP hS dX5_partItem_47 rfl (by rw [show partP tp T nm wh mo (sr, f, t, wb, vl) = (sr, f, t, wb, vl) from if_neg c_6])
  · skip
    rw [lg_cmp_eq] at c_6
    refine lv_aload_n hx hb dX5_partItem_9 rfl (lv_at hl 0 rfl) ?_
    refine lv_iconst (v := nI 1) hx hb dX5_partItem_10 (by decide) ?_
    refine wq_V S mK_ok hK hP hS (c_X5_must (pb := true) hT2 hok) gX5_partItem_X5_must i_X5_must rfl (m_rec hK hP) ⟨Nat.le_of_ble_eq_true rfl, Nat.le_of_ble_eq_true rfl⟩ rfl hl.1 (As := [.int (nI 1)]) (rest := []) (st1 := []) rfl rfl (Nat.le_of_ble_eq_true rfl) ⟨Nat.le_of_ble_eq_true rfl, Nat.le_of_ble_eq_true rfl⟩ dX5_partItem_11 (fun H locs hP hS => ?_)
    generalize hhS_1 : mustP tp T true (sr, f, t, wb, vl) = S_1 at hP
    have hokS_1 : okS T S_1 := by rw [← hhS_1]; exact mustP_ok hok
    refine lv_aload_n hx hb dX5_partItem_14 rfl (lv_at hl 0 rfl) ?_
    refine lv_iconst (v := nI 0) hx hb dX5_partItem_15 (by decide) ?_
    refine lv_iload hx hb dX5_partItem_16 (lv_at hl 3 rfl) ?_
    refine wq_V S mK_ok hK hP hS (c_X5_number hT2 hokS_1 (by omega)) gX5_partItem_X5_number i_X5_number rfl (m_rec hK hP) ⟨Nat.le_of_ble_eq_true rfl, Nat.le_of_ble_eq_true rfl⟩ rfl hl.1 (As := [.int (nI 0), .int (nI mo)]) (rest := []) (st1 := []) rfl rfl (Nat.le_of_ble_eq_true rfl) ⟨Nat.le_of_ble_eq_true rfl, Nat.le_of_ble_eq_true rfl⟩ dX5_partItem_18 (fun H locs hP hS => ?_)
    generalize hhS_2 : numP tp T mo (S_1.1, S_1.2.1, S_1.2.2.1, S_1.2.2.2.1, S_1.2.2.2.2) = S_2 at hP
    have hokS_2 : okS T S_2 := by rw [← hhS_2]; exact numP_ok hokS_1
    refine lv_aload_n hx hb dX5_partItem_21 rfl (lv_at hl 0 rfl) ?_
    refine m_get hx hb hts hin hown hK hP 0 (by decide) (hts (.fieldLink RX5 7 "PennyRoadModel" "s" "[I") (by decide +kernel)) rfl dX5_partItem_22 ?_
    refine lv_iload_n hx hb dX5_partItem_25 rfl (lv_at hl 2 rfl) ?_
    refine lv_aload_n hx hb dX5_partItem_26 rfl (lv_at hl 0 rfl) ?_
    refine m_get hx hb hts hin hown hK hP 11 (by decide) (hts (.fieldLink RX5 194 "PennyRoadModel" "isWrong" "Z") (by decide +kernel)) rfl dX5_partItem_27 ?_
    have K_3 : ∀ (x_4 : Int32) (H : Heap) (locs : List Loc) (ls : Array Slot), x_4 = (if S_2.2.2.2.1 = true then ((S_2.1) wh) else S_2.2.2.2.2) → va_P D vwCl (mw cy ad S_2.1 kS ot asd stt ik tp (nI T) (nI S_2.2.1) (nI S_2.2.2.1) S_2.2.2.2.2 (z (S_2.2.2.2.1 = true)) bo so nu mv) H → va_S (mA ad) s0.heap H locs → lv_has ls 5 [(0, .ref (ad 0)), (1, .long (nm)), (3, .int (nI wh)), (4, .int (nI mo))] → W p l e (rmz 5 113) s0 m args below meth c H locs 0 0 Q (F0 m 46 ls [.int (x_4), .int (nI wh), .ref (ad 1)]) := by
      intro x_4 H locs ls ex_4 hP hS hl
      refine m_ast (w' := (mw cy ad (upd S_2.1 wh x_4) kS ot asd stt ik tp (nI T) (nI S_2.2.1) (nI S_2.2.2.1) S_2.2.2.2.2 (z (S_2.2.2.2.1 = true)) bo so nu mv)) hx hb hK hP hS 1 rfl (by decide) (by omega) rfl dX5_partItem_46 (fun H locs hP hS => ?_)
      subst hQ
      exact wq_rv hx hb hr hlocks hP hS dX5_partItem_47 rfl (by subst ex_4; subst hhS_2; subst hhS_1; rw [show partP tp T nm wh mo (sr, f, t, wb, vl) = putP (numP tp T mo (mustP tp T true (sr, f, t, wb, vl))) wh _ from if_pos c_6]; rfl)
    refine lvz_if_eq (tgt := 42) hx hb dX5_partItem_30 (by decide) (fun c_30 => ?_) (fun c_30 => ?_)
    · skip
      refine lv_aload_n hx hb dX5_partItem_42 rfl (lv_at hl 0 rfl) ?_
      refine m_get hx hb hts hin hown hK hP 10 (by decide) (hts (.fieldLink RX5 205 "PennyRoadModel" "value" "I") (by decide +kernel)) rfl dX5_partItem_43 ?_
      exact K_3 (S_2.2.2.2.2) _ _ ls (by simp only [if_neg c_30]) hP hS hl
    · skip
      refine lv_aload_n hx hb dX5_partItem_33 rfl (lv_at hl 0 rfl) ?_
      refine m_get hx hb hts hin hown hK hP 0 (by decide) (hts (.fieldLink RX5 7 "PennyRoadModel" "s" "[I") (by decide +kernel)) rfl dX5_partItem_34 ?_
      refine lv_iload_n hx hb dX5_partItem_37 rfl (lv_at hl 2 rfl) ?_
      refine m_ald hx hb hK hP 1 rfl (by decide) (by omega) dX5_partItem_38 ?_
      refine lv_goto (tgt := 46) hx hb dX5_partItem_39 (by decide) ?_
      exact K_3 ((S_2.1) wh) _ _ ls (by simp only [if_pos c_30]) hP hS hl
theorem i_X5_partItem : ciOk yX5_partItem cX5_partItem 5 none wsX5_partItem 3 := ⟨⟨_, rfl⟩, by decide +kernel⟩
set_option maxHeartbeats 1000000 in
set_option maxRecDepth 100000 in
theorem c_X5_walkerItem {l : Launch} {D : va_G} {cy : Nat → ClassId} {ad : Nat → Nat} {sr : Nat → Int32} {kS : Nat → Int32} {ot : Nat → Int32} {asd : Nat → Int32} {stt : Nat → Int32} {ik : Int32} {tp : Nat → Int32} {vl : Int32} {bo : Nat → Int32} {so : Nat → Int32} {nu : Nat → Int64} {mv : Nat → Int64} {T : Nat} {f : Nat} {t : Nat} {wb : Bool} {kd : Int32} {N : Nat} (hT2 : T ≤ 120) (hok : okS T (sr, f, t, wb, vl)) (hN : sr 0 = nI N) (h8 : N ≤ 8) : Met l yX5_walkerItem wsX5_walkerItem (rmz 6 137) (wPre D (mK D cy ad) (mw cy ad sr kS ot asd stt ik tp (nI T) (nI f) (nI t) vl (z (wb = true)) bo so nu mv) [.ref (ad 0), .int (kd)]) (wPost D (mw cy ad ((walkP tp T N kd (sr, f, t, wb, vl)).1) kS ot asd stt ik tp (nI T) (nI (walkP tp T N kd (sr, f, t, wb, vl)).2.1) (nI (walkP tp T N kd (sr, f, t, wb, vl)).2.2.1) ((walkP tp T N kd (sr, f, t, wb, vl)).2.2.2.2) (z ((walkP tp T N kd (sr, f, t, wb, vl)).2.2.2.1 = true)) bo so nu mv) none (mA ad)) 0 0 (mA ad) := by
  refine wq_entry rfl rfl (Nat.le_of_ble_eq_true rfl) ?_
  intro p e s0 m args below meth c S hr hlocks hK hP ls hl
  have S : CallFix p m c cX5_walkerItem 3 s0 args wsX5_walkerItem RX5 := S
  obtain ⟨hx, hb, hml, hown, hts⟩ := id S
  have hin : ∀ w ∈ wsX50, w ∈ wsX5_walkerItem := fun w h => List.mem_cons_of_mem _ (List.mem_append_right _ h)
  have hS : va_S (mA ad) s0.heap s0.heap [] := va_S.rf
  have hl : lv_has ls 3 [(0, .ref (ad 0)), (1, .int (kd))] := hl
  generalize hQ : MQ below (wPost D (mw cy ad ((walkP tp T N kd (sr, f, t, wb, vl)).1) kS ot asd stt ik tp (nI T) (nI (walkP tp T N kd (sr, f, t, wb, vl)).2.1) (nI (walkP tp T N kd (sr, f, t, wb, vl)).2.2.1) ((walkP tp T N kd (sr, f, t, wb, vl)).2.2.2.2) (z ((walkP tp T N kd (sr, f, t, wb, vl)).2.2.2.1 = true)) bo so nu mv) none (mA ad)) args s0 0 0 (mA ad) = Q
  refine lv_aload_n hx hb dX5_walkerItem_0 rfl (lv_at hl 0 rfl) ?_
  refine lv_aload_n hx hb dX5_walkerItem_1 rfl (lv_at hl 0 rfl) ?_
  refine m_get hx hb hts hin hown hK hP 0 (by decide) (hts (.fieldLink RX5 7 "PennyRoadModel" "s" "[I") (by decide +kernel)) rfl dX5_walkerItem_2 ?_
  refine lv_iconst (v := nI 0) hx hb dX5_walkerItem_5 (by decide) ?_
  refine m_ald hx hb hK hP 1 rfl (by decide) (by omega) dX5_walkerItem_6 ?_
  refine lv_top hN ?_
  refine lv_bipush (v := nI 8) hx hb dX5_walkerItem_7 (by decide) ?_
  have K_1 : ∀ (x_2 : Int32) (H : Heap) (locs : List Loc) (ls : Array Slot), x_2 = (if 8 ≤ N then (nI 0) else (nI 1)) → va_P D vwCl (mw cy ad sr kS ot asd stt ik tp (nI T) (nI f) (nI t) vl (z (wb = true)) bo so nu mv) H → va_S (mA ad) s0.heap H locs → lv_has ls 3 [(0, .ref (ad 0)), (1, .int (kd))] → W p l e (rmz 6 137) s0 m args below meth c H locs 0 0 Q (F0 m 17 ls [.int (x_2), .ref (ad 0)]) := by
    intro x_2 H locs ls ex_2 hP hS hl
    refine lv_top (ex_2.trans lt8_z) ?_
    refine wq_V S mK_ok hK hP hS (c_X5_must (pb := (decide (N < 8))) hT2 hok) gX5_walkerItem_X5_must i_X5_must rfl (m_rec hK hP) ⟨Nat.le_of_ble_eq_true rfl, Nat.le_of_ble_eq_true rfl⟩ rfl hl.1 (As := [.int (z (decide (N < 8) = true))]) (rest := []) (st1 := []) rfl rfl (Nat.le_of_ble_eq_true rfl) ⟨Nat.le_of_ble_eq_true rfl, Nat.le_of_ble_eq_true rfl⟩ dX5_walkerItem_17 (fun H locs hP hS => ?_)
    generalize hhS_3 : mustP tp T (decide (N < 8)) (sr, f, t, wb, vl) = S_3 at hP
    have hokS_3 : okS T S_3 := by rw [← hhS_3]; exact mustP_ok hok
    refine lv_aload_n hx hb dX5_walkerItem_20 rfl (lv_at hl 0 rfl) ?_
    refine m_get hx hb hts hin hown hK hP 11 (by decide) (hts (.fieldLink RX5 194 "PennyRoadModel" "isWrong" "Z") (by decide +kernel)) rfl dX5_walkerItem_21 ?_
    refine lvz_if_eq (tgt := 28) hx hb dX5_walkerItem_24 (by decide) (fun c_24 => ?_) (fun c_24 => ?_)
    · skip
      have h88 : N < 8 := by rw [← hhS_3] at c_24; exact walkP_wb c_24
      have hm1 : S_3.1 0 = nI N := by rw [← hhS_3, mustP_row]; exact hN
      refine lv_aload_n hx hb dX5_walkerItem_28 rfl (lv_at hl 0 rfl) ?_
      refine lv_iload_n hx hb dX5_walkerItem_29 rfl (lv_at hl 1 rfl) ?_
      refine lv_iconst (v := nI 0) hx hb dX5_walkerItem_30 (by decide) ?_
      refine wq_V S mK_ok hK hP hS (c_X5_adds hm1 (by omega)) gX5_walkerItem_X5_adds i_X5_adds rfl (m_rec hK hP) ⟨Nat.le_of_ble_eq_true rfl, Nat.le_of_ble_eq_true rfl⟩ rfl hl.1 (As := [.int (kd), .int (nI 0)]) (rest := []) (st1 := [.int (nI N)]) rfl rfl (Nat.le_of_ble_eq_true rfl) ⟨Nat.le_of_ble_eq_true rfl, Nat.le_of_ble_eq_true rfl⟩ dX5_walkerItem_31 (fun H locs hP hS => ?_)
      have hok2 : okS T (addF (S_3.1) N (kd) (nI 0), S_3.2.1, S_3.2.2.1, S_3.2.2.2.1, S_3.2.2.2.2) := addS_ok (S := S_3) h88 hokS_3
      refine lv_istore_n (lv' := [(2, .int (nI N)), (0, .ref (ad 0)), (1, .int (kd))]) hx hb dX5_walkerItem_34 rfl hl (by decide) rfl (fun ls hl => ?_)
      refine lv_aload_n hx hb dX5_walkerItem_35 rfl (lv_at hl 1 rfl) ?_
      refine lv_ldc2 (v := 52) hx hb hown (hts (.constantLong RX5 232 (52)) (by decide +kernel)) dX5_walkerItem_36 ?_
      refine lv_iload_n hx hb dX5_walkerItem_39 rfl (lv_at hl 0 rfl) ?_
      refine lv_iconst (v := nI 1) hx hb dX5_walkerItem_40 (by decide) ?_
      refine sq_S S (c_X5_spotOf) gX5_walkerItem_X5_spotOf i_X5_spotOf ⟨Nat.le_of_ble_eq_true rfl, Nat.le_of_ble_eq_true rfl⟩ rfl hl.1 (As := [.int (nI N), .int (nI 1)]) (rest := [.long (52), .ref (ad 0)]) (st1 := [.int (nI (5 + 8 * N + 1)), .long (52), .ref (ad 0)]) rfl rfl (Nat.le_of_ble_eq_true rfl) ⟨Nat.le_of_ble_eq_true rfl, Nat.le_of_ble_eq_true rfl⟩ dX5_walkerItem_41 ?_
      refine lv_bipush (v := nI 12) hx hb dX5_walkerItem_44 (by decide) ?_
      refine wq_V S mK_ok hK hP hS (c_X5_partItem hT2 hok2 (by omega) (by omega) (by omega)) gX5_walkerItem_X5_partItem i_X5_partItem rfl (m_rec hK hP) ⟨Nat.le_of_ble_eq_true rfl, Nat.le_of_ble_eq_true rfl⟩ rfl hl.1 (As := [.long (52), .int (nI (5 + 8 * N + 1)), .int (nI 12)]) (rest := []) (st1 := []) rfl rfl (Nat.le_of_ble_eq_true rfl) ⟨Nat.le_of_ble_eq_true rfl, Nat.le_of_ble_eq_true rfl⟩ dX5_walkerItem_46 (fun H locs hP hS => ?_)
      generalize hhS_4 : partP tp T (52) (5 + 8 * N + 1) 12 (addF (S_3.1) N (kd) (nI 0), S_3.2.1, S_3.2.2.1, S_3.2.2.2.1, S_3.2.2.2.2) = S_4 at hP
      have hokS_4 : okS T S_4 := by rw [← hhS_4]; exact partP_ok (by omega) hok2
      refine lv_aload_n hx hb dX5_walkerItem_49 rfl (lv_at hl 1 rfl) ?_
      refine wq_V S mK_ok hK hP hS (c_X5_word hT2 hokS_4) gX5_walkerItem_X5_word i_X5_word rfl (m_rec hK hP) ⟨Nat.le_of_ble_eq_true rfl, Nat.le_of_ble_eq_true rfl⟩ rfl hl.1 (As := []) (rest := []) (st1 := [.long (wordF tp T (S_4.1, S_4.2.1, S_4.2.2.1, S_4.2.2.2.1, S_4.2.2.2.2))]) rfl rfl (Nat.le_of_ble_eq_true rfl) ⟨Nat.le_of_ble_eq_true rfl, Nat.le_of_ble_eq_true rfl⟩ dX5_walkerItem_50 (fun H locs hP hS => ?_)
      refine lv_ldc2 (v := 147182) hx hb hown (hts (.constantLong RX5 238 (147182)) (by decide +kernel)) dX5_walkerItem_53 ?_
      refine W.lcmp hx hb dX5_walkerItem_56 ?_
      refine lv_if_ne (tgt := 76) hx hb dX5_walkerItem_57 (by decide) (fun c_57 => ?_) (fun c_57 => ?_)
      · skip
        rw [lg_cmp_eq] at c_57
        refine lv_aload_n hx hb dX5_walkerItem_76 rfl (lv_at hl 1 rfl) ?_
        refine lv_ldc2 (v := 609275374) hx hb hown (hts (.constantLong RX5 240 (609275374)) (by decide +kernel)) dX5_walkerItem_77 ?_
        refine lv_iload_n hx hb dX5_walkerItem_80 rfl (lv_at hl 0 rfl) ?_
        refine lv_iconst (v := nI 3) hx hb dX5_walkerItem_81 (by decide) ?_
        refine sq_S S (c_X5_spotOf) gX5_walkerItem_X5_spotOf i_X5_spotOf ⟨Nat.le_of_ble_eq_true rfl, Nat.le_of_ble_eq_true rfl⟩ rfl hl.1 (As := [.int (nI N), .int (nI 3)]) (rest := [.long (609275374), .ref (ad 0)]) (st1 := [.int (nI (5 + 8 * N + 3)), .long (609275374), .ref (ad 0)]) rfl rfl (Nat.le_of_ble_eq_true rfl) ⟨Nat.le_of_ble_eq_true rfl, Nat.le_of_ble_eq_true rfl⟩ dX5_walkerItem_82 ?_
        refine lv_bipush (v := nI 9) hx hb dX5_walkerItem_85 (by decide) ?_
        refine wq_V S mK_ok hK hP hS (c_X5_partItem hT2 hokS_4 (by omega) (by omega) (by omega)) gX5_walkerItem_X5_partItem i_X5_partItem rfl (m_rec hK hP) ⟨Nat.le_of_ble_eq_true rfl, Nat.le_of_ble_eq_true rfl⟩ rfl hl.1 (As := [.long (609275374), .int (nI (5 + 8 * N + 3)), .int (nI 9)]) (rest := []) (st1 := []) rfl rfl (Nat.le_of_ble_eq_true rfl) ⟨Nat.le_of_ble_eq_true rfl, Nat.le_of_ble_eq_true rfl⟩ dX5_walkerItem_87 (fun H locs hP hS => ?_)
        generalize hhS_5 : partP tp T (609275374) (5 + 8 * N + 3) 9 (S_4.1, S_4.2.1, S_4.2.2.1, S_4.2.2.2.1, S_4.2.2.2.2) = S_5 at hP
        have hokS_5 : okS T S_5 := by rw [← hhS_5]; exact partP_ok (by omega) hokS_4
        subst hQ
        exact wq_rv hx hb hr hlocks hP hS dX5_walkerItem_90 rfl (by subst hhS_5; subst hhS_4; subst hhS_3; rw [show walkP tp T N kd (sr, f, t, wb, vl) = _ from if_neg c_24, show downP tp T (5 + 8 * N + 2) (partP tp T 52 (5 + 8 * N + 1) 12 (addF (mustP tp T (decide (N < 8)) (sr, f, t, wb, vl)).1 N kd (nI 0), (mustP tp T (decide (N < 8)) (sr, f, t, wb, vl)).2)) = _ from if_neg c_57]; try rfl)
      · skip
        rw [lg_cmp_eq] at c_57
        refine lv_aload_n hx hb dX5_walkerItem_60 rfl (lv_at hl 1 rfl) ?_
        refine lv_iconst (v := nI 1) hx hb dX5_walkerItem_61 (by decide) ?_
        refine wq_V S mK_ok hK hP hS (c_X5_must (pb := true) hT2 hokS_4) gX5_walkerItem_X5_must i_X5_must rfl (m_rec hK hP) ⟨Nat.le_of_ble_eq_true rfl, Nat.le_of_ble_eq_true rfl⟩ rfl hl.1 (As := [.int (nI 1)]) (rest := []) (st1 := []) rfl rfl (Nat.le_of_ble_eq_true rfl) ⟨Nat.le_of_ble_eq_true rfl, Nat.le_of_ble_eq_true rfl⟩ dX5_walkerItem_62 (fun H locs hP hS => ?_)
        generalize hhS_6 : mustP tp T true (S_4.1, S_4.2.1, S_4.2.2.1, S_4.2.2.2.1, S_4.2.2.2.2) = S_6 at hP
        have hokS_6 : okS T S_6 := by rw [← hhS_6]; exact mustP_ok hokS_4
        refine lv_aload_n hx hb dX5_walkerItem_65 rfl (lv_at hl 1 rfl) ?_
        refine m_get hx hb hts hin hown hK hP 0 (by decide) (hts (.fieldLink RX5 7 "PennyRoadModel" "s" "[I") (by decide +kernel)) rfl dX5_walkerItem_66 ?_
        refine lv_iload_n hx hb dX5_walkerItem_69 rfl (lv_at hl 0 rfl) ?_
        refine lv_iconst (v := nI 2) hx hb dX5_walkerItem_70 (by decide) ?_
        refine sq_S S (c_X5_spotOf) gX5_walkerItem_X5_spotOf i_X5_spotOf ⟨Nat.le_of_ble_eq_true rfl, Nat.le_of_ble_eq_true rfl⟩ rfl hl.1 (As := [.int (nI N), .int (nI 2)]) (rest := [.ref (ad 1)]) (st1 := [.int (nI (5 + 8 * N + 2)), .ref (ad 1)]) rfl rfl (Nat.le_of_ble_eq_true rfl) ⟨Nat.le_of_ble_eq_true rfl, Nat.le_of_ble_eq_true rfl⟩ dX5_walkerItem_71 ?_
        refine lv_iconst (v := nI 0) hx hb dX5_walkerItem_74 (by decide) ?_
        refine m_ast (w' := (mw cy ad (upd S_6.1 (5 + 8 * N + 2) (nI 0)) kS ot asd stt ik tp (nI T) (nI S_6.2.1) (nI S_6.2.2.1) S_6.2.2.2.2 (z (S_6.2.2.2.1 = true)) bo so nu mv)) hx hb hK hP hS 1 rfl (by decide) (by omega) rfl dX5_walkerItem_75 (fun H locs hP hS => ?_)
        have hok9 : okS T (upd S_6.1 (5 + 8 * N + 2) (nI 0), S_6.2.1, S_6.2.2.1, S_6.2.2.2.1, S_6.2.2.2.2) := putP_ok (S := S_6) (wh := 5 + 8 * N + 2) (x := nI 0) (by omega) hokS_6
        refine lv_aload_n hx hb dX5_walkerItem_76 rfl (lv_at hl 1 rfl) ?_
        refine lv_ldc2 (v := 609275374) hx hb hown (hts (.constantLong RX5 240 (609275374)) (by decide +kernel)) dX5_walkerItem_77 ?_
        refine lv_iload_n hx hb dX5_walkerItem_80 rfl (lv_at hl 0 rfl) ?_
        refine lv_iconst (v := nI 3) hx hb dX5_walkerItem_81 (by decide) ?_
        refine sq_S S (c_X5_spotOf) gX5_walkerItem_X5_spotOf i_X5_spotOf ⟨Nat.le_of_ble_eq_true rfl, Nat.le_of_ble_eq_true rfl⟩ rfl hl.1 (As := [.int (nI N), .int (nI 3)]) (rest := [.long (609275374), .ref (ad 0)]) (st1 := [.int (nI (5 + 8 * N + 3)), .long (609275374), .ref (ad 0)]) rfl rfl (Nat.le_of_ble_eq_true rfl) ⟨Nat.le_of_ble_eq_true rfl, Nat.le_of_ble_eq_true rfl⟩ dX5_walkerItem_82 ?_
        refine lv_bipush (v := nI 9) hx hb dX5_walkerItem_85 (by decide) ?_
        refine wq_V S mK_ok hK hP hS (c_X5_partItem hT2 hok9 (by omega) (by omega) (by omega)) gX5_walkerItem_X5_partItem i_X5_partItem rfl (m_rec hK hP) ⟨Nat.le_of_ble_eq_true rfl, Nat.le_of_ble_eq_true rfl⟩ rfl hl.1 (As := [.long (609275374), .int (nI (5 + 8 * N + 3)), .int (nI 9)]) (rest := []) (st1 := []) rfl rfl (Nat.le_of_ble_eq_true rfl) ⟨Nat.le_of_ble_eq_true rfl, Nat.le_of_ble_eq_true rfl⟩ dX5_walkerItem_87 (fun H locs hP hS => ?_)
        generalize hhS_7 : partP tp T (609275374) (5 + 8 * N + 3) 9 (upd S_6.1 (5 + 8 * N + 2) (nI 0), S_6.2.1, S_6.2.2.1, S_6.2.2.2.1, S_6.2.2.2.2) = S_7 at hP
        have hokS_7 : okS T S_7 := by rw [← hhS_7]; exact partP_ok (by omega) hok9
        subst hQ
        exact wq_rv hx hb hr hlocks hP hS dX5_walkerItem_90 rfl (by subst hhS_7; subst hhS_6; subst hhS_4; subst hhS_3; rw [show walkP tp T N kd (sr, f, t, wb, vl) = _ from if_neg c_24, show downP tp T (5 + 8 * N + 2) (partP tp T 52 (5 + 8 * N + 1) 12 (addF (mustP tp T (decide (N < 8)) (sr, f, t, wb, vl)).1 N kd (nI 0), (mustP tp T (decide (N < 8)) (sr, f, t, wb, vl)).2)) = _ from if_pos c_57]; try rfl)
    · skip
      subst hQ
      exact wq_rv hx hb hr hlocks hP hS dX5_walkerItem_27 rfl (by subst hhS_3; rw [show walkP tp T N kd (sr, f, t, wb, vl) = mustP tp T (decide (N < 8)) (sr, f, t, wb, vl) from if_pos c_24])
  refine lvn_icmp_ge (tgt := 16) hx hb dX5_walkerItem_9 (by decide) (by omega) (by omega) (fun c_9 => ?_) (fun c_9 => ?_)
  · skip
    refine lv_iconst (v := nI 0) hx hb dX5_walkerItem_16 (by decide) ?_
    exact K_1 (nI 0) _ _ ls (by simp only [if_pos c_9]) hP hS hl
  · skip
    refine lv_iconst (v := nI 1) hx hb dX5_walkerItem_12 (by decide) ?_
    refine lv_goto (tgt := 17) hx hb dX5_walkerItem_13 (by decide) ?_
    exact K_1 (nI 1) _ _ ls (by simp only [if_neg c_9]) hP hS hl
theorem i_X5_walkerItem : ciOk yX5_walkerItem cX5_walkerItem 3 none wsX5_walkerItem 1 := ⟨⟨_, rfl⟩, by decide +kernel⟩
set_option maxHeartbeats 1000000 in
set_option maxRecDepth 100000 in
theorem c_X5_item {l : Launch} {D : va_G} {cy : Nat → ClassId} {ad : Nat → Nat} {sr : Nat → Int32} {kS : Nat → Int32} {ot : Nat → Int32} {asd : Nat → Int32} {stt : Nat → Int32} {ik : Int32} {tp : Nat → Int32} {vl : Int32} {bo : Nat → Int32} {so : Nat → Int32} {nu : Nat → Int64} {mv : Nat → Int64} {T : Nat} {f : Nat} {t : Nat} {wb : Bool} {N : Nat} (hT2 : T ≤ 120) (hok : okS T (sr, f, t, wb, vl)) (hN : sr 0 = nI N) (h8 : N ≤ 8) : Met l yX5_item wsX5_item (rmz 7 159) (wPre D (mK D cy ad) (mw cy ad sr kS ot asd stt ik tp (nI T) (nI f) (nI t) vl (z (wb = true)) bo so nu mv) [.ref (ad 0)]) (wPost D (mw cy ad ((itemP tp T N (sr, f, t, wb, vl)).1) kS ot asd stt ik tp (nI T) (nI (itemP tp T N (sr, f, t, wb, vl)).2.1) (nI (itemP tp T N (sr, f, t, wb, vl)).2.2.1) ((itemP tp T N (sr, f, t, wb, vl)).2.2.2.2) (z ((itemP tp T N (sr, f, t, wb, vl)).2.2.2.1 = true)) bo so nu mv) none (mA ad)) 0 0 (mA ad) := by
  refine wq_entry rfl rfl (Nat.le_of_ble_eq_true rfl) ?_
  intro p e s0 m args below meth c S hr hlocks hK hP ls hl
  have S : CallFix p m c cX5_item 6 s0 args wsX5_item RX5 := S
  obtain ⟨hx, hb, hml, hown, hts⟩ := id S
  have hin : ∀ w ∈ wsX50, w ∈ wsX5_item := fun w h => List.mem_cons_of_mem _ (List.mem_append_right _ h)
  have hS : va_S (mA ad) s0.heap s0.heap [] := va_S.rf
  have hl : lv_has ls 6 [(0, .ref (ad 0))] := hl
  generalize hQ : MQ below (wPost D (mw cy ad ((itemP tp T N (sr, f, t, wb, vl)).1) kS ot asd stt ik tp (nI T) (nI (itemP tp T N (sr, f, t, wb, vl)).2.1) (nI (itemP tp T N (sr, f, t, wb, vl)).2.2.1) ((itemP tp T N (sr, f, t, wb, vl)).2.2.2.2) (z ((itemP tp T N (sr, f, t, wb, vl)).2.2.2.1 = true)) bo so nu mv) none (mA ad)) args s0 0 0 (mA ad) = Q
  refine lv_aload_n hx hb dX5_item_0 rfl (lv_at hl 0 rfl) ?_
  refine wq_V S mK_ok hK hP hS (c_X5_kindHere hT2 hok) gX5_item_X5_kindHere i_X5_kindHere rfl (m_rec hK hP) ⟨Nat.le_of_ble_eq_true rfl, Nat.le_of_ble_eq_true rfl⟩ rfl hl.1 (As := []) (rest := []) (st1 := [.int (kindF (wordF tp T (sr, f, t, wb, vl)))]) rfl rfl (Nat.le_of_ble_eq_true rfl) ⟨Nat.le_of_ble_eq_true rfl, Nat.le_of_ble_eq_true rfl⟩ dX5_item_1 (fun H locs hP hS => ?_)
  refine lv_istore_n (lv' := [(1, .int (kindF (wordF tp T (sr, f, t, wb, vl)))), (0, .ref (ad 0))]) hx hb dX5_item_4 rfl hl (by decide) rfl (fun ls hl => ?_)
  refine lv_aload_n hx hb dX5_item_5 rfl (lv_at hl 1 rfl) ?_
  refine wq_V S mK_ok hK hP hS (c_X5_word hT2 hok) gX5_item_X5_word i_X5_word rfl (m_rec hK hP) ⟨Nat.le_of_ble_eq_true rfl, Nat.le_of_ble_eq_true rfl⟩ rfl hl.1 (As := []) (rest := []) (st1 := [.long (wordF tp T (sr, f, t, wb, vl))]) rfl rfl (Nat.le_of_ble_eq_true rfl) ⟨Nat.le_of_ble_eq_true rfl, Nat.le_of_ble_eq_true rfl⟩ dX5_item_6 (fun H locs hP hS => ?_)
  refine lv_lstore_n (lv' := [(2, .long (wordF tp T (sr, f, t, wb, vl))), (1, .int (kindF (wordF tp T (sr, f, t, wb, vl)))), (0, .ref (ad 0))]) hx hb dX5_item_9 rfl hl (by decide) rfl (fun ls hl => ?_)
  refine lv_lload_n hx hb dX5_item_10 rfl (lv_at hl 0 rfl) ?_
  refine lv_ldc2 (v := 218564) hx hb hown (hts (.constantLong RX5 246 (218564)) (by decide +kernel)) dX5_item_11 ?_
  refine W.lcmp hx hb dX5_item_14 ?_
  refine lv_if_ne (tgt := 22) hx hb dX5_item_15 (by decide) (fun c_15 => ?_) (fun c_15 => ?_)
  · skip
    rw [lg_cmp_eq] at c_15
    refine lv_iconst (v := nI 0) hx hb dX5_item_22 (by decide) ?_
    refine lv_istore (lv' := [(4, .int (nI 0)), (2, .long (wordF tp T (sr, f, t, wb, vl))), (1, .int (kindF (wordF tp T (sr, f, t, wb, vl)))), (0, .ref (ad 0))]) hx hb dX5_item_23 hl (by decide) rfl (fun ls hl => ?_)
    refine lv_iload_n hx hb dX5_item_25 rfl (lv_at hl 2 rfl) ?_
    refine lv_if_lt (tgt := 37) hx hb dX5_item_26 (by decide) (fun c_26 => ?_) (fun c_26 => ?_)
    · skip
      refine lv_iload hx hb dX5_item_37 (lv_at hl 0 rfl) ?_
      refine lv_if_ne (tgt := 50) hx hb dX5_item_39 (by decide) (fun c_39 => ?_) (fun c_39 => ?_)
      · skip
        exact absurd c_39 (by decide)
      · skip
        refine lv_lload_n hx hb dX5_item_42 rfl (lv_at hl 1 rfl) ?_
        refine lv_ldc2 (v := 16955865) hx hb hown (hts (.constantLong RX5 251 (16955865)) (by decide +kernel)) dX5_item_43 ?_
        refine W.lcmp hx hb dX5_item_46 ?_
        refine lv_if_ne (tgt := 116) hx hb dX5_item_47 (by decide) (fun c_47 => ?_) (fun c_47 => ?_)
        · skip
          rw [lg_cmp_eq] at c_47
          refine lv_lload_n hx hb dX5_item_116 rfl (lv_at hl 1 rfl) ?_
          refine lv_ldc2 (v := 591150) hx hb hown (hts (.constantLong RX5 253 (591150)) (by decide +kernel)) dX5_item_117 ?_
          refine W.lcmp hx hb dX5_item_120 ?_
          refine lv_if_ne (tgt := 128) hx hb dX5_item_121 (by decide) (fun c_121 => ?_) (fun c_121 => ?_)
          · skip
            rw [lg_cmp_eq] at c_121
            refine lv_iconst (v := nI 0) hx hb dX5_item_128 (by decide) ?_
            refine lv_istore (lv' := [(5, .int (nI 0)), (4, .int (nI 0)), (2, .long (wordF tp T (sr, f, t, wb, vl))), (1, .int (kindF (wordF tp T (sr, f, t, wb, vl)))), (0, .ref (ad 0))]) hx hb dX5_item_129 hl (by decide) rfl (fun ls hl => ?_)
            refine lv_aload_n hx hb dX5_item_131 rfl (lv_at hl 4 rfl) ?_
            refine lv_iload hx hb dX5_item_132 (lv_at hl 0 rfl) ?_
            refine lv_if_ne (tgt := 145) hx hb dX5_item_134 (by decide) (fun c_134 => ?_) (fun c_134 => ?_)
            · skip
              exact absurd c_134 (by decide)
            · skip
              refine lv_lload_n hx hb dX5_item_137 rfl (lv_at hl 2 rfl) ?_
              refine lv_ldc2 (v := 4697) hx hb hown (hts (.constantLong RX5 255 (4697)) (by decide +kernel)) dX5_item_138 ?_
              refine W.lcmp hx hb dX5_item_141 ?_
              refine lv_if_ne (tgt := 149) hx hb dX5_item_142 (by decide) (fun c_142 => ?_) (fun c_142 => ?_)
              · skip
                rw [lg_cmp_eq] at c_142
                refine lv_iconst (v := nI 0) hx hb dX5_item_149 (by decide) ?_
                refine wq_V S mK_ok hK hP hS (c_X5_must (pb := false) hT2 hok) gX5_item_X5_must i_X5_must rfl (m_rec hK hP) ⟨Nat.le_of_ble_eq_true rfl, Nat.le_of_ble_eq_true rfl⟩ rfl hl.1 (As := [.int (nI 0)]) (rest := []) (st1 := []) rfl rfl (Nat.le_of_ble_eq_true rfl) ⟨Nat.le_of_ble_eq_true rfl, Nat.le_of_ble_eq_true rfl⟩ dX5_item_150 (fun H locs hP hS => ?_)
                generalize hhS_1 : mustP tp T false (sr, f, t, wb, vl) = S_1 at hP
                have hokS_1 : okS T S_1 := by rw [← hhS_1]; exact mustP_ok hok
                refine lv_aload_n hx hb dX5_item_153 rfl (lv_at hl 4 rfl) ?_
                refine m_get hx hb hts hin hown hK hP 0 (by decide) (hts (.fieldLink RX5 7 "PennyRoadModel" "s" "[I") (by decide +kernel)) rfl dX5_item_154 ?_
                refine lv_iconst (v := nI 4) hx hb dX5_item_157 (by decide) ?_
                refine lv_aload_n hx hb dX5_item_158 rfl (lv_at hl 4 rfl) ?_
                refine m_get hx hb hts hin hown hK hP 11 (by decide) (hts (.fieldLink RX5 194 "PennyRoadModel" "isWrong" "Z") (by decide +kernel)) rfl dX5_item_159 ?_
                refine lvz_if_eq (tgt := 174) hx hb dX5_item_162 (by decide) (fun c_162 => ?_) (fun c_162 => ?_)
                · skip
                  refine lv_iload hx hb dX5_item_174 (lv_at hl 0 rfl) ?_
                  refine lv_if_eq (tgt := 183) hx hb dX5_item_176 (by decide) (fun c_176 => ?_) (fun c_176 => ?_)
                  · skip
                    refine lv_iconst (v := nI 0) hx hb dX5_item_183 (by decide) ?_
                    refine m_ast (w' := (mw cy ad (upd S_1.1 4 (nI 0)) kS ot asd stt ik tp (nI T) (nI S_1.2.1) (nI S_1.2.2.1) S_1.2.2.2.2 (z (S_1.2.2.2.1 = true)) bo so nu mv)) hx hb hK hP hS 1 rfl (by decide) (by omega) rfl dX5_item_184 (fun H locs hP hS => ?_)
                    subst hQ
                    exact wq_rv hx hb hr hlocks hP hS dX5_item_185 rfl (by subst hhS_1; rw [show itemP tp T N (sr, f, t, wb, vl) = rainP tp T (wordF tp T (sr, f, t, wb, vl)) (sr, f, t, wb, vl) from (if_pos c_26).trans ((if_neg c_15).trans (if_neg c_47))]; simp only [rainP, putP, decide_eq_false c_121, decide_eq_false c_142, Bool.true_or, Bool.or_true, Bool.or_self, Bool.false_or, Bool.or_false, if_neg c_162, if_neg c_121])
                  · skip
                    exact absurd c_176 (by decide)
                · skip
                  refine lv_aload_n hx hb dX5_item_165 rfl (lv_at hl 4 rfl) ?_
                  refine m_get hx hb hts hin hown hK hP 0 (by decide) (hts (.fieldLink RX5 7 "PennyRoadModel" "s" "[I") (by decide +kernel)) rfl dX5_item_166 ?_
                  refine lv_iconst (v := nI 4) hx hb dX5_item_169 (by decide) ?_
                  refine m_ald hx hb hK hP 1 rfl (by decide) (by omega) dX5_item_170 ?_
                  refine lv_goto (tgt := 184) hx hb dX5_item_171 (by decide) ?_
                  refine m_ast (w' := (mw cy ad (upd S_1.1 4 ((S_1.1) 4)) kS ot asd stt ik tp (nI T) (nI S_1.2.1) (nI S_1.2.2.1) S_1.2.2.2.2 (z (S_1.2.2.2.1 = true)) bo so nu mv)) hx hb hK hP hS 1 rfl (by decide) (by omega) rfl dX5_item_184 (fun H locs hP hS => ?_)
                  subst hQ
                  exact wq_rv hx hb hr hlocks hP hS dX5_item_185 rfl (by subst hhS_1; rw [show itemP tp T N (sr, f, t, wb, vl) = rainP tp T (wordF tp T (sr, f, t, wb, vl)) (sr, f, t, wb, vl) from (if_pos c_26).trans ((if_neg c_15).trans (if_neg c_47))]; simp only [rainP, putP, decide_eq_false c_121, decide_eq_false c_142, Bool.true_or, Bool.or_true, Bool.or_self, Bool.false_or, Bool.or_false, if_pos c_162])
              · skip
                rw [lg_cmp_eq] at c_142
                refine lv_iconst (v := nI 1) hx hb dX5_item_145 (by decide) ?_
                refine lv_goto (tgt := 150) hx hb dX5_item_146 (by decide) ?_
                refine wq_V S mK_ok hK hP hS (c_X5_must (pb := true) hT2 hok) gX5_item_X5_must i_X5_must rfl (m_rec hK hP) ⟨Nat.le_of_ble_eq_true rfl, Nat.le_of_ble_eq_true rfl⟩ rfl hl.1 (As := [.int (nI 1)]) (rest := []) (st1 := []) rfl rfl (Nat.le_of_ble_eq_true rfl) ⟨Nat.le_of_ble_eq_true rfl, Nat.le_of_ble_eq_true rfl⟩ dX5_item_150 (fun H locs hP hS => ?_)
                generalize hhS_2 : mustP tp T true (sr, f, t, wb, vl) = S_2 at hP
                have hokS_2 : okS T S_2 := by rw [← hhS_2]; exact mustP_ok hok
                refine lv_aload_n hx hb dX5_item_153 rfl (lv_at hl 4 rfl) ?_
                refine m_get hx hb hts hin hown hK hP 0 (by decide) (hts (.fieldLink RX5 7 "PennyRoadModel" "s" "[I") (by decide +kernel)) rfl dX5_item_154 ?_
                refine lv_iconst (v := nI 4) hx hb dX5_item_157 (by decide) ?_
                refine lv_aload_n hx hb dX5_item_158 rfl (lv_at hl 4 rfl) ?_
                refine m_get hx hb hts hin hown hK hP 11 (by decide) (hts (.fieldLink RX5 194 "PennyRoadModel" "isWrong" "Z") (by decide +kernel)) rfl dX5_item_159 ?_
                refine lvz_if_eq (tgt := 174) hx hb dX5_item_162 (by decide) (fun c_162 => ?_) (fun c_162 => ?_)
                · skip
                  refine lv_iload hx hb dX5_item_174 (lv_at hl 0 rfl) ?_
                  refine lv_if_eq (tgt := 183) hx hb dX5_item_176 (by decide) (fun c_176 => ?_) (fun c_176 => ?_)
                  · skip
                    refine lv_iconst (v := nI 0) hx hb dX5_item_183 (by decide) ?_
                    refine m_ast (w' := (mw cy ad (upd S_2.1 4 (nI 0)) kS ot asd stt ik tp (nI T) (nI S_2.2.1) (nI S_2.2.2.1) S_2.2.2.2.2 (z (S_2.2.2.2.1 = true)) bo so nu mv)) hx hb hK hP hS 1 rfl (by decide) (by omega) rfl dX5_item_184 (fun H locs hP hS => ?_)
                    subst hQ
                    exact wq_rv hx hb hr hlocks hP hS dX5_item_185 rfl (by subst hhS_2; rw [show itemP tp T N (sr, f, t, wb, vl) = rainP tp T (wordF tp T (sr, f, t, wb, vl)) (sr, f, t, wb, vl) from (if_pos c_26).trans ((if_neg c_15).trans (if_neg c_47))]; simp only [rainP, putP, decide_eq_false c_121, decide_eq_true c_142, Bool.true_or, Bool.or_true, Bool.or_self, Bool.false_or, Bool.or_false, if_neg c_162, if_neg c_121])
                  · skip
                    exact absurd c_176 (by decide)
                · skip
                  refine lv_aload_n hx hb dX5_item_165 rfl (lv_at hl 4 rfl) ?_
                  refine m_get hx hb hts hin hown hK hP 0 (by decide) (hts (.fieldLink RX5 7 "PennyRoadModel" "s" "[I") (by decide +kernel)) rfl dX5_item_166 ?_
                  refine lv_iconst (v := nI 4) hx hb dX5_item_169 (by decide) ?_
                  refine m_ald hx hb hK hP 1 rfl (by decide) (by omega) dX5_item_170 ?_
                  refine lv_goto (tgt := 184) hx hb dX5_item_171 (by decide) ?_
                  refine m_ast (w' := (mw cy ad (upd S_2.1 4 ((S_2.1) 4)) kS ot asd stt ik tp (nI T) (nI S_2.2.1) (nI S_2.2.2.1) S_2.2.2.2.2 (z (S_2.2.2.2.1 = true)) bo so nu mv)) hx hb hK hP hS 1 rfl (by decide) (by omega) rfl dX5_item_184 (fun H locs hP hS => ?_)
                  subst hQ
                  exact wq_rv hx hb hr hlocks hP hS dX5_item_185 rfl (by subst hhS_2; rw [show itemP tp T N (sr, f, t, wb, vl) = rainP tp T (wordF tp T (sr, f, t, wb, vl)) (sr, f, t, wb, vl) from (if_pos c_26).trans ((if_neg c_15).trans (if_neg c_47))]; simp only [rainP, putP, decide_eq_false c_121, decide_eq_true c_142, Bool.true_or, Bool.or_true, Bool.or_self, Bool.false_or, Bool.or_false, if_pos c_162])
          · skip
            rw [lg_cmp_eq] at c_121
            refine lv_iconst (v := nI 1) hx hb dX5_item_124 (by decide) ?_
            refine lv_goto (tgt := 129) hx hb dX5_item_125 (by decide) ?_
            refine lv_istore (lv' := [(5, .int (nI 1)), (4, .int (nI 0)), (2, .long (wordF tp T (sr, f, t, wb, vl))), (1, .int (kindF (wordF tp T (sr, f, t, wb, vl)))), (0, .ref (ad 0))]) hx hb dX5_item_129 hl (by decide) rfl (fun ls hl => ?_)
            refine lv_aload_n hx hb dX5_item_131 rfl (lv_at hl 4 rfl) ?_
            refine lv_iload hx hb dX5_item_132 (lv_at hl 0 rfl) ?_
            refine lv_if_ne (tgt := 145) hx hb dX5_item_134 (by decide) (fun c_134 => ?_) (fun c_134 => ?_)
            · skip
              refine lv_iconst (v := nI 1) hx hb dX5_item_145 (by decide) ?_
              refine lv_goto (tgt := 150) hx hb dX5_item_146 (by decide) ?_
              refine wq_V S mK_ok hK hP hS (c_X5_must (pb := true) hT2 hok) gX5_item_X5_must i_X5_must rfl (m_rec hK hP) ⟨Nat.le_of_ble_eq_true rfl, Nat.le_of_ble_eq_true rfl⟩ rfl hl.1 (As := [.int (nI 1)]) (rest := []) (st1 := []) rfl rfl (Nat.le_of_ble_eq_true rfl) ⟨Nat.le_of_ble_eq_true rfl, Nat.le_of_ble_eq_true rfl⟩ dX5_item_150 (fun H locs hP hS => ?_)
              generalize hhS_3 : mustP tp T true (sr, f, t, wb, vl) = S_3 at hP
              have hokS_3 : okS T S_3 := by rw [← hhS_3]; exact mustP_ok hok
              refine lv_aload_n hx hb dX5_item_153 rfl (lv_at hl 4 rfl) ?_
              refine m_get hx hb hts hin hown hK hP 0 (by decide) (hts (.fieldLink RX5 7 "PennyRoadModel" "s" "[I") (by decide +kernel)) rfl dX5_item_154 ?_
              refine lv_iconst (v := nI 4) hx hb dX5_item_157 (by decide) ?_
              refine lv_aload_n hx hb dX5_item_158 rfl (lv_at hl 4 rfl) ?_
              refine m_get hx hb hts hin hown hK hP 11 (by decide) (hts (.fieldLink RX5 194 "PennyRoadModel" "isWrong" "Z") (by decide +kernel)) rfl dX5_item_159 ?_
              refine lvz_if_eq (tgt := 174) hx hb dX5_item_162 (by decide) (fun c_162 => ?_) (fun c_162 => ?_)
              · skip
                refine lv_iload hx hb dX5_item_174 (lv_at hl 0 rfl) ?_
                refine lv_if_eq (tgt := 183) hx hb dX5_item_176 (by decide) (fun c_176 => ?_) (fun c_176 => ?_)
                · skip
                  exact absurd c_176 (by decide)
                · skip
                  refine lv_iconst (v := nI 1) hx hb dX5_item_179 (by decide) ?_
                  refine lv_goto (tgt := 184) hx hb dX5_item_180 (by decide) ?_
                  refine m_ast (w' := (mw cy ad (upd S_3.1 4 (nI 1)) kS ot asd stt ik tp (nI T) (nI S_3.2.1) (nI S_3.2.2.1) S_3.2.2.2.2 (z (S_3.2.2.2.1 = true)) bo so nu mv)) hx hb hK hP hS 1 rfl (by decide) (by omega) rfl dX5_item_184 (fun H locs hP hS => ?_)
                  subst hQ
                  exact wq_rv hx hb hr hlocks hP hS dX5_item_185 rfl (by subst hhS_3; rw [show itemP tp T N (sr, f, t, wb, vl) = rainP tp T (wordF tp T (sr, f, t, wb, vl)) (sr, f, t, wb, vl) from (if_pos c_26).trans ((if_neg c_15).trans (if_neg c_47))]; simp only [rainP, putP, decide_eq_true c_121, Bool.true_or, Bool.or_true, Bool.or_self, Bool.false_or, Bool.or_false, if_neg c_162, if_pos c_121])
              · skip
                refine lv_aload_n hx hb dX5_item_165 rfl (lv_at hl 4 rfl) ?_
                refine m_get hx hb hts hin hown hK hP 0 (by decide) (hts (.fieldLink RX5 7 "PennyRoadModel" "s" "[I") (by decide +kernel)) rfl dX5_item_166 ?_
                refine lv_iconst (v := nI 4) hx hb dX5_item_169 (by decide) ?_
                refine m_ald hx hb hK hP 1 rfl (by decide) (by omega) dX5_item_170 ?_
                refine lv_goto (tgt := 184) hx hb dX5_item_171 (by decide) ?_
                refine m_ast (w' := (mw cy ad (upd S_3.1 4 ((S_3.1) 4)) kS ot asd stt ik tp (nI T) (nI S_3.2.1) (nI S_3.2.2.1) S_3.2.2.2.2 (z (S_3.2.2.2.1 = true)) bo so nu mv)) hx hb hK hP hS 1 rfl (by decide) (by omega) rfl dX5_item_184 (fun H locs hP hS => ?_)
                subst hQ
                exact wq_rv hx hb hr hlocks hP hS dX5_item_185 rfl (by subst hhS_3; rw [show itemP tp T N (sr, f, t, wb, vl) = rainP tp T (wordF tp T (sr, f, t, wb, vl)) (sr, f, t, wb, vl) from (if_pos c_26).trans ((if_neg c_15).trans (if_neg c_47))]; simp only [rainP, putP, decide_eq_true c_121, Bool.true_or, Bool.or_true, Bool.or_self, Bool.false_or, Bool.or_false, if_pos c_162])
            · skip
              exact absurd c_134 (by decide)
        · skip
          rw [lg_cmp_eq] at c_47
          refine lv_aload_n hx hb dX5_item_50 rfl (lv_at hl 3 rfl) ?_
          refine lv_iconst (v := nI 1) hx hb dX5_item_51 (by decide) ?_
          refine wq_V S mK_ok hK hP hS (c_X5_must (pb := true) hT2 hok) gX5_item_X5_must i_X5_must rfl (m_rec hK hP) ⟨Nat.le_of_ble_eq_true rfl, Nat.le_of_ble_eq_true rfl⟩ rfl hl.1 (As := [.int (nI 1)]) (rest := []) (st1 := []) rfl rfl (Nat.le_of_ble_eq_true rfl) ⟨Nat.le_of_ble_eq_true rfl, Nat.le_of_ble_eq_true rfl⟩ dX5_item_52 (fun H locs hP hS => ?_)
          generalize hhS_4 : mustP tp T true (sr, f, t, wb, vl) = S_4 at hP
          have hokS_4 : okS T S_4 := by rw [← hhS_4]; exact mustP_ok hok
          refine lv_aload_n hx hb dX5_item_55 rfl (lv_at hl 3 rfl) ?_
          refine lv_iconst (v := nI 0) hx hb dX5_item_56 (by decide) ?_
          refine lv_iload hx hb dX5_item_57 (lv_at hl 0 rfl) ?_
          refine lv_if_eq (tgt := 68) hx hb dX5_item_59 (by decide) (fun c_59 => ?_) (fun c_59 => ?_)
          · skip
            refine lv_bipush (v := nI 20) hx hb dX5_item_68 (by decide) ?_
            refine wq_V S mK_ok hK hP hS (c_X5_number hT2 hokS_4 (by omega)) gX5_item_X5_number i_X5_number rfl (m_rec hK hP) ⟨Nat.le_of_ble_eq_true rfl, Nat.le_of_ble_eq_true rfl⟩ rfl hl.1 (As := [.int (nI 0), .int (nI 20)]) (rest := []) (st1 := []) rfl rfl (Nat.le_of_ble_eq_true rfl) ⟨Nat.le_of_ble_eq_true rfl, Nat.le_of_ble_eq_true rfl⟩ dX5_item_70 (fun H locs hP hS => ?_)
            generalize hhS_5 : numP tp T 20 (S_4.1, S_4.2.1, S_4.2.2.1, S_4.2.2.2.1, S_4.2.2.2.2) = S_5 at hP
            have hokS_5 : okS T S_5 := by rw [← hhS_5]; exact numP_ok hokS_4
            refine lv_iload hx hb dX5_item_73 (lv_at hl 0 rfl) ?_
            refine lv_if_eq (tgt := 82) hx hb dX5_item_75 (by decide) (fun c_75 => ?_) (fun c_75 => ?_)
            · skip
              refine lv_iconst (v := nI 3) hx hb dX5_item_82 (by decide) ?_
              refine lv_istore (lv' := [(5, .int (nI 3)), (4, .int (nI 0)), (2, .long (wordF tp T (sr, f, t, wb, vl))), (1, .int (kindF (wordF tp T (sr, f, t, wb, vl)))), (0, .ref (ad 0))]) hx hb dX5_item_83 hl (by decide) rfl (fun ls hl => ?_)
              refine lv_aload_n hx hb dX5_item_85 rfl (lv_at hl 4 rfl) ?_
              refine m_get hx hb hts hin hown hK hP 0 (by decide) (hts (.fieldLink RX5 7 "PennyRoadModel" "s" "[I") (by decide +kernel)) rfl dX5_item_86 ?_
              refine lv_iload hx hb dX5_item_89 (lv_at hl 0 rfl) ?_
              refine lv_aload_n hx hb dX5_item_91 rfl (lv_at hl 4 rfl) ?_
              refine m_get hx hb hts hin hown hK hP 11 (by decide) (hts (.fieldLink RX5 194 "PennyRoadModel" "isWrong" "Z") (by decide +kernel)) rfl dX5_item_92 ?_
              have K_6 : ∀ (x_7 : Int32) (H : Heap) (locs : List Loc) (ls : Array Slot), x_7 = (if S_5.2.2.2.1 = true then ((S_5.1) 3) else S_5.2.2.2.2) → va_P D vwCl (mw cy ad S_5.1 kS ot asd stt ik tp (nI T) (nI S_5.2.1) (nI S_5.2.2.1) S_5.2.2.2.2 (z (S_5.2.2.2.1 = true)) bo so nu mv) H → va_S (mA ad) s0.heap H locs → lv_has ls 6 [(5, .int (nI 3)), (4, .int (nI 0)), (2, .long (wordF tp T (sr, f, t, wb, vl))), (1, .int (kindF (wordF tp T (sr, f, t, wb, vl)))), (0, .ref (ad 0))] → W p l e (rmz 7 159) s0 m args below meth c H locs 0 0 Q (F0 m 112 ls [.int (x_7), .int (nI 3), .ref (ad 1)]) := by
                intro x_7 H locs ls ex_7 hP hS hl
                refine m_ast (w' := (mw cy ad (upd S_5.1 3 x_7) kS ot asd stt ik tp (nI T) (nI S_5.2.1) (nI S_5.2.2.1) S_5.2.2.2.2 (z (S_5.2.2.2.1 = true)) bo so nu mv)) hx hb hK hP hS 1 rfl (by decide) (by omega) rfl dX5_item_112 (fun H locs hP hS => ?_)
                refine lv_goto (tgt := 185) hx hb dX5_item_113 (by decide) ?_
                subst hQ
                exact wq_rv hx hb hr hlocks hP hS dX5_item_185 rfl (by subst ex_7; subst hhS_5; subst hhS_4; rw [show itemP tp T N (sr, f, t, wb, vl) = setP tp T 3 20 (sr, f, t, wb, vl) from (if_pos c_26).trans ((if_neg c_15).trans (if_pos c_47))]; rfl)
              refine lvz_if_eq (tgt := 108) hx hb dX5_item_95 (by decide) (fun c_95 => ?_) (fun c_95 => ?_)
              · skip
                refine lv_aload_n hx hb dX5_item_108 rfl (lv_at hl 4 rfl) ?_
                refine m_get hx hb hts hin hown hK hP 10 (by decide) (hts (.fieldLink RX5 205 "PennyRoadModel" "value" "I") (by decide +kernel)) rfl dX5_item_109 ?_
                exact K_6 (S_5.2.2.2.2) _ _ ls (by simp only [if_neg c_95]) hP hS hl
              · skip
                refine lv_aload_n hx hb dX5_item_98 rfl (lv_at hl 4 rfl) ?_
                refine m_get hx hb hts hin hown hK hP 0 (by decide) (hts (.fieldLink RX5 7 "PennyRoadModel" "s" "[I") (by decide +kernel)) rfl dX5_item_99 ?_
                refine lv_iload hx hb dX5_item_102 (lv_at hl 0 rfl) ?_
                refine m_ald hx hb hK hP 1 rfl (by decide) (by omega) dX5_item_104 ?_
                refine lv_goto (tgt := 112) hx hb dX5_item_105 (by decide) ?_
                exact K_6 ((S_5.1) 3) _ _ ls (by simp only [if_pos c_95]) hP hS hl
            · skip
              exact absurd c_75 (by decide)
          · skip
            exact absurd c_59 (by decide)
    · skip
      refine lv_aload_n hx hb dX5_item_29 rfl (lv_at hl 3 rfl) ?_
      refine lv_iload_n hx hb dX5_item_30 rfl (lv_at hl 2 rfl) ?_
      refine wq_V S mK_ok hK hP hS (c_X5_walkerItem hT2 hok hN h8) gX5_item_X5_walkerItem i_X5_walkerItem rfl (m_rec hK hP) ⟨Nat.le_of_ble_eq_true rfl, Nat.le_of_ble_eq_true rfl⟩ rfl hl.1 (As := [.int (kindF (wordF tp T (sr, f, t, wb, vl)))]) (rest := []) (st1 := []) rfl rfl (Nat.le_of_ble_eq_true rfl) ⟨Nat.le_of_ble_eq_true rfl, Nat.le_of_ble_eq_true rfl⟩ dX5_item_31 (fun H locs hP hS => ?_)
      generalize hhS_8 : walkP tp T N (kindF (wordF tp T (sr, f, t, wb, vl))) (sr, f, t, wb, vl) = S_8 at hP
      have hokS_8 : okS T S_8 := by rw [← hhS_8]; exact walkP_ok hok
      refine lv_goto (tgt := 185) hx hb dX5_item_34 (by decide) ?_
      subst hQ
      exact wq_rv hx hb hr hlocks hP hS dX5_item_185 rfl (by subst hhS_8; rw [show itemP tp T N (sr, f, t, wb, vl) = walkP tp T N (kindF (wordF tp T (sr, f, t, wb, vl))) (sr, f, t, wb, vl) from if_neg c_26])
  · skip
    rw [lg_cmp_eq] at c_15
    refine lv_iconst (v := nI 1) hx hb dX5_item_18 (by decide) ?_
    refine lv_goto (tgt := 23) hx hb dX5_item_19 (by decide) ?_
    refine lv_istore (lv' := [(4, .int (nI 1)), (2, .long (wordF tp T (sr, f, t, wb, vl))), (1, .int (kindF (wordF tp T (sr, f, t, wb, vl)))), (0, .ref (ad 0))]) hx hb dX5_item_23 hl (by decide) rfl (fun ls hl => ?_)
    refine lv_iload_n hx hb dX5_item_25 rfl (lv_at hl 2 rfl) ?_
    refine lv_if_lt (tgt := 37) hx hb dX5_item_26 (by decide) (fun c_26 => ?_) (fun c_26 => ?_)
    · skip
      refine lv_iload hx hb dX5_item_37 (lv_at hl 0 rfl) ?_
      refine lv_if_ne (tgt := 50) hx hb dX5_item_39 (by decide) (fun c_39 => ?_) (fun c_39 => ?_)
      · skip
        refine lv_aload_n hx hb dX5_item_50 rfl (lv_at hl 3 rfl) ?_
        refine lv_iconst (v := nI 1) hx hb dX5_item_51 (by decide) ?_
        refine wq_V S mK_ok hK hP hS (c_X5_must (pb := true) hT2 hok) gX5_item_X5_must i_X5_must rfl (m_rec hK hP) ⟨Nat.le_of_ble_eq_true rfl, Nat.le_of_ble_eq_true rfl⟩ rfl hl.1 (As := [.int (nI 1)]) (rest := []) (st1 := []) rfl rfl (Nat.le_of_ble_eq_true rfl) ⟨Nat.le_of_ble_eq_true rfl, Nat.le_of_ble_eq_true rfl⟩ dX5_item_52 (fun H locs hP hS => ?_)
        generalize hhS_9 : mustP tp T true (sr, f, t, wb, vl) = S_9 at hP
        have hokS_9 : okS T S_9 := by rw [← hhS_9]; exact mustP_ok hok
        refine lv_aload_n hx hb dX5_item_55 rfl (lv_at hl 3 rfl) ?_
        refine lv_iconst (v := nI 0) hx hb dX5_item_56 (by decide) ?_
        refine lv_iload hx hb dX5_item_57 (lv_at hl 0 rfl) ?_
        refine lv_if_eq (tgt := 68) hx hb dX5_item_59 (by decide) (fun c_59 => ?_) (fun c_59 => ?_)
        · skip
          exact absurd c_59 (by decide)
        · skip
          refine lv_sipush (v := nI 9999) hx hb dX5_item_62 (by decide) ?_
          refine lv_goto (tgt := 70) hx hb dX5_item_65 (by decide) ?_
          refine wq_V S mK_ok hK hP hS (c_X5_number hT2 hokS_9 (by omega)) gX5_item_X5_number i_X5_number rfl (m_rec hK hP) ⟨Nat.le_of_ble_eq_true rfl, Nat.le_of_ble_eq_true rfl⟩ rfl hl.1 (As := [.int (nI 0), .int (nI 9999)]) (rest := []) (st1 := []) rfl rfl (Nat.le_of_ble_eq_true rfl) ⟨Nat.le_of_ble_eq_true rfl, Nat.le_of_ble_eq_true rfl⟩ dX5_item_70 (fun H locs hP hS => ?_)
          generalize hhS_10 : numP tp T 9999 (S_9.1, S_9.2.1, S_9.2.2.1, S_9.2.2.2.1, S_9.2.2.2.2) = S_10 at hP
          have hokS_10 : okS T S_10 := by rw [← hhS_10]; exact numP_ok hokS_9
          refine lv_iload hx hb dX5_item_73 (lv_at hl 0 rfl) ?_
          refine lv_if_eq (tgt := 82) hx hb dX5_item_75 (by decide) (fun c_75 => ?_) (fun c_75 => ?_)
          · skip
            exact absurd c_75 (by decide)
          · skip
            refine lv_iconst (v := nI 2) hx hb dX5_item_78 (by decide) ?_
            refine lv_goto (tgt := 83) hx hb dX5_item_79 (by decide) ?_
            refine lv_istore (lv' := [(5, .int (nI 2)), (4, .int (nI 1)), (2, .long (wordF tp T (sr, f, t, wb, vl))), (1, .int (kindF (wordF tp T (sr, f, t, wb, vl)))), (0, .ref (ad 0))]) hx hb dX5_item_83 hl (by decide) rfl (fun ls hl => ?_)
            refine lv_aload_n hx hb dX5_item_85 rfl (lv_at hl 4 rfl) ?_
            refine m_get hx hb hts hin hown hK hP 0 (by decide) (hts (.fieldLink RX5 7 "PennyRoadModel" "s" "[I") (by decide +kernel)) rfl dX5_item_86 ?_
            refine lv_iload hx hb dX5_item_89 (lv_at hl 0 rfl) ?_
            refine lv_aload_n hx hb dX5_item_91 rfl (lv_at hl 4 rfl) ?_
            refine m_get hx hb hts hin hown hK hP 11 (by decide) (hts (.fieldLink RX5 194 "PennyRoadModel" "isWrong" "Z") (by decide +kernel)) rfl dX5_item_92 ?_
            have K_11 : ∀ (x_12 : Int32) (H : Heap) (locs : List Loc) (ls : Array Slot), x_12 = (if S_10.2.2.2.1 = true then ((S_10.1) 2) else S_10.2.2.2.2) → va_P D vwCl (mw cy ad S_10.1 kS ot asd stt ik tp (nI T) (nI S_10.2.1) (nI S_10.2.2.1) S_10.2.2.2.2 (z (S_10.2.2.2.1 = true)) bo so nu mv) H → va_S (mA ad) s0.heap H locs → lv_has ls 6 [(5, .int (nI 2)), (4, .int (nI 1)), (2, .long (wordF tp T (sr, f, t, wb, vl))), (1, .int (kindF (wordF tp T (sr, f, t, wb, vl)))), (0, .ref (ad 0))] → W p l e (rmz 7 159) s0 m args below meth c H locs 0 0 Q (F0 m 112 ls [.int (x_12), .int (nI 2), .ref (ad 1)]) := by
              intro x_12 H locs ls ex_12 hP hS hl
              refine m_ast (w' := (mw cy ad (upd S_10.1 2 x_12) kS ot asd stt ik tp (nI T) (nI S_10.2.1) (nI S_10.2.2.1) S_10.2.2.2.2 (z (S_10.2.2.2.1 = true)) bo so nu mv)) hx hb hK hP hS 1 rfl (by decide) (by omega) rfl dX5_item_112 (fun H locs hP hS => ?_)
              refine lv_goto (tgt := 185) hx hb dX5_item_113 (by decide) ?_
              subst hQ
              exact wq_rv hx hb hr hlocks hP hS dX5_item_185 rfl (by subst ex_12; subst hhS_10; subst hhS_9; rw [show itemP tp T N (sr, f, t, wb, vl) = setP tp T 2 9999 (sr, f, t, wb, vl) from (if_pos c_26).trans (if_pos c_15)]; rfl)
            refine lvz_if_eq (tgt := 108) hx hb dX5_item_95 (by decide) (fun c_95 => ?_) (fun c_95 => ?_)
            · skip
              refine lv_aload_n hx hb dX5_item_108 rfl (lv_at hl 4 rfl) ?_
              refine m_get hx hb hts hin hown hK hP 10 (by decide) (hts (.fieldLink RX5 205 "PennyRoadModel" "value" "I") (by decide +kernel)) rfl dX5_item_109 ?_
              exact K_11 (S_10.2.2.2.2) _ _ ls (by simp only [if_neg c_95]) hP hS hl
            · skip
              refine lv_aload_n hx hb dX5_item_98 rfl (lv_at hl 4 rfl) ?_
              refine m_get hx hb hts hin hown hK hP 0 (by decide) (hts (.fieldLink RX5 7 "PennyRoadModel" "s" "[I") (by decide +kernel)) rfl dX5_item_99 ?_
              refine lv_iload hx hb dX5_item_102 (lv_at hl 0 rfl) ?_
              refine m_ald hx hb hK hP 1 rfl (by decide) (by omega) dX5_item_104 ?_
              refine lv_goto (tgt := 112) hx hb dX5_item_105 (by decide) ?_
              exact K_11 ((S_10.1) 2) _ _ ls (by simp only [if_pos c_95]) hP hS hl
      · skip
        exact absurd c_39 (by decide)
    · skip
      refine lv_aload_n hx hb dX5_item_29 rfl (lv_at hl 3 rfl) ?_
      refine lv_iload_n hx hb dX5_item_30 rfl (lv_at hl 2 rfl) ?_
      refine wq_V S mK_ok hK hP hS (c_X5_walkerItem hT2 hok hN h8) gX5_item_X5_walkerItem i_X5_walkerItem rfl (m_rec hK hP) ⟨Nat.le_of_ble_eq_true rfl, Nat.le_of_ble_eq_true rfl⟩ rfl hl.1 (As := [.int (kindF (wordF tp T (sr, f, t, wb, vl)))]) (rest := []) (st1 := []) rfl rfl (Nat.le_of_ble_eq_true rfl) ⟨Nat.le_of_ble_eq_true rfl, Nat.le_of_ble_eq_true rfl⟩ dX5_item_31 (fun H locs hP hS => ?_)
      generalize hhS_13 : walkP tp T N (kindF (wordF tp T (sr, f, t, wb, vl))) (sr, f, t, wb, vl) = S_13 at hP
      have hokS_13 : okS T S_13 := by rw [← hhS_13]; exact walkP_ok hok
      refine lv_goto (tgt := 185) hx hb dX5_item_34 (by decide) ?_
      subst hQ
      exact wq_rv hx hb hr hlocks hP hS dX5_item_185 rfl (by subst hhS_13; rw [show itemP tp T N (sr, f, t, wb, vl) = walkP tp T N (kindF (wordF tp T (sr, f, t, wb, vl))) (sr, f, t, wb, vl) from if_neg c_26])
theorem i_X5_item : ciOk yX5_item cX5_item 6 none wsX5_item 0 := ⟨⟨_, rfl⟩, by decide +kernel⟩
set_option maxHeartbeats 1000000 in
set_option maxRecDepth 100000 in
theorem c_X5_text {l : Launch} {D : va_G} {cy : Nat → ClassId} {ad : Nat → Nat} {sr : Nat → Int32} {kS : Nat → Int32} {ot : Nat → Int32} {asd : Nat → Int32} {stt : Nat → Int32} {ik : Int32} {tp : Nat → Int32} {fr : Int32} {tt : Int32} {vl : Int32} {wr : Int32} {bo : Nat → Int32} {so : Nat → Int32} {nu : Nat → Int64} {mv : Nat → Int64} {T : Nat} {N : Nat} (hT2 : T ≤ 120) (hN : sr 0 = nI N) (h8 : N ≤ 8) : Met l yX5_text wsX5_text (rmz 8 184) (wPre D (mK D cy ad) (mw cy ad sr kS ot asd stt ik tp (nI T) fr tt vl wr bo so nu mv) [.ref (ad 0)]) (mPub D cy ad (some (.int (if (textP tp T T (itemP tp T N (sr, tokA tp T 0, tokB tp T 0, false, vl)) 1).1.2.2.2.1 = true ∨ (textP tp T T (itemP tp T N (sr, tokA tp T 0, tokB tp T 0, false, vl)) 1).1.2.1 < T then -1 - nI (textP tp T T (itemP tp T N (sr, tokA tp T 0, tokB tp T 0, false, vl)) 1).1.2.1 else nI (textP tp T T (itemP tp T N (sr, tokA tp T 0, tokB tp T 0, false, vl)) 1).2))) (if (textP tp T T (itemP tp T N (sr, tokA tp T 0, tokB tp T 0, false, vl)) 1).1.2.2.2.1 = true ∨ (textP tp T T (itemP tp T N (sr, tokA tp T 0, tokB tp T 0, false, vl)) 1).1.2.1 < T then sr else (textP tp T T (itemP tp T N (sr, tokA tp T 0, tokB tp T 0, false, vl)) 1).1.1) kS stt ik tp (nI 0) bo so nu) 0 0 (mA ad) := by
  refine wq_entry rfl rfl (Nat.le_of_ble_eq_true rfl) ?_
  intro p e s0 m args below meth c S hr hlocks hK hP ls hl
  have S : CallFix p m c cX5_text 2 s0 args wsX5_text RX5 := S
  obtain ⟨hx, hb, hml, hown, hts⟩ := id S
  have hin : ∀ w ∈ wsX50, w ∈ wsX5_text := fun w h => List.mem_cons_of_mem _ (List.mem_append_right _ h)
  have hS : va_S (mA ad) s0.heap s0.heap [] := va_S.rf
  have hl : lv_has ls 2 [(0, .ref (ad 0))] := hl
  generalize hQ : MQ below (mPub D cy ad (some (.int (if (textP tp T T (itemP tp T N (sr, tokA tp T 0, tokB tp T 0, false, vl)) 1).1.2.2.2.1 = true ∨ (textP tp T T (itemP tp T N (sr, tokA tp T 0, tokB tp T 0, false, vl)) 1).1.2.1 < T then -1 - nI (textP tp T T (itemP tp T N (sr, tokA tp T 0, tokB tp T 0, false, vl)) 1).1.2.1 else nI (textP tp T T (itemP tp T N (sr, tokA tp T 0, tokB tp T 0, false, vl)) 1).2))) (if (textP tp T T (itemP tp T N (sr, tokA tp T 0, tokB tp T 0, false, vl)) 1).1.2.2.2.1 = true ∨ (textP tp T T (itemP tp T N (sr, tokA tp T 0, tokB tp T 0, false, vl)) 1).1.2.1 < T then sr else (textP tp T T (itemP tp T N (sr, tokA tp T 0, tokB tp T 0, false, vl)) 1).1.1) kS stt ik tp (nI 0) bo so nu) args s0 0 0 (mA ad) = Q
  refine lv_aload_n hx hb dX5_text_0 rfl (lv_at hl 0 rfl) ?_
  refine wq_V S mK_ok hK hP hS (c_X5_saves) gX5_text_X5_saves i_X5_saves rfl (m_rec hK hP) ⟨Nat.le_of_ble_eq_true rfl, Nat.le_of_ble_eq_true rfl⟩ rfl hl.1 (As := []) (rest := []) (st1 := []) rfl rfl (Nat.le_of_ble_eq_true rfl) ⟨Nat.le_of_ble_eq_true rfl, Nat.le_of_ble_eq_true rfl⟩ dX5_text_1 (fun H locs hP hS => ?_)
  refine lv_aload_n hx hb dX5_text_4 rfl (lv_at hl 0 rfl) ?_
  refine lv_iconst (v := nI 0) hx hb dX5_text_5 (by decide) ?_
  refine m_put (w' := (mw cy ad sr kS sr asd stt ik tp (nI T) fr tt vl (nI 0) bo so nu mv)) (ty := .boolean) hx hb hts hin hown hK hP hS 11 (by decide) (hts (.fieldLink RX5 194 "PennyRoadModel" "isWrong" "Z") (by decide +kernel)) rfl (by decide +kernel) rfl rfl rfl dX5_text_6 (fun H locs hP hS => ?_)
  refine lv_aload_n hx hb dX5_text_9 rfl (lv_at hl 0 rfl) ?_
  refine lv_iconst (v := nI 0) hx hb dX5_text_10 (by decide) ?_
  refine m_put (w' := (mw cy ad sr kS sr asd stt ik tp (nI T) fr (nI 0) vl (nI 0) bo so nu mv)) (ty := .int) hx hb hts hin hown hK hP hS 9 (by decide) (hts (.fieldLink RX5 179 "PennyRoadModel" "to" "I") (by decide +kernel)) rfl (by decide +kernel) rfl rfl rfl dX5_text_11 (fun H locs hP hS => ?_)
  refine lv_aload_n hx hb dX5_text_14 rfl (lv_at hl 0 rfl) ?_
  refine wq_V S mK_ok hK hP hS (c_X5_token hT2 (by omega)) gX5_text_X5_token i_X5_token rfl (m_rec hK hP) ⟨Nat.le_of_ble_eq_true rfl, Nat.le_of_ble_eq_true rfl⟩ rfl hl.1 (As := []) (rest := []) (st1 := []) rfl rfl (Nat.le_of_ble_eq_true rfl) ⟨Nat.le_of_ble_eq_true rfl, Nat.le_of_ble_eq_true rfl⟩ dX5_text_15 (fun H locs hP hS => ?_)
  refine lv_iconst (v := nI 1) hx hb dX5_text_18 (by decide) ?_
  refine lv_istore_n (lv' := [(1, .int (nI 1)), (0, .ref (ad 0))]) hx hb dX5_text_19 rfl hl (by decide) rfl (fun ls hl => ?_)
  have hb0 := tokB_in (tp := tp) (T := T) (t := 0) (by omega)
  have hok : okS T (sr, tokA tp T 0, tokB tp T 0, false, vl) := ⟨hb0.1, hb0.2.1, hb0.2.2, N, h8, hN⟩
  refine lv_aload_n hx hb dX5_text_20 rfl (lv_at hl 1 rfl) ?_
  refine wq_V S mK_ok hK hP hS (c_X5_item (wb := false) hT2 hok hN h8) gX5_text_X5_item i_X5_item rfl (m_rec hK hP) ⟨Nat.le_of_ble_eq_true rfl, Nat.le_of_ble_eq_true rfl⟩ rfl hl.1 (As := []) (rest := []) (st1 := []) rfl rfl (Nat.le_of_ble_eq_true rfl) ⟨Nat.le_of_ble_eq_true rfl, Nat.le_of_ble_eq_true rfl⟩ dX5_text_21 (fun H locs hP hS => ?_)
  generalize hhS_1 : itemP tp T N (sr, tokA tp T 0, tokB tp T 0, false, vl) = S_1 at hP
  have hokS_1 : okS T S_1 := by rw [← hhS_1]; exact itemP_ok hok
  have hS_0 : itemP tp T N (sr, tokA tp T 0, tokB tp T 0, false, vl) = S_1 := hhS_1
  have L_24 : ∀ (n : Nat) (Sv : PS) (k : Nat) (H : Heap) (locs : List Loc) (ls : Array Slot), (okS T Sv) → (T - Sv.2.1 ≤ n) → (textP tp T T (itemP tp T N (sr, tokA tp T 0, tokB tp T 0, false, vl)) 1 = textP tp T n Sv k) → va_P D vwCl (mw cy ad Sv.1 kS sr asd stt ik tp (nI T) (nI Sv.2.1) (nI Sv.2.2.1) Sv.2.2.2.2 (z (Sv.2.2.2.1 = true)) bo so nu mv) H → va_S (mA ad) s0.heap H locs → lv_has ls 2 [(1, .int (nI k)), (0, .ref (ad 0))] → W p l e (rmz 8 184) s0 m args below meth c H locs 0 0 Q (F0 m 24 ls []) := by
    intro n
    induction n with
    | zero =>
      intro Sv k H locs ls hok hfn hF hP hS hl
      have hfs := hok.1
      have hts2 := hok.2.1
      refine lv_aload_n hx hb dX5_text_24 rfl (lv_at hl 1 rfl) ?_
      refine m_get hx hb hts hin hown hK hP 11 (by decide) (hts (.fieldLink RX5 194 "PennyRoadModel" "isWrong" "Z") (by decide +kernel)) rfl dX5_text_25 ?_
      refine lvz_if_ne (tgt := 59) hx hb dX5_text_28 (by decide) (fun c_28 => ?_) (fun c_28 => ?_)
      · skip
        have hE : textP tp T T (itemP tp T N (sr, tokA tp T 0, tokB tp T 0, false, vl)) 1 = (Sv, k) := by first | exact hF | exact hF.trans (if_pos c_28) | exact hF.trans ((if_neg c_28).trans (if_neg c_41))
        refine lv_aload_n hx hb dX5_text_59 rfl (lv_at hl 1 rfl) ?_
        refine lv_aload_n hx hb dX5_text_60 rfl (lv_at hl 1 rfl) ?_
        refine m_get hx hb hts hin hown hK hP 11 (by decide) (hts (.fieldLink RX5 194 "PennyRoadModel" "isWrong" "Z") (by decide +kernel)) rfl dX5_text_61 ?_
        refine lvz_if_ne (tgt := 78) hx hb dX5_text_64 (by decide) (fun c_64 => ?_) (fun c_64 => ?_)
        · skip
          refine lv_iconst (v := nI 1) hx hb dX5_text_78 (by decide) ?_
          refine lv_goto (tgt := 83) hx hb dX5_text_79 (by decide) ?_
          refine m_put (w' := (mw cy ad Sv.1 kS sr asd stt ik tp (nI T) (nI Sv.2.1) (nI Sv.2.2.1) Sv.2.2.2.2 (nI 1) bo so nu mv)) (ty := .boolean) hx hb hts hin hown hK hP hS 11 (by decide) (hts (.fieldLink RX5 194 "PennyRoadModel" "isWrong" "Z") (by decide +kernel)) rfl (by decide +kernel) rfl rfl rfl dX5_text_83 (fun H locs hP hS => ?_)
          refine lv_aload_n hx hb dX5_text_86 rfl (lv_at hl 1 rfl) ?_
          refine m_get hx hb hts hin hown hK hP 11 (by decide) (hts (.fieldLink RX5 194 "PennyRoadModel" "isWrong" "Z") (by decide +kernel)) rfl dX5_text_87 ?_
          refine lv_if_eq (tgt := 97) hx hb dX5_text_90 (by decide) (fun c_90 => ?_) (fun c_90 => ?_)
          · skip
            exact absurd c_90 (by decide)
          · skip
            refine lv_aload_n hx hb dX5_text_93 rfl (lv_at hl 1 rfl) ?_
            refine wq_V S mK_ok hK hP hS (c_X5_putsBack) gX5_text_X5_putsBack i_X5_putsBack rfl (m_rec hK hP) ⟨Nat.le_of_ble_eq_true rfl, Nat.le_of_ble_eq_true rfl⟩ rfl hl.1 (As := []) (rest := []) (st1 := []) rfl rfl (Nat.le_of_ble_eq_true rfl) ⟨Nat.le_of_ble_eq_true rfl, Nat.le_of_ble_eq_true rfl⟩ dX5_text_94 (fun H locs hP hS => ?_)
            refine lv_aload_n hx hb dX5_text_97 rfl (lv_at hl 1 rfl) ?_
            refine lv_iconst (v := nI 0) hx hb dX5_text_98 (by decide) ?_
            refine m_put (w' := (mw cy ad sr kS sr asd stt ik tp (nI 0) (nI Sv.2.1) (nI Sv.2.2.1) Sv.2.2.2.2 (nI 1) bo so nu mv)) (ty := .int) hx hb hts hin hown hK hP hS 7 (by decide) (hts (.fieldLink RX5 167 "PennyRoadModel" "taped" "I") (by decide +kernel)) rfl (by decide +kernel) rfl rfl rfl dX5_text_99 (fun H locs hP hS => ?_)
            refine lv_aload_n hx hb dX5_text_102 rfl (lv_at hl 1 rfl) ?_
            refine m_get hx hb hts hin hown hK hP 11 (by decide) (hts (.fieldLink RX5 194 "PennyRoadModel" "isWrong" "Z") (by decide +kernel)) rfl dX5_text_103 ?_
            refine lv_if_eq (tgt := 118) hx hb dX5_text_106 (by decide) (fun c_106 => ?_) (fun c_106 => ?_)
            · skip
              exact absurd c_106 (by decide)
            · skip
              refine lv_iconst (v := (-1)) hx hb dX5_text_109 (by decide) ?_
              refine lv_aload_n hx hb dX5_text_110 rfl (lv_at hl 1 rfl) ?_
              refine m_get hx hb hts hin hown hK hP 8 (by decide) (hts (.fieldLink RX5 182 "PennyRoadModel" "from" "I") (by decide +kernel)) rfl dX5_text_111 ?_
              refine lv_isub hx hb dX5_text_114 ?_
              refine lv_goto (tgt := 119) hx hb dX5_text_115 (by decide) ?_
              subst hQ
              exact mp_ri hx hb hr hlocks hP hS dX5_text_119 (by rw [hE]; first | rw [if_pos (show ((Sv, k).1.2.2.2.1 = true ∨ (Sv, k).1.2.1 < T) from Or.inl c_64)] | rfl) (by rw [hE]; first | rw [if_pos (show ((Sv, k).1.2.2.2.1 = true ∨ (Sv, k).1.2.1 < T) from Or.inl c_64)] | rfl)
        · skip
          refine lv_aload_n hx hb dX5_text_67 rfl (lv_at hl 1 rfl) ?_
          refine m_get hx hb hts hin hown hK hP 8 (by decide) (hts (.fieldLink RX5 182 "PennyRoadModel" "from" "I") (by decide +kernel)) rfl dX5_text_68 ?_
          refine lv_aload_n hx hb dX5_text_71 rfl (lv_at hl 1 rfl) ?_
          refine m_get hx hb hts hin hown hK hP 7 (by decide) (hts (.fieldLink RX5 167 "PennyRoadModel" "taped" "I") (by decide +kernel)) rfl dX5_text_72 ?_
          refine lvn_icmp_ge (tgt := 82) hx hb dX5_text_75 (by decide) (by omega) (by omega) (fun c_75 => ?_) (fun c_75 => ?_)
          · skip
            refine lv_iconst (v := nI 0) hx hb dX5_text_82 (by decide) ?_
            refine m_put (w' := (mw cy ad Sv.1 kS sr asd stt ik tp (nI T) (nI Sv.2.1) (nI Sv.2.2.1) Sv.2.2.2.2 (nI 0) bo so nu mv)) (ty := .boolean) hx hb hts hin hown hK hP hS 11 (by decide) (hts (.fieldLink RX5 194 "PennyRoadModel" "isWrong" "Z") (by decide +kernel)) rfl (by decide +kernel) rfl rfl rfl dX5_text_83 (fun H locs hP hS => ?_)
            refine lv_aload_n hx hb dX5_text_86 rfl (lv_at hl 1 rfl) ?_
            refine m_get hx hb hts hin hown hK hP 11 (by decide) (hts (.fieldLink RX5 194 "PennyRoadModel" "isWrong" "Z") (by decide +kernel)) rfl dX5_text_87 ?_
            refine lv_if_eq (tgt := 97) hx hb dX5_text_90 (by decide) (fun c_90 => ?_) (fun c_90 => ?_)
            · skip
              refine lv_aload_n hx hb dX5_text_97 rfl (lv_at hl 1 rfl) ?_
              refine lv_iconst (v := nI 0) hx hb dX5_text_98 (by decide) ?_
              refine m_put (w' := (mw cy ad Sv.1 kS sr asd stt ik tp (nI 0) (nI Sv.2.1) (nI Sv.2.2.1) Sv.2.2.2.2 (nI 0) bo so nu mv)) (ty := .int) hx hb hts hin hown hK hP hS 7 (by decide) (hts (.fieldLink RX5 167 "PennyRoadModel" "taped" "I") (by decide +kernel)) rfl (by decide +kernel) rfl rfl rfl dX5_text_99 (fun H locs hP hS => ?_)
              refine lv_aload_n hx hb dX5_text_102 rfl (lv_at hl 1 rfl) ?_
              refine m_get hx hb hts hin hown hK hP 11 (by decide) (hts (.fieldLink RX5 194 "PennyRoadModel" "isWrong" "Z") (by decide +kernel)) rfl dX5_text_103 ?_
              refine lv_if_eq (tgt := 118) hx hb dX5_text_106 (by decide) (fun c_106 => ?_) (fun c_106 => ?_)
              · skip
                refine lv_iload_n hx hb dX5_text_118 rfl (lv_at hl 0 rfl) ?_
                subst hQ
                exact mp_ri hx hb hr hlocks hP hS dX5_text_119 (by rw [hE]; first | rw [if_neg (show ¬ ((Sv, k).1.2.2.2.1 = true ∨ (Sv, k).1.2.1 < T) from (fun h9 => h9.elim c_64 (fun h9 => absurd c_75 (Nat.not_le.mpr h9))))] | rfl) (by rw [hE]; first | rw [if_neg (show ¬ ((Sv, k).1.2.2.2.1 = true ∨ (Sv, k).1.2.1 < T) from (fun h9 => h9.elim c_64 (fun h9 => absurd c_75 (Nat.not_le.mpr h9))))] | rfl)
              · skip
                exact absurd c_106 (by decide)
            · skip
              exact absurd c_90 (by decide)
          · skip
            refine lv_iconst (v := nI 1) hx hb dX5_text_78 (by decide) ?_
            refine lv_goto (tgt := 83) hx hb dX5_text_79 (by decide) ?_
            refine m_put (w' := (mw cy ad Sv.1 kS sr asd stt ik tp (nI T) (nI Sv.2.1) (nI Sv.2.2.1) Sv.2.2.2.2 (nI 1) bo so nu mv)) (ty := .boolean) hx hb hts hin hown hK hP hS 11 (by decide) (hts (.fieldLink RX5 194 "PennyRoadModel" "isWrong" "Z") (by decide +kernel)) rfl (by decide +kernel) rfl rfl rfl dX5_text_83 (fun H locs hP hS => ?_)
            refine lv_aload_n hx hb dX5_text_86 rfl (lv_at hl 1 rfl) ?_
            refine m_get hx hb hts hin hown hK hP 11 (by decide) (hts (.fieldLink RX5 194 "PennyRoadModel" "isWrong" "Z") (by decide +kernel)) rfl dX5_text_87 ?_
            refine lv_if_eq (tgt := 97) hx hb dX5_text_90 (by decide) (fun c_90 => ?_) (fun c_90 => ?_)
            · skip
              exact absurd c_90 (by decide)
            · skip
              refine lv_aload_n hx hb dX5_text_93 rfl (lv_at hl 1 rfl) ?_
              refine wq_V S mK_ok hK hP hS (c_X5_putsBack) gX5_text_X5_putsBack i_X5_putsBack rfl (m_rec hK hP) ⟨Nat.le_of_ble_eq_true rfl, Nat.le_of_ble_eq_true rfl⟩ rfl hl.1 (As := []) (rest := []) (st1 := []) rfl rfl (Nat.le_of_ble_eq_true rfl) ⟨Nat.le_of_ble_eq_true rfl, Nat.le_of_ble_eq_true rfl⟩ dX5_text_94 (fun H locs hP hS => ?_)
              refine lv_aload_n hx hb dX5_text_97 rfl (lv_at hl 1 rfl) ?_
              refine lv_iconst (v := nI 0) hx hb dX5_text_98 (by decide) ?_
              refine m_put (w' := (mw cy ad sr kS sr asd stt ik tp (nI 0) (nI Sv.2.1) (nI Sv.2.2.1) Sv.2.2.2.2 (nI 1) bo so nu mv)) (ty := .int) hx hb hts hin hown hK hP hS 7 (by decide) (hts (.fieldLink RX5 167 "PennyRoadModel" "taped" "I") (by decide +kernel)) rfl (by decide +kernel) rfl rfl rfl dX5_text_99 (fun H locs hP hS => ?_)
              refine lv_aload_n hx hb dX5_text_102 rfl (lv_at hl 1 rfl) ?_
              refine m_get hx hb hts hin hown hK hP 11 (by decide) (hts (.fieldLink RX5 194 "PennyRoadModel" "isWrong" "Z") (by decide +kernel)) rfl dX5_text_103 ?_
              refine lv_if_eq (tgt := 118) hx hb dX5_text_106 (by decide) (fun c_106 => ?_) (fun c_106 => ?_)
              · skip
                exact absurd c_106 (by decide)
              · skip
                refine lv_iconst (v := (-1)) hx hb dX5_text_109 (by decide) ?_
                refine lv_aload_n hx hb dX5_text_110 rfl (lv_at hl 1 rfl) ?_
                refine m_get hx hb hts hin hown hK hP 8 (by decide) (hts (.fieldLink RX5 182 "PennyRoadModel" "from" "I") (by decide +kernel)) rfl dX5_text_111 ?_
                refine lv_isub hx hb dX5_text_114 ?_
                refine lv_goto (tgt := 119) hx hb dX5_text_115 (by decide) ?_
                subst hQ
                exact mp_ri hx hb hr hlocks hP hS dX5_text_119 (by rw [hE]; first | rw [if_pos (show ((Sv, k).1.2.2.2.1 = true ∨ (Sv, k).1.2.1 < T) from Or.inr (Nat.not_le.mp c_75))] | rfl) (by rw [hE]; first | rw [if_pos (show ((Sv, k).1.2.2.2.1 = true ∨ (Sv, k).1.2.1 < T) from Or.inr (Nat.not_le.mp c_75))] | rfl)
      · skip
        refine lv_aload_n hx hb dX5_text_31 rfl (lv_at hl 1 rfl) ?_
        refine lv_aload_n hx hb dX5_text_32 rfl (lv_at hl 1 rfl) ?_
        refine m_get hx hb hts hin hown hK hP 8 (by decide) (hts (.fieldLink RX5 182 "PennyRoadModel" "from" "I") (by decide +kernel)) rfl dX5_text_33 ?_
        refine wq_V S mK_ok hK hP hS (c_X5_byteAt hT2 (by omega)) gX5_text_X5_byteAt i_X5_byteAt rfl (m_rec hK hP) ⟨Nat.le_of_ble_eq_true rfl, Nat.le_of_ble_eq_true rfl⟩ rfl hl.1 (As := [.int (nI (Sv.2.1))]) (rest := []) (st1 := [.int (bAt tp T (Sv.2.1))]) rfl rfl (Nat.le_of_ble_eq_true rfl) ⟨Nat.le_of_ble_eq_true rfl, Nat.le_of_ble_eq_true rfl⟩ dX5_text_36 (fun H locs hP hS => ?_)
        refine lv_bipush (v := nI 59) hx hb dX5_text_39 (by decide) ?_
        refine lv_icmp_ne (tgt := 59) hx hb dX5_text_41 (by decide) (fun c_41 => ?_) (fun c_41 => ?_)
        · skip
          have hE : textP tp T T (itemP tp T N (sr, tokA tp T 0, tokB tp T 0, false, vl)) 1 = (Sv, k) := by first | exact hF | exact hF.trans (if_pos c_28) | exact hF.trans ((if_neg c_28).trans (if_neg c_41))
          refine lv_aload_n hx hb dX5_text_59 rfl (lv_at hl 1 rfl) ?_
          refine lv_aload_n hx hb dX5_text_60 rfl (lv_at hl 1 rfl) ?_
          refine m_get hx hb hts hin hown hK hP 11 (by decide) (hts (.fieldLink RX5 194 "PennyRoadModel" "isWrong" "Z") (by decide +kernel)) rfl dX5_text_61 ?_
          refine lvz_if_ne (tgt := 78) hx hb dX5_text_64 (by decide) (fun c_64 => ?_) (fun c_64 => ?_)
          · skip
            refine lv_iconst (v := nI 1) hx hb dX5_text_78 (by decide) ?_
            refine lv_goto (tgt := 83) hx hb dX5_text_79 (by decide) ?_
            refine m_put (w' := (mw cy ad Sv.1 kS sr asd stt ik tp (nI T) (nI Sv.2.1) (nI Sv.2.2.1) Sv.2.2.2.2 (nI 1) bo so nu mv)) (ty := .boolean) hx hb hts hin hown hK hP hS 11 (by decide) (hts (.fieldLink RX5 194 "PennyRoadModel" "isWrong" "Z") (by decide +kernel)) rfl (by decide +kernel) rfl rfl rfl dX5_text_83 (fun H locs hP hS => ?_)
            refine lv_aload_n hx hb dX5_text_86 rfl (lv_at hl 1 rfl) ?_
            refine m_get hx hb hts hin hown hK hP 11 (by decide) (hts (.fieldLink RX5 194 "PennyRoadModel" "isWrong" "Z") (by decide +kernel)) rfl dX5_text_87 ?_
            refine lv_if_eq (tgt := 97) hx hb dX5_text_90 (by decide) (fun c_90 => ?_) (fun c_90 => ?_)
            · skip
              exact absurd c_90 (by decide)
            · skip
              refine lv_aload_n hx hb dX5_text_93 rfl (lv_at hl 1 rfl) ?_
              refine wq_V S mK_ok hK hP hS (c_X5_putsBack) gX5_text_X5_putsBack i_X5_putsBack rfl (m_rec hK hP) ⟨Nat.le_of_ble_eq_true rfl, Nat.le_of_ble_eq_true rfl⟩ rfl hl.1 (As := []) (rest := []) (st1 := []) rfl rfl (Nat.le_of_ble_eq_true rfl) ⟨Nat.le_of_ble_eq_true rfl, Nat.le_of_ble_eq_true rfl⟩ dX5_text_94 (fun H locs hP hS => ?_)
              refine lv_aload_n hx hb dX5_text_97 rfl (lv_at hl 1 rfl) ?_
              refine lv_iconst (v := nI 0) hx hb dX5_text_98 (by decide) ?_
              refine m_put (w' := (mw cy ad sr kS sr asd stt ik tp (nI 0) (nI Sv.2.1) (nI Sv.2.2.1) Sv.2.2.2.2 (nI 1) bo so nu mv)) (ty := .int) hx hb hts hin hown hK hP hS 7 (by decide) (hts (.fieldLink RX5 167 "PennyRoadModel" "taped" "I") (by decide +kernel)) rfl (by decide +kernel) rfl rfl rfl dX5_text_99 (fun H locs hP hS => ?_)
              refine lv_aload_n hx hb dX5_text_102 rfl (lv_at hl 1 rfl) ?_
              refine m_get hx hb hts hin hown hK hP 11 (by decide) (hts (.fieldLink RX5 194 "PennyRoadModel" "isWrong" "Z") (by decide +kernel)) rfl dX5_text_103 ?_
              refine lv_if_eq (tgt := 118) hx hb dX5_text_106 (by decide) (fun c_106 => ?_) (fun c_106 => ?_)
              · skip
                exact absurd c_106 (by decide)
              · skip
                refine lv_iconst (v := (-1)) hx hb dX5_text_109 (by decide) ?_
                refine lv_aload_n hx hb dX5_text_110 rfl (lv_at hl 1 rfl) ?_
                refine m_get hx hb hts hin hown hK hP 8 (by decide) (hts (.fieldLink RX5 182 "PennyRoadModel" "from" "I") (by decide +kernel)) rfl dX5_text_111 ?_
                refine lv_isub hx hb dX5_text_114 ?_
                refine lv_goto (tgt := 119) hx hb dX5_text_115 (by decide) ?_
                subst hQ
                exact mp_ri hx hb hr hlocks hP hS dX5_text_119 (by rw [hE]; first | rw [if_pos (show ((Sv, k).1.2.2.2.1 = true ∨ (Sv, k).1.2.1 < T) from Or.inl c_64)] | rfl) (by rw [hE]; first | rw [if_pos (show ((Sv, k).1.2.2.2.1 = true ∨ (Sv, k).1.2.1 < T) from Or.inl c_64)] | rfl)
          · skip
            refine lv_aload_n hx hb dX5_text_67 rfl (lv_at hl 1 rfl) ?_
            refine m_get hx hb hts hin hown hK hP 8 (by decide) (hts (.fieldLink RX5 182 "PennyRoadModel" "from" "I") (by decide +kernel)) rfl dX5_text_68 ?_
            refine lv_aload_n hx hb dX5_text_71 rfl (lv_at hl 1 rfl) ?_
            refine m_get hx hb hts hin hown hK hP 7 (by decide) (hts (.fieldLink RX5 167 "PennyRoadModel" "taped" "I") (by decide +kernel)) rfl dX5_text_72 ?_
            refine lvn_icmp_ge (tgt := 82) hx hb dX5_text_75 (by decide) (by omega) (by omega) (fun c_75 => ?_) (fun c_75 => ?_)
            · skip
              refine lv_iconst (v := nI 0) hx hb dX5_text_82 (by decide) ?_
              refine m_put (w' := (mw cy ad Sv.1 kS sr asd stt ik tp (nI T) (nI Sv.2.1) (nI Sv.2.2.1) Sv.2.2.2.2 (nI 0) bo so nu mv)) (ty := .boolean) hx hb hts hin hown hK hP hS 11 (by decide) (hts (.fieldLink RX5 194 "PennyRoadModel" "isWrong" "Z") (by decide +kernel)) rfl (by decide +kernel) rfl rfl rfl dX5_text_83 (fun H locs hP hS => ?_)
              refine lv_aload_n hx hb dX5_text_86 rfl (lv_at hl 1 rfl) ?_
              refine m_get hx hb hts hin hown hK hP 11 (by decide) (hts (.fieldLink RX5 194 "PennyRoadModel" "isWrong" "Z") (by decide +kernel)) rfl dX5_text_87 ?_
              refine lv_if_eq (tgt := 97) hx hb dX5_text_90 (by decide) (fun c_90 => ?_) (fun c_90 => ?_)
              · skip
                refine lv_aload_n hx hb dX5_text_97 rfl (lv_at hl 1 rfl) ?_
                refine lv_iconst (v := nI 0) hx hb dX5_text_98 (by decide) ?_
                refine m_put (w' := (mw cy ad Sv.1 kS sr asd stt ik tp (nI 0) (nI Sv.2.1) (nI Sv.2.2.1) Sv.2.2.2.2 (nI 0) bo so nu mv)) (ty := .int) hx hb hts hin hown hK hP hS 7 (by decide) (hts (.fieldLink RX5 167 "PennyRoadModel" "taped" "I") (by decide +kernel)) rfl (by decide +kernel) rfl rfl rfl dX5_text_99 (fun H locs hP hS => ?_)
                refine lv_aload_n hx hb dX5_text_102 rfl (lv_at hl 1 rfl) ?_
                refine m_get hx hb hts hin hown hK hP 11 (by decide) (hts (.fieldLink RX5 194 "PennyRoadModel" "isWrong" "Z") (by decide +kernel)) rfl dX5_text_103 ?_
                refine lv_if_eq (tgt := 118) hx hb dX5_text_106 (by decide) (fun c_106 => ?_) (fun c_106 => ?_)
                · skip
                  refine lv_iload_n hx hb dX5_text_118 rfl (lv_at hl 0 rfl) ?_
                  subst hQ
                  exact mp_ri hx hb hr hlocks hP hS dX5_text_119 (by rw [hE]; first | rw [if_neg (show ¬ ((Sv, k).1.2.2.2.1 = true ∨ (Sv, k).1.2.1 < T) from (fun h9 => h9.elim c_64 (fun h9 => absurd c_75 (Nat.not_le.mpr h9))))] | rfl) (by rw [hE]; first | rw [if_neg (show ¬ ((Sv, k).1.2.2.2.1 = true ∨ (Sv, k).1.2.1 < T) from (fun h9 => h9.elim c_64 (fun h9 => absurd c_75 (Nat.not_le.mpr h9))))] | rfl)
                · skip
                  exact absurd c_106 (by decide)
              · skip
                exact absurd c_90 (by decide)
            · skip
              refine lv_iconst (v := nI 1) hx hb dX5_text_78 (by decide) ?_
              refine lv_goto (tgt := 83) hx hb dX5_text_79 (by decide) ?_
              refine m_put (w' := (mw cy ad Sv.1 kS sr asd stt ik tp (nI T) (nI Sv.2.1) (nI Sv.2.2.1) Sv.2.2.2.2 (nI 1) bo so nu mv)) (ty := .boolean) hx hb hts hin hown hK hP hS 11 (by decide) (hts (.fieldLink RX5 194 "PennyRoadModel" "isWrong" "Z") (by decide +kernel)) rfl (by decide +kernel) rfl rfl rfl dX5_text_83 (fun H locs hP hS => ?_)
              refine lv_aload_n hx hb dX5_text_86 rfl (lv_at hl 1 rfl) ?_
              refine m_get hx hb hts hin hown hK hP 11 (by decide) (hts (.fieldLink RX5 194 "PennyRoadModel" "isWrong" "Z") (by decide +kernel)) rfl dX5_text_87 ?_
              refine lv_if_eq (tgt := 97) hx hb dX5_text_90 (by decide) (fun c_90 => ?_) (fun c_90 => ?_)
              · skip
                exact absurd c_90 (by decide)
              · skip
                refine lv_aload_n hx hb dX5_text_93 rfl (lv_at hl 1 rfl) ?_
                refine wq_V S mK_ok hK hP hS (c_X5_putsBack) gX5_text_X5_putsBack i_X5_putsBack rfl (m_rec hK hP) ⟨Nat.le_of_ble_eq_true rfl, Nat.le_of_ble_eq_true rfl⟩ rfl hl.1 (As := []) (rest := []) (st1 := []) rfl rfl (Nat.le_of_ble_eq_true rfl) ⟨Nat.le_of_ble_eq_true rfl, Nat.le_of_ble_eq_true rfl⟩ dX5_text_94 (fun H locs hP hS => ?_)
                refine lv_aload_n hx hb dX5_text_97 rfl (lv_at hl 1 rfl) ?_
                refine lv_iconst (v := nI 0) hx hb dX5_text_98 (by decide) ?_
                refine m_put (w' := (mw cy ad sr kS sr asd stt ik tp (nI 0) (nI Sv.2.1) (nI Sv.2.2.1) Sv.2.2.2.2 (nI 1) bo so nu mv)) (ty := .int) hx hb hts hin hown hK hP hS 7 (by decide) (hts (.fieldLink RX5 167 "PennyRoadModel" "taped" "I") (by decide +kernel)) rfl (by decide +kernel) rfl rfl rfl dX5_text_99 (fun H locs hP hS => ?_)
                refine lv_aload_n hx hb dX5_text_102 rfl (lv_at hl 1 rfl) ?_
                refine m_get hx hb hts hin hown hK hP 11 (by decide) (hts (.fieldLink RX5 194 "PennyRoadModel" "isWrong" "Z") (by decide +kernel)) rfl dX5_text_103 ?_
                refine lv_if_eq (tgt := 118) hx hb dX5_text_106 (by decide) (fun c_106 => ?_) (fun c_106 => ?_)
                · skip
                  exact absurd c_106 (by decide)
                · skip
                  refine lv_iconst (v := (-1)) hx hb dX5_text_109 (by decide) ?_
                  refine lv_aload_n hx hb dX5_text_110 rfl (lv_at hl 1 rfl) ?_
                  refine m_get hx hb hts hin hown hK hP 8 (by decide) (hts (.fieldLink RX5 182 "PennyRoadModel" "from" "I") (by decide +kernel)) rfl dX5_text_111 ?_
                  refine lv_isub hx hb dX5_text_114 ?_
                  refine lv_goto (tgt := 119) hx hb dX5_text_115 (by decide) ?_
                  subst hQ
                  exact mp_ri hx hb hr hlocks hP hS dX5_text_119 (by rw [hE]; first | rw [if_pos (show ((Sv, k).1.2.2.2.1 = true ∨ (Sv, k).1.2.1 < T) from Or.inr (Nat.not_le.mp c_75))] | rfl) (by rw [hE]; first | rw [if_pos (show ((Sv, k).1.2.2.2.1 = true ∨ (Sv, k).1.2.1 < T) from Or.inr (Nat.not_le.mp c_75))] | rfl)
        · skip
          exact absurd (c_41.symm.trans (bAt_T (by omega))) (by decide)
    | succ n ih_24 =>
      intro Sv k H locs ls hok hfn hF hP hS hl
      have hfs := hok.1
      have hts2 := hok.2.1
      refine lv_aload_n hx hb dX5_text_24 rfl (lv_at hl 1 rfl) ?_
      refine m_get hx hb hts hin hown hK hP 11 (by decide) (hts (.fieldLink RX5 194 "PennyRoadModel" "isWrong" "Z") (by decide +kernel)) rfl dX5_text_25 ?_
      refine lvz_if_ne (tgt := 59) hx hb dX5_text_28 (by decide) (fun c_28 => ?_) (fun c_28 => ?_)
      · skip
        have hE : textP tp T T (itemP tp T N (sr, tokA tp T 0, tokB tp T 0, false, vl)) 1 = (Sv, k) := by first | exact hF | exact hF.trans (if_pos c_28) | exact hF.trans ((if_neg c_28).trans (if_neg c_41))
        refine lv_aload_n hx hb dX5_text_59 rfl (lv_at hl 1 rfl) ?_
        refine lv_aload_n hx hb dX5_text_60 rfl (lv_at hl 1 rfl) ?_
        refine m_get hx hb hts hin hown hK hP 11 (by decide) (hts (.fieldLink RX5 194 "PennyRoadModel" "isWrong" "Z") (by decide +kernel)) rfl dX5_text_61 ?_
        refine lvz_if_ne (tgt := 78) hx hb dX5_text_64 (by decide) (fun c_64 => ?_) (fun c_64 => ?_)
        · skip
          refine lv_iconst (v := nI 1) hx hb dX5_text_78 (by decide) ?_
          refine lv_goto (tgt := 83) hx hb dX5_text_79 (by decide) ?_
          refine m_put (w' := (mw cy ad Sv.1 kS sr asd stt ik tp (nI T) (nI Sv.2.1) (nI Sv.2.2.1) Sv.2.2.2.2 (nI 1) bo so nu mv)) (ty := .boolean) hx hb hts hin hown hK hP hS 11 (by decide) (hts (.fieldLink RX5 194 "PennyRoadModel" "isWrong" "Z") (by decide +kernel)) rfl (by decide +kernel) rfl rfl rfl dX5_text_83 (fun H locs hP hS => ?_)
          refine lv_aload_n hx hb dX5_text_86 rfl (lv_at hl 1 rfl) ?_
          refine m_get hx hb hts hin hown hK hP 11 (by decide) (hts (.fieldLink RX5 194 "PennyRoadModel" "isWrong" "Z") (by decide +kernel)) rfl dX5_text_87 ?_
          refine lv_if_eq (tgt := 97) hx hb dX5_text_90 (by decide) (fun c_90 => ?_) (fun c_90 => ?_)
          · skip
            exact absurd c_90 (by decide)
          · skip
            refine lv_aload_n hx hb dX5_text_93 rfl (lv_at hl 1 rfl) ?_
            refine wq_V S mK_ok hK hP hS (c_X5_putsBack) gX5_text_X5_putsBack i_X5_putsBack rfl (m_rec hK hP) ⟨Nat.le_of_ble_eq_true rfl, Nat.le_of_ble_eq_true rfl⟩ rfl hl.1 (As := []) (rest := []) (st1 := []) rfl rfl (Nat.le_of_ble_eq_true rfl) ⟨Nat.le_of_ble_eq_true rfl, Nat.le_of_ble_eq_true rfl⟩ dX5_text_94 (fun H locs hP hS => ?_)
            refine lv_aload_n hx hb dX5_text_97 rfl (lv_at hl 1 rfl) ?_
            refine lv_iconst (v := nI 0) hx hb dX5_text_98 (by decide) ?_
            refine m_put (w' := (mw cy ad sr kS sr asd stt ik tp (nI 0) (nI Sv.2.1) (nI Sv.2.2.1) Sv.2.2.2.2 (nI 1) bo so nu mv)) (ty := .int) hx hb hts hin hown hK hP hS 7 (by decide) (hts (.fieldLink RX5 167 "PennyRoadModel" "taped" "I") (by decide +kernel)) rfl (by decide +kernel) rfl rfl rfl dX5_text_99 (fun H locs hP hS => ?_)
            refine lv_aload_n hx hb dX5_text_102 rfl (lv_at hl 1 rfl) ?_
            refine m_get hx hb hts hin hown hK hP 11 (by decide) (hts (.fieldLink RX5 194 "PennyRoadModel" "isWrong" "Z") (by decide +kernel)) rfl dX5_text_103 ?_
            refine lv_if_eq (tgt := 118) hx hb dX5_text_106 (by decide) (fun c_106 => ?_) (fun c_106 => ?_)
            · skip
              exact absurd c_106 (by decide)
            · skip
              refine lv_iconst (v := (-1)) hx hb dX5_text_109 (by decide) ?_
              refine lv_aload_n hx hb dX5_text_110 rfl (lv_at hl 1 rfl) ?_
              refine m_get hx hb hts hin hown hK hP 8 (by decide) (hts (.fieldLink RX5 182 "PennyRoadModel" "from" "I") (by decide +kernel)) rfl dX5_text_111 ?_
              refine lv_isub hx hb dX5_text_114 ?_
              refine lv_goto (tgt := 119) hx hb dX5_text_115 (by decide) ?_
              subst hQ
              exact mp_ri hx hb hr hlocks hP hS dX5_text_119 (by rw [hE]; first | rw [if_pos (show ((Sv, k).1.2.2.2.1 = true ∨ (Sv, k).1.2.1 < T) from Or.inl c_64)] | rfl) (by rw [hE]; first | rw [if_pos (show ((Sv, k).1.2.2.2.1 = true ∨ (Sv, k).1.2.1 < T) from Or.inl c_64)] | rfl)
        · skip
          refine lv_aload_n hx hb dX5_text_67 rfl (lv_at hl 1 rfl) ?_
          refine m_get hx hb hts hin hown hK hP 8 (by decide) (hts (.fieldLink RX5 182 "PennyRoadModel" "from" "I") (by decide +kernel)) rfl dX5_text_68 ?_
          refine lv_aload_n hx hb dX5_text_71 rfl (lv_at hl 1 rfl) ?_
          refine m_get hx hb hts hin hown hK hP 7 (by decide) (hts (.fieldLink RX5 167 "PennyRoadModel" "taped" "I") (by decide +kernel)) rfl dX5_text_72 ?_
          refine lvn_icmp_ge (tgt := 82) hx hb dX5_text_75 (by decide) (by omega) (by omega) (fun c_75 => ?_) (fun c_75 => ?_)
          · skip
            refine lv_iconst (v := nI 0) hx hb dX5_text_82 (by decide) ?_
            refine m_put (w' := (mw cy ad Sv.1 kS sr asd stt ik tp (nI T) (nI Sv.2.1) (nI Sv.2.2.1) Sv.2.2.2.2 (nI 0) bo so nu mv)) (ty := .boolean) hx hb hts hin hown hK hP hS 11 (by decide) (hts (.fieldLink RX5 194 "PennyRoadModel" "isWrong" "Z") (by decide +kernel)) rfl (by decide +kernel) rfl rfl rfl dX5_text_83 (fun H locs hP hS => ?_)
            refine lv_aload_n hx hb dX5_text_86 rfl (lv_at hl 1 rfl) ?_
            refine m_get hx hb hts hin hown hK hP 11 (by decide) (hts (.fieldLink RX5 194 "PennyRoadModel" "isWrong" "Z") (by decide +kernel)) rfl dX5_text_87 ?_
            refine lv_if_eq (tgt := 97) hx hb dX5_text_90 (by decide) (fun c_90 => ?_) (fun c_90 => ?_)
            · skip
              refine lv_aload_n hx hb dX5_text_97 rfl (lv_at hl 1 rfl) ?_
              refine lv_iconst (v := nI 0) hx hb dX5_text_98 (by decide) ?_
              refine m_put (w' := (mw cy ad Sv.1 kS sr asd stt ik tp (nI 0) (nI Sv.2.1) (nI Sv.2.2.1) Sv.2.2.2.2 (nI 0) bo so nu mv)) (ty := .int) hx hb hts hin hown hK hP hS 7 (by decide) (hts (.fieldLink RX5 167 "PennyRoadModel" "taped" "I") (by decide +kernel)) rfl (by decide +kernel) rfl rfl rfl dX5_text_99 (fun H locs hP hS => ?_)
              refine lv_aload_n hx hb dX5_text_102 rfl (lv_at hl 1 rfl) ?_
              refine m_get hx hb hts hin hown hK hP 11 (by decide) (hts (.fieldLink RX5 194 "PennyRoadModel" "isWrong" "Z") (by decide +kernel)) rfl dX5_text_103 ?_
              refine lv_if_eq (tgt := 118) hx hb dX5_text_106 (by decide) (fun c_106 => ?_) (fun c_106 => ?_)
              · skip
                refine lv_iload_n hx hb dX5_text_118 rfl (lv_at hl 0 rfl) ?_
                subst hQ
                exact mp_ri hx hb hr hlocks hP hS dX5_text_119 (by rw [hE]; first | rw [if_neg (show ¬ ((Sv, k).1.2.2.2.1 = true ∨ (Sv, k).1.2.1 < T) from (fun h9 => h9.elim c_64 (fun h9 => absurd c_75 (Nat.not_le.mpr h9))))] | rfl) (by rw [hE]; first | rw [if_neg (show ¬ ((Sv, k).1.2.2.2.1 = true ∨ (Sv, k).1.2.1 < T) from (fun h9 => h9.elim c_64 (fun h9 => absurd c_75 (Nat.not_le.mpr h9))))] | rfl)
              · skip
                exact absurd c_106 (by decide)
            · skip
              exact absurd c_90 (by decide)
          · skip
            refine lv_iconst (v := nI 1) hx hb dX5_text_78 (by decide) ?_
            refine lv_goto (tgt := 83) hx hb dX5_text_79 (by decide) ?_
            refine m_put (w' := (mw cy ad Sv.1 kS sr asd stt ik tp (nI T) (nI Sv.2.1) (nI Sv.2.2.1) Sv.2.2.2.2 (nI 1) bo so nu mv)) (ty := .boolean) hx hb hts hin hown hK hP hS 11 (by decide) (hts (.fieldLink RX5 194 "PennyRoadModel" "isWrong" "Z") (by decide +kernel)) rfl (by decide +kernel) rfl rfl rfl dX5_text_83 (fun H locs hP hS => ?_)
            refine lv_aload_n hx hb dX5_text_86 rfl (lv_at hl 1 rfl) ?_
            refine m_get hx hb hts hin hown hK hP 11 (by decide) (hts (.fieldLink RX5 194 "PennyRoadModel" "isWrong" "Z") (by decide +kernel)) rfl dX5_text_87 ?_
            refine lv_if_eq (tgt := 97) hx hb dX5_text_90 (by decide) (fun c_90 => ?_) (fun c_90 => ?_)
            · skip
              exact absurd c_90 (by decide)
            · skip
              refine lv_aload_n hx hb dX5_text_93 rfl (lv_at hl 1 rfl) ?_
              refine wq_V S mK_ok hK hP hS (c_X5_putsBack) gX5_text_X5_putsBack i_X5_putsBack rfl (m_rec hK hP) ⟨Nat.le_of_ble_eq_true rfl, Nat.le_of_ble_eq_true rfl⟩ rfl hl.1 (As := []) (rest := []) (st1 := []) rfl rfl (Nat.le_of_ble_eq_true rfl) ⟨Nat.le_of_ble_eq_true rfl, Nat.le_of_ble_eq_true rfl⟩ dX5_text_94 (fun H locs hP hS => ?_)
              refine lv_aload_n hx hb dX5_text_97 rfl (lv_at hl 1 rfl) ?_
              refine lv_iconst (v := nI 0) hx hb dX5_text_98 (by decide) ?_
              refine m_put (w' := (mw cy ad sr kS sr asd stt ik tp (nI 0) (nI Sv.2.1) (nI Sv.2.2.1) Sv.2.2.2.2 (nI 1) bo so nu mv)) (ty := .int) hx hb hts hin hown hK hP hS 7 (by decide) (hts (.fieldLink RX5 167 "PennyRoadModel" "taped" "I") (by decide +kernel)) rfl (by decide +kernel) rfl rfl rfl dX5_text_99 (fun H locs hP hS => ?_)
              refine lv_aload_n hx hb dX5_text_102 rfl (lv_at hl 1 rfl) ?_
              refine m_get hx hb hts hin hown hK hP 11 (by decide) (hts (.fieldLink RX5 194 "PennyRoadModel" "isWrong" "Z") (by decide +kernel)) rfl dX5_text_103 ?_
              refine lv_if_eq (tgt := 118) hx hb dX5_text_106 (by decide) (fun c_106 => ?_) (fun c_106 => ?_)
              · skip
                exact absurd c_106 (by decide)
              · skip
                refine lv_iconst (v := (-1)) hx hb dX5_text_109 (by decide) ?_
                refine lv_aload_n hx hb dX5_text_110 rfl (lv_at hl 1 rfl) ?_
                refine m_get hx hb hts hin hown hK hP 8 (by decide) (hts (.fieldLink RX5 182 "PennyRoadModel" "from" "I") (by decide +kernel)) rfl dX5_text_111 ?_
                refine lv_isub hx hb dX5_text_114 ?_
                refine lv_goto (tgt := 119) hx hb dX5_text_115 (by decide) ?_
                subst hQ
                exact mp_ri hx hb hr hlocks hP hS dX5_text_119 (by rw [hE]; first | rw [if_pos (show ((Sv, k).1.2.2.2.1 = true ∨ (Sv, k).1.2.1 < T) from Or.inr (Nat.not_le.mp c_75))] | rfl) (by rw [hE]; first | rw [if_pos (show ((Sv, k).1.2.2.2.1 = true ∨ (Sv, k).1.2.1 < T) from Or.inr (Nat.not_le.mp c_75))] | rfl)
      · skip
        refine lv_aload_n hx hb dX5_text_31 rfl (lv_at hl 1 rfl) ?_
        refine lv_aload_n hx hb dX5_text_32 rfl (lv_at hl 1 rfl) ?_
        refine m_get hx hb hts hin hown hK hP 8 (by decide) (hts (.fieldLink RX5 182 "PennyRoadModel" "from" "I") (by decide +kernel)) rfl dX5_text_33 ?_
        refine wq_V S mK_ok hK hP hS (c_X5_byteAt hT2 (by omega)) gX5_text_X5_byteAt i_X5_byteAt rfl (m_rec hK hP) ⟨Nat.le_of_ble_eq_true rfl, Nat.le_of_ble_eq_true rfl⟩ rfl hl.1 (As := [.int (nI (Sv.2.1))]) (rest := []) (st1 := [.int (bAt tp T (Sv.2.1))]) rfl rfl (Nat.le_of_ble_eq_true rfl) ⟨Nat.le_of_ble_eq_true rfl, Nat.le_of_ble_eq_true rfl⟩ dX5_text_36 (fun H locs hP hS => ?_)
        refine lv_bipush (v := nI 59) hx hb dX5_text_39 (by decide) ?_
        refine lv_icmp_ne (tgt := 59) hx hb dX5_text_41 (by decide) (fun c_41 => ?_) (fun c_41 => ?_)
        · skip
          have hE : textP tp T T (itemP tp T N (sr, tokA tp T 0, tokB tp T 0, false, vl)) 1 = (Sv, k) := by first | exact hF | exact hF.trans (if_pos c_28) | exact hF.trans ((if_neg c_28).trans (if_neg c_41))
          refine lv_aload_n hx hb dX5_text_59 rfl (lv_at hl 1 rfl) ?_
          refine lv_aload_n hx hb dX5_text_60 rfl (lv_at hl 1 rfl) ?_
          refine m_get hx hb hts hin hown hK hP 11 (by decide) (hts (.fieldLink RX5 194 "PennyRoadModel" "isWrong" "Z") (by decide +kernel)) rfl dX5_text_61 ?_
          refine lvz_if_ne (tgt := 78) hx hb dX5_text_64 (by decide) (fun c_64 => ?_) (fun c_64 => ?_)
          · skip
            refine lv_iconst (v := nI 1) hx hb dX5_text_78 (by decide) ?_
            refine lv_goto (tgt := 83) hx hb dX5_text_79 (by decide) ?_
            refine m_put (w' := (mw cy ad Sv.1 kS sr asd stt ik tp (nI T) (nI Sv.2.1) (nI Sv.2.2.1) Sv.2.2.2.2 (nI 1) bo so nu mv)) (ty := .boolean) hx hb hts hin hown hK hP hS 11 (by decide) (hts (.fieldLink RX5 194 "PennyRoadModel" "isWrong" "Z") (by decide +kernel)) rfl (by decide +kernel) rfl rfl rfl dX5_text_83 (fun H locs hP hS => ?_)
            refine lv_aload_n hx hb dX5_text_86 rfl (lv_at hl 1 rfl) ?_
            refine m_get hx hb hts hin hown hK hP 11 (by decide) (hts (.fieldLink RX5 194 "PennyRoadModel" "isWrong" "Z") (by decide +kernel)) rfl dX5_text_87 ?_
            refine lv_if_eq (tgt := 97) hx hb dX5_text_90 (by decide) (fun c_90 => ?_) (fun c_90 => ?_)
            · skip
              exact absurd c_90 (by decide)
            · skip
              refine lv_aload_n hx hb dX5_text_93 rfl (lv_at hl 1 rfl) ?_
              refine wq_V S mK_ok hK hP hS (c_X5_putsBack) gX5_text_X5_putsBack i_X5_putsBack rfl (m_rec hK hP) ⟨Nat.le_of_ble_eq_true rfl, Nat.le_of_ble_eq_true rfl⟩ rfl hl.1 (As := []) (rest := []) (st1 := []) rfl rfl (Nat.le_of_ble_eq_true rfl) ⟨Nat.le_of_ble_eq_true rfl, Nat.le_of_ble_eq_true rfl⟩ dX5_text_94 (fun H locs hP hS => ?_)
              refine lv_aload_n hx hb dX5_text_97 rfl (lv_at hl 1 rfl) ?_
              refine lv_iconst (v := nI 0) hx hb dX5_text_98 (by decide) ?_
              refine m_put (w' := (mw cy ad sr kS sr asd stt ik tp (nI 0) (nI Sv.2.1) (nI Sv.2.2.1) Sv.2.2.2.2 (nI 1) bo so nu mv)) (ty := .int) hx hb hts hin hown hK hP hS 7 (by decide) (hts (.fieldLink RX5 167 "PennyRoadModel" "taped" "I") (by decide +kernel)) rfl (by decide +kernel) rfl rfl rfl dX5_text_99 (fun H locs hP hS => ?_)
              refine lv_aload_n hx hb dX5_text_102 rfl (lv_at hl 1 rfl) ?_
              refine m_get hx hb hts hin hown hK hP 11 (by decide) (hts (.fieldLink RX5 194 "PennyRoadModel" "isWrong" "Z") (by decide +kernel)) rfl dX5_text_103 ?_
              refine lv_if_eq (tgt := 118) hx hb dX5_text_106 (by decide) (fun c_106 => ?_) (fun c_106 => ?_)
              · skip
                exact absurd c_106 (by decide)
              · skip
                refine lv_iconst (v := (-1)) hx hb dX5_text_109 (by decide) ?_
                refine lv_aload_n hx hb dX5_text_110 rfl (lv_at hl 1 rfl) ?_
                refine m_get hx hb hts hin hown hK hP 8 (by decide) (hts (.fieldLink RX5 182 "PennyRoadModel" "from" "I") (by decide +kernel)) rfl dX5_text_111 ?_
                refine lv_isub hx hb dX5_text_114 ?_
                refine lv_goto (tgt := 119) hx hb dX5_text_115 (by decide) ?_
                subst hQ
                exact mp_ri hx hb hr hlocks hP hS dX5_text_119 (by rw [hE]; first | rw [if_pos (show ((Sv, k).1.2.2.2.1 = true ∨ (Sv, k).1.2.1 < T) from Or.inl c_64)] | rfl) (by rw [hE]; first | rw [if_pos (show ((Sv, k).1.2.2.2.1 = true ∨ (Sv, k).1.2.1 < T) from Or.inl c_64)] | rfl)
          · skip
            refine lv_aload_n hx hb dX5_text_67 rfl (lv_at hl 1 rfl) ?_
            refine m_get hx hb hts hin hown hK hP 8 (by decide) (hts (.fieldLink RX5 182 "PennyRoadModel" "from" "I") (by decide +kernel)) rfl dX5_text_68 ?_
            refine lv_aload_n hx hb dX5_text_71 rfl (lv_at hl 1 rfl) ?_
            refine m_get hx hb hts hin hown hK hP 7 (by decide) (hts (.fieldLink RX5 167 "PennyRoadModel" "taped" "I") (by decide +kernel)) rfl dX5_text_72 ?_
            refine lvn_icmp_ge (tgt := 82) hx hb dX5_text_75 (by decide) (by omega) (by omega) (fun c_75 => ?_) (fun c_75 => ?_)
            · skip
              refine lv_iconst (v := nI 0) hx hb dX5_text_82 (by decide) ?_
              refine m_put (w' := (mw cy ad Sv.1 kS sr asd stt ik tp (nI T) (nI Sv.2.1) (nI Sv.2.2.1) Sv.2.2.2.2 (nI 0) bo so nu mv)) (ty := .boolean) hx hb hts hin hown hK hP hS 11 (by decide) (hts (.fieldLink RX5 194 "PennyRoadModel" "isWrong" "Z") (by decide +kernel)) rfl (by decide +kernel) rfl rfl rfl dX5_text_83 (fun H locs hP hS => ?_)
              refine lv_aload_n hx hb dX5_text_86 rfl (lv_at hl 1 rfl) ?_
              refine m_get hx hb hts hin hown hK hP 11 (by decide) (hts (.fieldLink RX5 194 "PennyRoadModel" "isWrong" "Z") (by decide +kernel)) rfl dX5_text_87 ?_
              refine lv_if_eq (tgt := 97) hx hb dX5_text_90 (by decide) (fun c_90 => ?_) (fun c_90 => ?_)
              · skip
                refine lv_aload_n hx hb dX5_text_97 rfl (lv_at hl 1 rfl) ?_
                refine lv_iconst (v := nI 0) hx hb dX5_text_98 (by decide) ?_
                refine m_put (w' := (mw cy ad Sv.1 kS sr asd stt ik tp (nI 0) (nI Sv.2.1) (nI Sv.2.2.1) Sv.2.2.2.2 (nI 0) bo so nu mv)) (ty := .int) hx hb hts hin hown hK hP hS 7 (by decide) (hts (.fieldLink RX5 167 "PennyRoadModel" "taped" "I") (by decide +kernel)) rfl (by decide +kernel) rfl rfl rfl dX5_text_99 (fun H locs hP hS => ?_)
                refine lv_aload_n hx hb dX5_text_102 rfl (lv_at hl 1 rfl) ?_
                refine m_get hx hb hts hin hown hK hP 11 (by decide) (hts (.fieldLink RX5 194 "PennyRoadModel" "isWrong" "Z") (by decide +kernel)) rfl dX5_text_103 ?_
                refine lv_if_eq (tgt := 118) hx hb dX5_text_106 (by decide) (fun c_106 => ?_) (fun c_106 => ?_)
                · skip
                  refine lv_iload_n hx hb dX5_text_118 rfl (lv_at hl 0 rfl) ?_
                  subst hQ
                  exact mp_ri hx hb hr hlocks hP hS dX5_text_119 (by rw [hE]; first | rw [if_neg (show ¬ ((Sv, k).1.2.2.2.1 = true ∨ (Sv, k).1.2.1 < T) from (fun h9 => h9.elim c_64 (fun h9 => absurd c_75 (Nat.not_le.mpr h9))))] | rfl) (by rw [hE]; first | rw [if_neg (show ¬ ((Sv, k).1.2.2.2.1 = true ∨ (Sv, k).1.2.1 < T) from (fun h9 => h9.elim c_64 (fun h9 => absurd c_75 (Nat.not_le.mpr h9))))] | rfl)
                · skip
                  exact absurd c_106 (by decide)
              · skip
                exact absurd c_90 (by decide)
            · skip
              refine lv_iconst (v := nI 1) hx hb dX5_text_78 (by decide) ?_
              refine lv_goto (tgt := 83) hx hb dX5_text_79 (by decide) ?_
              refine m_put (w' := (mw cy ad Sv.1 kS sr asd stt ik tp (nI T) (nI Sv.2.1) (nI Sv.2.2.1) Sv.2.2.2.2 (nI 1) bo so nu mv)) (ty := .boolean) hx hb hts hin hown hK hP hS 11 (by decide) (hts (.fieldLink RX5 194 "PennyRoadModel" "isWrong" "Z") (by decide +kernel)) rfl (by decide +kernel) rfl rfl rfl dX5_text_83 (fun H locs hP hS => ?_)
              refine lv_aload_n hx hb dX5_text_86 rfl (lv_at hl 1 rfl) ?_
              refine m_get hx hb hts hin hown hK hP 11 (by decide) (hts (.fieldLink RX5 194 "PennyRoadModel" "isWrong" "Z") (by decide +kernel)) rfl dX5_text_87 ?_
              refine lv_if_eq (tgt := 97) hx hb dX5_text_90 (by decide) (fun c_90 => ?_) (fun c_90 => ?_)
              · skip
                exact absurd c_90 (by decide)
              · skip
                refine lv_aload_n hx hb dX5_text_93 rfl (lv_at hl 1 rfl) ?_
                refine wq_V S mK_ok hK hP hS (c_X5_putsBack) gX5_text_X5_putsBack i_X5_putsBack rfl (m_rec hK hP) ⟨Nat.le_of_ble_eq_true rfl, Nat.le_of_ble_eq_true rfl⟩ rfl hl.1 (As := []) (rest := []) (st1 := []) rfl rfl (Nat.le_of_ble_eq_true rfl) ⟨Nat.le_of_ble_eq_true rfl, Nat.le_of_ble_eq_true rfl⟩ dX5_text_94 (fun H locs hP hS => ?_)
                refine lv_aload_n hx hb dX5_text_97 rfl (lv_at hl 1 rfl) ?_
                refine lv_iconst (v := nI 0) hx hb dX5_text_98 (by decide) ?_
                refine m_put (w' := (mw cy ad sr kS sr asd stt ik tp (nI 0) (nI Sv.2.1) (nI Sv.2.2.1) Sv.2.2.2.2 (nI 1) bo so nu mv)) (ty := .int) hx hb hts hin hown hK hP hS 7 (by decide) (hts (.fieldLink RX5 167 "PennyRoadModel" "taped" "I") (by decide +kernel)) rfl (by decide +kernel) rfl rfl rfl dX5_text_99 (fun H locs hP hS => ?_)
                refine lv_aload_n hx hb dX5_text_102 rfl (lv_at hl 1 rfl) ?_
                refine m_get hx hb hts hin hown hK hP 11 (by decide) (hts (.fieldLink RX5 194 "PennyRoadModel" "isWrong" "Z") (by decide +kernel)) rfl dX5_text_103 ?_
                refine lv_if_eq (tgt := 118) hx hb dX5_text_106 (by decide) (fun c_106 => ?_) (fun c_106 => ?_)
                · skip
                  exact absurd c_106 (by decide)
                · skip
                  refine lv_iconst (v := (-1)) hx hb dX5_text_109 (by decide) ?_
                  refine lv_aload_n hx hb dX5_text_110 rfl (lv_at hl 1 rfl) ?_
                  refine m_get hx hb hts hin hown hK hP 8 (by decide) (hts (.fieldLink RX5 182 "PennyRoadModel" "from" "I") (by decide +kernel)) rfl dX5_text_111 ?_
                  refine lv_isub hx hb dX5_text_114 ?_
                  refine lv_goto (tgt := 119) hx hb dX5_text_115 (by decide) ?_
                  subst hQ
                  exact mp_ri hx hb hr hlocks hP hS dX5_text_119 (by rw [hE]; first | rw [if_pos (show ((Sv, k).1.2.2.2.1 = true ∨ (Sv, k).1.2.1 < T) from Or.inr (Nat.not_le.mp c_75))] | rfl) (by rw [hE]; first | rw [if_pos (show ((Sv, k).1.2.2.2.1 = true ∨ (Sv, k).1.2.1 < T) from Or.inr (Nat.not_le.mp c_75))] | rfl)
        · skip
          have hf9 : Sv.2.1 < T := by
            rcases Nat.lt_or_ge Sv.2.1 T with q9 | q9
            · exact q9
            · exact absurd (c_41.symm.trans (bAt_T (by omega))) (by decide)
          refine lv_aload_n hx hb dX5_text_44 rfl (lv_at hl 1 rfl) ?_
          refine lv_iconst (v := nI 1) hx hb dX5_text_45 (by decide) ?_
          refine wq_V S mK_ok hK hP hS (c_X5_must (pb := true) hT2 hok) gX5_text_X5_must i_X5_must rfl (m_rec hK hP) ⟨Nat.le_of_ble_eq_true rfl, Nat.le_of_ble_eq_true rfl⟩ rfl hl.1 (As := [.int (nI 1)]) (rest := []) (st1 := []) rfl rfl (Nat.le_of_ble_eq_true rfl) ⟨Nat.le_of_ble_eq_true rfl, Nat.le_of_ble_eq_true rfl⟩ dX5_text_46 (fun H locs hP hS => ?_)
          generalize hhS_2 : mustP tp T true (Sv.1, Sv.2.1, Sv.2.2.1, Sv.2.2.2.1, Sv.2.2.2.2) = S_2 at hP
          have hokS_2 : okS T S_2 := by rw [← hhS_2]; exact mustP_ok hok
          have hn9 := okS_n hok
          have hm9 : S_2.1 0 = nI (nW Sv.1) := by rw [← hhS_2, mustP_row]; exact hn9.1
          refine lv_aload_n hx hb dX5_text_49 rfl (lv_at hl 1 rfl) ?_
          refine wq_V S mK_ok hK hP hS (c_X5_item hT2 hokS_2 hm9 hn9.2) gX5_text_X5_item i_X5_item rfl (m_rec hK hP) ⟨Nat.le_of_ble_eq_true rfl, Nat.le_of_ble_eq_true rfl⟩ rfl hl.1 (As := []) (rest := []) (st1 := []) rfl rfl (Nat.le_of_ble_eq_true rfl) ⟨Nat.le_of_ble_eq_true rfl, Nat.le_of_ble_eq_true rfl⟩ dX5_text_50 (fun H locs hP hS => ?_)
          generalize hhS_3 : itemP tp T (nW Sv.1) (S_2.1, S_2.2.1, S_2.2.2.1, S_2.2.2.2.1, S_2.2.2.2.2) = S_3 at hP
          have hokS_3 : okS T S_3 := by rw [← hhS_3]; exact itemP_ok hokS_2
          refine lv_iinc (v := nI (k + 1)) (lv' := [(1, .int (nI (k + 1))), (0, .ref (ad 0))]) hx hb dX5_text_53 hl (k := 0) rfl (nI_add _ _) (by decide) rfl (fun ls hl => ?_)
          refine lv_goto (tgt := 24) hx hb dX5_text_56 (by decide) ?_
          exact ih_24 S_3 (k + 1) _ _ ls hokS_3 (by have e8 := mustP_lt (tp := tp) hok c_28 hf9; have e9 := itemP_f (tp := tp) (N := nW Sv.1) hokS_2; rw [show mustP tp T true Sv = S_2 from hhS_2] at e8; rw [show itemP tp T (nW Sv.1) S_2 = S_3 from hhS_3] at e9; omega) (hF.trans ((if_neg c_28).trans ((if_pos c_41).trans (by rw [show mustP tp T true Sv = S_2 from hhS_2, show itemP tp T (nW Sv.1) S_2 = S_3 from hhS_3])))) hP hS hl
  exact L_24 T S_1 1 _ _ ls hokS_1 (by omega) (by rw [hS_0]) hP hS hl
theorem i_X5_text : ciOk yX5_text cX5_text 2 (some .int) wsX5_text 0 := ⟨⟨_, rfl⟩, by decide +kernel⟩
