theorem c_X5_inN {l : Launch} {q : Int32} {a b : Nat} (ha : a < 2 ^ 31) (hb : b < 2 ^ 31) : Met l yX5_in wsX5_in (rmz 0 0) (sPre [.long (q.toInt64), .long ((nI a).toInt64), .long ((nI b).toInt64)]) (sPost (some (.int (z (rg a b q))))) 0 0 (fun _ => False) := by
  have c := c_X5_inY (l := l) (q := q) (lo := (nI a).toInt64) (h := (nI b).toInt64)
  rw [Int32.toInt_toInt64, Int32.toInt_toInt64, nI_toInt ha, nI_toInt hb] at c
  exact c
theorem tokC_nI {T f : Nat} : (if T ≤ f then nI f else nI (f + 1)) = nI (tokC T f) := by
  unfold tokC
  by_cases h : T ≤ f
  · rw [if_pos h, if_neg (by omega)]
  · rw [if_neg h, if_pos (by omega)]
set_option maxHeartbeats 1000000 in
set_option maxRecDepth 100000 in
theorem c_X5_byteAt {l : Launch} {D : va_G} {cy : Nat → ClassId} {ad : Nat → Nat} {sr : Nat → Int32} {kS : Nat → Int32} {ot : Nat → Int32} {asd : Nat → Int32} {stt : Nat → Int32} {ik : Int32} {tp : Nat → Int32} {fr : Int32} {tt : Int32} {vl : Int32} {wr : Int32} {bo : Nat → Int32} {so : Nat → Int32} {nu : Nat → Int64} {mv : Nat → Int64} {k : Nat} {T : Nat} (hT2 : T ≤ 120) (hk : k ≤ 121) : Met l yX5_byteAt wsX5_byteAt (rmz 0 0) (wPre D (mK D cy ad) (mw cy ad sr kS ot asd stt ik tp (nI T) fr tt vl wr bo so nu mv) [.ref (ad 0), .int (nI k)]) (wPost D (mw cy ad sr kS ot asd stt ik tp (nI T) fr tt vl wr bo so nu mv) (some (.int (bAt tp T k))) (mA ad)) 0 0 (mA ad) := by
  refine wq_entry rfl rfl (Nat.le_of_ble_eq_true rfl) ?_
  intro p e s0 m args below meth c S hr hlocks hK hP ls hl
  have S : CallFix p m c cX5_byteAt 2 s0 args wsX5_byteAt RX5 := S
  obtain ⟨hx, hb, hml, hown, hts⟩ := id S
  have hin : ∀ w ∈ wsX50, w ∈ wsX5_byteAt := fun w h => List.mem_cons_of_mem _ (List.mem_append_right _ h)
  have hS : va_S (mA ad) s0.heap s0.heap [] := va_S.rf
  have hl : lv_has ls 2 [(0, .ref (ad 0)), (1, .int (nI k))] := hl
  generalize hQ : MQ below (wPost D (mw cy ad sr kS ot asd stt ik tp (nI T) fr tt vl wr bo so nu mv) (some (.int (bAt tp T k))) (mA ad)) args s0 0 0 (mA ad) = Q
  refine lv_iload_n hx hb dX5_byteAt_0 rfl (lv_at hl 1 rfl) ?_
  refine lv_aload_n hx hb dX5_byteAt_1 rfl (lv_at hl 0 rfl) ?_
  refine m_get hx hb hts hin hown hK hP 7 (by decide) (hts (.fieldLink RX5 167 "PennyRoadModel" "taped" "I") (by decide +kernel)) rfl dX5_byteAt_2 ?_
  refine lvn_icmp_ge (tgt := 17) hx hb dX5_byteAt_5 (by decide) (by omega) (by omega) (fun c_5 => ?_) (fun c_5 => ?_)
  · skip
    refine lv_iconst (v := (-1)) hx hb dX5_byteAt_17 (by decide) ?_
    subst hQ
    exact wq_ri hx hb hr hlocks hP hS dX5_byteAt_18 (rvI (by first | exact if_neg (by omega) | exact if_pos (by omega))) rfl
  · skip
    refine lv_aload_n hx hb dX5_byteAt_8 rfl (lv_at hl 0 rfl) ?_
    refine m_get hx hb hts hin hown hK hP 6 (by decide) (hts (.fieldLink RX5 25 "PennyRoadModel" "tape" "[I") (by decide +kernel)) rfl dX5_byteAt_9 ?_
    refine lv_iload_n hx hb dX5_byteAt_12 rfl (lv_at hl 1 rfl) ?_
    refine m_ald hx hb hK hP 6 rfl (by decide) (by omega) dX5_byteAt_13 ?_
    refine lv_goto (tgt := 18) hx hb dX5_byteAt_14 (by decide) ?_
    subst hQ
    exact wq_ri hx hb hr hlocks hP hS dX5_byteAt_18 (rvI (by first | exact if_neg (by omega) | exact if_pos (by omega))) rfl
theorem i_X5_byteAt : ciOk yX5_byteAt cX5_byteAt 2 (some .int) wsX5_byteAt 1 := ⟨⟨_, rfl⟩, by decide +kernel⟩
set_option maxHeartbeats 1000000 in
set_option maxRecDepth 100000 in
theorem c_X5_token {l : Launch} {D : va_G} {cy : Nat → ClassId} {ad : Nat → Nat} {sr : Nat → Int32} {kS : Nat → Int32} {ot : Nat → Int32} {asd : Nat → Int32} {stt : Nat → Int32} {ik : Int32} {tp : Nat → Int32} {fr : Int32} {vl : Int32} {wr : Int32} {bo : Nat → Int32} {so : Nat → Int32} {nu : Nat → Int64} {mv : Nat → Int64} {T : Nat} {t : Nat} (hT2 : T ≤ 120) (ht : t ≤ T) : Met l yX5_token wsX5_token (rmz 2 45) (wPre D (mK D cy ad) (mw cy ad sr kS ot asd stt ik tp (nI T) fr (nI t) vl wr bo so nu mv) [.ref (ad 0)]) (wPost D (mw cy ad sr kS ot asd stt ik tp (nI T) (nI (tokA tp T t)) (nI (tokB tp T t)) vl wr bo so nu mv) none (mA ad)) 0 0 (mA ad) := by
  refine wq_entry rfl rfl (Nat.le_of_ble_eq_true rfl) ?_
  intro p e s0 m args below meth c S hr hlocks hK hP ls hl
  have S : CallFix p m c cX5_token 3 s0 args wsX5_token RX5 := S
  obtain ⟨hx, hb, hml, hown, hts⟩ := id S
  have hin : ∀ w ∈ wsX50, w ∈ wsX5_token := fun w h => List.mem_cons_of_mem _ (List.mem_append_right _ h)
  have hS : va_S (mA ad) s0.heap s0.heap [] := va_S.rf
  have hl : lv_has ls 3 [(0, .ref (ad 0))] := hl
  generalize hQ : MQ below (wPost D (mw cy ad sr kS ot asd stt ik tp (nI T) (nI (tokA tp T t)) (nI (tokB tp T t)) vl wr bo so nu mv) none (mA ad)) args s0 0 0 (mA ad) = Q
  refine lv_aload_n hx hb dX5_token_0 rfl (lv_at hl 0 rfl) ?_
  refine lv_aload_n hx hb dX5_token_1 rfl (lv_at hl 0 rfl) ?_
  refine m_get hx hb hts hin hown hK hP 9 (by decide) (hts (.fieldLink RX5 179 "PennyRoadModel" "to" "I") (by decide +kernel)) rfl dX5_token_2 ?_
  refine m_put (w' := (mw cy ad sr kS ot asd stt ik tp (nI T) (nI t) (nI t) vl wr bo so nu mv)) (ty := .int) hx hb hts hin hown hK hP hS 8 (by decide) (hts (.fieldLink RX5 182 "PennyRoadModel" "from" "I") (by decide +kernel)) rfl (by decide +kernel) rfl rfl rfl dX5_token_5 (fun H locs hP hS => ?_)
  have L_8 : ∀ (n : Nat) (f0 : Nat) (H : Heap) (locs : List Loc) (ls : Array Slot), (f0 + n = T) → (tokA tp T t = skipF tp T n f0) → va_P D vwCl (mw cy ad sr kS ot asd stt ik tp (nI T) (nI f0) (nI t) vl wr bo so nu mv) H → va_S (mA ad) s0.heap H locs → lv_has ls 3 [(0, .ref (ad 0))] → W p l e (rmz 2 45) s0 m args below meth c H locs 0 0 Q (F0 m 8 ls []) := by
    intro n
    induction n with
    | zero =>
      intro f0 H locs ls hj hF hP hS hl
      refine lv_aload_n hx hb dX5_token_8 rfl (lv_at hl 0 rfl) ?_
      refine lv_aload_n hx hb dX5_token_9 rfl (lv_at hl 0 rfl) ?_
      refine m_get hx hb hts hin hown hK hP 8 (by decide) (hts (.fieldLink RX5 182 "PennyRoadModel" "from" "I") (by decide +kernel)) rfl dX5_token_10 ?_
      refine wq_V S mK_ok hK hP hS (c_X5_byteAt hT2 (by omega)) gX5_token_X5_byteAt i_X5_byteAt rfl (m_rec hK hP) ⟨Nat.le_of_ble_eq_true rfl, Nat.le_of_ble_eq_true rfl⟩ rfl hl.1 (As := [.int (nI f0)]) (rest := []) (st1 := [.int (bAt tp T f0)]) rfl rfl (Nat.le_of_ble_eq_true rfl) ⟨Nat.le_of_ble_eq_true rfl, Nat.le_of_ble_eq_true rfl⟩ dX5_token_13 (fun H locs hP hS => ?_)
      refine lv_bipush (v := nI 32) hx hb dX5_token_16 (by decide) ?_
      refine lv_icmp_ne (tgt := 34) hx hb dX5_token_18 (by decide) (fun c_18 => ?_) (fun c_18 => ?_)
      · skip
        have hE : tokA tp T t = f0 := by first | exact hF | exact hF.trans (if_neg c_18)
        subst hE
        have hin2 := tokA_in (tp := tp) ht
        have hin3 := tokC_in hin2.2
        refine lv_aload_n hx hb dX5_token_34 rfl (lv_at hl 0 rfl) ?_
        refine lv_aload_n hx hb dX5_token_35 rfl (lv_at hl 0 rfl) ?_
        refine m_get hx hb hts hin hown hK hP 8 (by decide) (hts (.fieldLink RX5 182 "PennyRoadModel" "from" "I") (by decide +kernel)) rfl dX5_token_36 ?_
        refine wq_V S mK_ok hK hP hS (c_X5_byteAt hT2 (by omega)) gX5_token_X5_byteAt i_X5_byteAt rfl (m_rec hK hP) ⟨Nat.le_of_ble_eq_true rfl, Nat.le_of_ble_eq_true rfl⟩ rfl hl.1 (As := [.int (nI (tokA tp T t))]) (rest := []) (st1 := [.int (bAt tp T (tokA tp T t))]) rfl rfl (Nat.le_of_ble_eq_true rfl) ⟨Nat.le_of_ble_eq_true rfl, Nat.le_of_ble_eq_true rfl⟩ dX5_token_39 (fun H locs hP hS => ?_)
        refine sq_S S (c_X5_isLetter) gX5_token_X5_isLetter i_X5_isLetter ⟨Nat.le_of_ble_eq_true rfl, Nat.le_of_ble_eq_true rfl⟩ rfl hl.1 (As := [.int (bAt tp T (tokA tp T t))]) (rest := []) (st1 := [.int (z (rg 97 122 (bAt tp T (tokA tp T t))))]) rfl rfl (Nat.le_of_ble_eq_true rfl) ⟨Nat.le_of_ble_eq_true rfl, Nat.le_of_ble_eq_true rfl⟩ dX5_token_42 ?_
        refine lv_istore_n (lv' := [(1, .int (z (rg 97 122 (bAt tp T (tokA tp T t))))), (0, .ref (ad 0))]) hx hb dX5_token_45 rfl hl (by decide) rfl (fun ls hl => ?_)
        refine lv_aload_n hx hb dX5_token_46 rfl (lv_at hl 1 rfl) ?_
        refine lv_aload_n hx hb dX5_token_47 rfl (lv_at hl 1 rfl) ?_
        refine m_get hx hb hts hin hown hK hP 8 (by decide) (hts (.fieldLink RX5 182 "PennyRoadModel" "from" "I") (by decide +kernel)) rfl dX5_token_48 ?_
        refine wq_V S mK_ok hK hP hS (c_X5_byteAt hT2 (by omega)) gX5_token_X5_byteAt i_X5_byteAt rfl (m_rec hK hP) ⟨Nat.le_of_ble_eq_true rfl, Nat.le_of_ble_eq_true rfl⟩ rfl hl.1 (As := [.int (nI (tokA tp T t))]) (rest := []) (st1 := [.int (bAt tp T (tokA tp T t))]) rfl rfl (Nat.le_of_ble_eq_true rfl) ⟨Nat.le_of_ble_eq_true rfl, Nat.le_of_ble_eq_true rfl⟩ dX5_token_51 (fun H locs hP hS => ?_)
        refine sq_S S (c_X5_isDigit) gX5_token_X5_isDigit i_X5_isDigit ⟨Nat.le_of_ble_eq_true rfl, Nat.le_of_ble_eq_true rfl⟩ rfl hl.1 (As := [.int (bAt tp T (tokA tp T t))]) (rest := []) (st1 := [.int (z (rg 48 57 (bAt tp T (tokA tp T t))))]) rfl rfl (Nat.le_of_ble_eq_true rfl) ⟨Nat.le_of_ble_eq_true rfl, Nat.le_of_ble_eq_true rfl⟩ dX5_token_54 ?_
        refine lv_istore_n (lv' := [(2, .int (z (rg 48 57 (bAt tp T (tokA tp T t))))), (1, .int (z (rg 97 122 (bAt tp T (tokA tp T t))))), (0, .ref (ad 0))]) hx hb dX5_token_57 rfl hl (by decide) rfl (fun ls hl => ?_)
        refine lv_aload_n hx hb dX5_token_58 rfl (lv_at hl 2 rfl) ?_
        refine lv_aload_n hx hb dX5_token_59 rfl (lv_at hl 2 rfl) ?_
        refine m_get hx hb hts hin hown hK hP 8 (by decide) (hts (.fieldLink RX5 182 "PennyRoadModel" "from" "I") (by decide +kernel)) rfl dX5_token_60 ?_
        refine lv_aload_n hx hb dX5_token_63 rfl (lv_at hl 2 rfl) ?_
        refine m_get hx hb hts hin hown hK hP 7 (by decide) (hts (.fieldLink RX5 167 "PennyRoadModel" "taped" "I") (by decide +kernel)) rfl dX5_token_64 ?_
        have K_1 : ∀ (x_2 : Int32) (H : Heap) (locs : List Loc) (ls : Array Slot), x_2 = (if T ≤ tokA tp T t then (nI (tokA tp T t)) else (nI ((tokA tp T t) + 1))) → va_P D vwCl (mw cy ad sr kS ot asd stt ik tp (nI T) (nI (tokA tp T t)) (nI t) vl wr bo so nu mv) H → va_S (mA ad) s0.heap H locs → lv_has ls 3 [(2, .int (z (rg 48 57 (bAt tp T (tokA tp T t))))), (1, .int (z (rg 97 122 (bAt tp T (tokA tp T t))))), (0, .ref (ad 0))] → W p l e (rmz 2 45) s0 m args below meth c H locs 0 0 Q (F0 m 83 ls [.int (x_2), .ref (ad 0)]) := by
          intro x_2 H locs ls ex_2 hP hS hl
          refine lv_top (ex_2.trans tokC_nI) ?_
          refine m_put (w' := (mw cy ad sr kS ot asd stt ik tp (nI T) (nI (tokA tp T t)) (nI (tokC T (tokA tp T t))) vl wr bo so nu mv)) (ty := .int) hx hb hts hin hown hK hP hS 9 (by decide) (hts (.fieldLink RX5 179 "PennyRoadModel" "to" "I") (by decide +kernel)) rfl (by decide +kernel) rfl rfl rfl dX5_token_83 (fun H locs hP hS => ?_)
          have L_86 : ∀ (n3 : Nat) (t0 : Nat) (H : Heap) (locs : List Loc) (ls : Array Slot), (t0 + n3 = T) → (tokB tp T t = endF tp T (isLt tp T (tokA tp T t)) (isDg tp T (tokA tp T t)) n3 t0) → va_P D vwCl (mw cy ad sr kS ot asd stt ik tp (nI T) (nI (tokA tp T t)) (nI t0) vl wr bo so nu mv) H → va_S (mA ad) s0.heap H locs → lv_has ls 3 [(2, .int (z (rg 48 57 (bAt tp T (tokA tp T t))))), (1, .int (z (rg 97 122 (bAt tp T (tokA tp T t))))), (0, .ref (ad 0))] → W p l e (rmz 2 45) s0 m args below meth c H locs 0 0 Q (F0 m 86 ls []) := by
            intro n3
            induction n3 with
            | zero =>
              intro t0 H locs ls hj3 hG hP hS hl
              refine lv_iload_n hx hb dX5_token_86 rfl (lv_at hl 1 rfl) ?_
              refine lvz_if_eq (tgt := 104) hx hb dX5_token_87 (by decide) (fun c_87 => ?_) (fun c_87 => ?_)
              · skip
                refine lv_iload_n hx hb dX5_token_104 rfl (lv_at hl 0 rfl) ?_
                refine lvz_if_eq (tgt := 135) hx hb dX5_token_105 (by decide) (fun c_105 => ?_) (fun c_105 => ?_)
                · skip
                  have hE2 : tokB tp T t = t0 := by first | exact hG | exact hG.trans (if_neg (by simp [isLt, isDg, c_87, c_105]))
                  subst hQ
                  exact wq_rv hx hb hr hlocks hP hS dX5_token_135 rfl (by rw [hE2])
                · skip
                  refine lv_aload_n hx hb dX5_token_108 rfl (lv_at hl 2 rfl) ?_
                  refine lv_aload_n hx hb dX5_token_109 rfl (lv_at hl 2 rfl) ?_
                  refine m_get hx hb hts hin hown hK hP 9 (by decide) (hts (.fieldLink RX5 179 "PennyRoadModel" "to" "I") (by decide +kernel)) rfl dX5_token_110 ?_
                  refine wq_V S mK_ok hK hP hS (c_X5_byteAt hT2 (by omega)) gX5_token_X5_byteAt i_X5_byteAt rfl (m_rec hK hP) ⟨Nat.le_of_ble_eq_true rfl, Nat.le_of_ble_eq_true rfl⟩ rfl hl.1 (As := [.int (nI t0)]) (rest := []) (st1 := [.int (bAt tp T t0)]) rfl rfl (Nat.le_of_ble_eq_true rfl) ⟨Nat.le_of_ble_eq_true rfl, Nat.le_of_ble_eq_true rfl⟩ dX5_token_113 (fun H locs hP hS => ?_)
                  refine sq_S S (c_X5_isDigit) gX5_token_X5_isDigit i_X5_isDigit ⟨Nat.le_of_ble_eq_true rfl, Nat.le_of_ble_eq_true rfl⟩ rfl hl.1 (As := [.int (bAt tp T t0)]) (rest := []) (st1 := [.int (z (rg 48 57 (bAt tp T t0)))]) rfl rfl (Nat.le_of_ble_eq_true rfl) ⟨Nat.le_of_ble_eq_true rfl, Nat.le_of_ble_eq_true rfl⟩ dX5_token_116 ?_
                  refine lvz_if_eq (tgt := 135) hx hb dX5_token_119 (by decide) (fun c_119 => ?_) (fun c_119 => ?_)
                  · skip
                    have hE2 : tokB tp T t = t0 := by first | exact hG | exact hG.trans (if_neg (by simp [isLt, isDg, c_87, c_105, c_119]))
                    subst hQ
                    exact wq_rv hx hb hr hlocks hP hS dX5_token_135 rfl (by rw [hE2])
                  · skip
                    exact absurd (c_119.symm.trans (no_dg (tp := tp) (by omega))) (by decide)
              · skip
                refine lv_aload_n hx hb dX5_token_90 rfl (lv_at hl 2 rfl) ?_
                refine lv_aload_n hx hb dX5_token_91 rfl (lv_at hl 2 rfl) ?_
                refine m_get hx hb hts hin hown hK hP 9 (by decide) (hts (.fieldLink RX5 179 "PennyRoadModel" "to" "I") (by decide +kernel)) rfl dX5_token_92 ?_
                refine wq_V S mK_ok hK hP hS (c_X5_byteAt hT2 (by omega)) gX5_token_X5_byteAt i_X5_byteAt rfl (m_rec hK hP) ⟨Nat.le_of_ble_eq_true rfl, Nat.le_of_ble_eq_true rfl⟩ rfl hl.1 (As := [.int (nI t0)]) (rest := []) (st1 := [.int (bAt tp T t0)]) rfl rfl (Nat.le_of_ble_eq_true rfl) ⟨Nat.le_of_ble_eq_true rfl, Nat.le_of_ble_eq_true rfl⟩ dX5_token_95 (fun H locs hP hS => ?_)
                refine sq_S S (c_X5_isLetter) gX5_token_X5_isLetter i_X5_isLetter ⟨Nat.le_of_ble_eq_true rfl, Nat.le_of_ble_eq_true rfl⟩ rfl hl.1 (As := [.int (bAt tp T t0)]) (rest := []) (st1 := [.int (z (rg 97 122 (bAt tp T t0)))]) rfl rfl (Nat.le_of_ble_eq_true rfl) ⟨Nat.le_of_ble_eq_true rfl, Nat.le_of_ble_eq_true rfl⟩ dX5_token_98 ?_
                refine lvz_if_ne (tgt := 122) hx hb dX5_token_101 (by decide) (fun c_101 => ?_) (fun c_101 => ?_)
                · skip
                  exact absurd (c_101.symm.trans (no_lt (tp := tp) (by omega))) (by decide)
                · skip
                  refine lv_iload_n hx hb dX5_token_104 rfl (lv_at hl 0 rfl) ?_
                  refine lvz_if_eq (tgt := 135) hx hb dX5_token_105 (by decide) (fun c_105 => ?_) (fun c_105 => ?_)
                  · skip
                    have hE2 : tokB tp T t = t0 := by first | exact hG | exact hG.trans (if_neg (by simp [isLt, isDg, c_87, c_101, c_105]))
                    subst hQ
                    exact wq_rv hx hb hr hlocks hP hS dX5_token_135 rfl (by rw [hE2])
                  · skip
                    refine lv_aload_n hx hb dX5_token_108 rfl (lv_at hl 2 rfl) ?_
                    refine lv_aload_n hx hb dX5_token_109 rfl (lv_at hl 2 rfl) ?_
                    refine m_get hx hb hts hin hown hK hP 9 (by decide) (hts (.fieldLink RX5 179 "PennyRoadModel" "to" "I") (by decide +kernel)) rfl dX5_token_110 ?_
                    refine wq_V S mK_ok hK hP hS (c_X5_byteAt hT2 (by omega)) gX5_token_X5_byteAt i_X5_byteAt rfl (m_rec hK hP) ⟨Nat.le_of_ble_eq_true rfl, Nat.le_of_ble_eq_true rfl⟩ rfl hl.1 (As := [.int (nI t0)]) (rest := []) (st1 := [.int (bAt tp T t0)]) rfl rfl (Nat.le_of_ble_eq_true rfl) ⟨Nat.le_of_ble_eq_true rfl, Nat.le_of_ble_eq_true rfl⟩ dX5_token_113 (fun H locs hP hS => ?_)
                    refine sq_S S (c_X5_isDigit) gX5_token_X5_isDigit i_X5_isDigit ⟨Nat.le_of_ble_eq_true rfl, Nat.le_of_ble_eq_true rfl⟩ rfl hl.1 (As := [.int (bAt tp T t0)]) (rest := []) (st1 := [.int (z (rg 48 57 (bAt tp T t0)))]) rfl rfl (Nat.le_of_ble_eq_true rfl) ⟨Nat.le_of_ble_eq_true rfl, Nat.le_of_ble_eq_true rfl⟩ dX5_token_116 ?_
                    refine lvz_if_eq (tgt := 135) hx hb dX5_token_119 (by decide) (fun c_119 => ?_) (fun c_119 => ?_)
                    · skip
                      have hE2 : tokB tp T t = t0 := by first | exact hG | exact hG.trans (if_neg (by simp [isLt, isDg, c_87, c_101, c_105, c_119]))
                      subst hQ
                      exact wq_rv hx hb hr hlocks hP hS dX5_token_135 rfl (by rw [hE2])
                    · skip
                      exact absurd (c_119.symm.trans (no_dg (tp := tp) (by omega))) (by decide)
            | succ n3 ih_86 =>
              intro t0 H locs ls hj3 hG hP hS hl
              refine lv_iload_n hx hb dX5_token_86 rfl (lv_at hl 1 rfl) ?_
              refine lvz_if_eq (tgt := 104) hx hb dX5_token_87 (by decide) (fun c_87 => ?_) (fun c_87 => ?_)
              · skip
                refine lv_iload_n hx hb dX5_token_104 rfl (lv_at hl 0 rfl) ?_
                refine lvz_if_eq (tgt := 135) hx hb dX5_token_105 (by decide) (fun c_105 => ?_) (fun c_105 => ?_)
                · skip
                  have hE2 : tokB tp T t = t0 := by first | exact hG | exact hG.trans (if_neg (by simp [isLt, isDg, c_87, c_105]))
                  subst hQ
                  exact wq_rv hx hb hr hlocks hP hS dX5_token_135 rfl (by rw [hE2])
                · skip
                  refine lv_aload_n hx hb dX5_token_108 rfl (lv_at hl 2 rfl) ?_
                  refine lv_aload_n hx hb dX5_token_109 rfl (lv_at hl 2 rfl) ?_
                  refine m_get hx hb hts hin hown hK hP 9 (by decide) (hts (.fieldLink RX5 179 "PennyRoadModel" "to" "I") (by decide +kernel)) rfl dX5_token_110 ?_
                  refine wq_V S mK_ok hK hP hS (c_X5_byteAt hT2 (by omega)) gX5_token_X5_byteAt i_X5_byteAt rfl (m_rec hK hP) ⟨Nat.le_of_ble_eq_true rfl, Nat.le_of_ble_eq_true rfl⟩ rfl hl.1 (As := [.int (nI t0)]) (rest := []) (st1 := [.int (bAt tp T t0)]) rfl rfl (Nat.le_of_ble_eq_true rfl) ⟨Nat.le_of_ble_eq_true rfl, Nat.le_of_ble_eq_true rfl⟩ dX5_token_113 (fun H locs hP hS => ?_)
                  refine sq_S S (c_X5_isDigit) gX5_token_X5_isDigit i_X5_isDigit ⟨Nat.le_of_ble_eq_true rfl, Nat.le_of_ble_eq_true rfl⟩ rfl hl.1 (As := [.int (bAt tp T t0)]) (rest := []) (st1 := [.int (z (rg 48 57 (bAt tp T t0)))]) rfl rfl (Nat.le_of_ble_eq_true rfl) ⟨Nat.le_of_ble_eq_true rfl, Nat.le_of_ble_eq_true rfl⟩ dX5_token_116 ?_
                  refine lvz_if_eq (tgt := 135) hx hb dX5_token_119 (by decide) (fun c_119 => ?_) (fun c_119 => ?_)
                  · skip
                    have hE2 : tokB tp T t = t0 := by first | exact hG | exact hG.trans (if_neg (by simp [isLt, isDg, c_87, c_105, c_119]))
                    subst hQ
                    exact wq_rv hx hb hr hlocks hP hS dX5_token_135 rfl (by rw [hE2])
                  · skip
                    refine lv_aload_n hx hb dX5_token_122 rfl (lv_at hl 2 rfl) ?_
                    refine lv_dup hx hb dX5_token_123 rfl ?_
                    refine m_get hx hb hts hin hown hK hP 9 (by decide) (hts (.fieldLink RX5 179 "PennyRoadModel" "to" "I") (by decide +kernel)) rfl dX5_token_124 ?_
                    refine lv_iconst (v := nI 1) hx hb dX5_token_127 (by decide) ?_
                    refine lvn_iadd hx hb dX5_token_128 ?_
                    refine m_put (w' := (mw cy ad sr kS ot asd stt ik tp (nI T) (nI (tokA tp T t)) (nI (t0 + 1)) vl wr bo so nu mv)) (ty := .int) hx hb hts hin hown hK hP hS 9 (by decide) (hts (.fieldLink RX5 179 "PennyRoadModel" "to" "I") (by decide +kernel)) rfl (by decide +kernel) rfl rfl rfl dX5_token_129 (fun H locs hP hS => ?_)
                    refine lv_goto (tgt := 86) hx hb dX5_token_132 (by decide) ?_
                    exact ih_86 (t0 + 1) _ _ ls (by omega) (hG.trans (if_pos (by simp [isLt, isDg, c_87, c_105, c_119]))) hP hS hl
              · skip
                refine lv_aload_n hx hb dX5_token_90 rfl (lv_at hl 2 rfl) ?_
                refine lv_aload_n hx hb dX5_token_91 rfl (lv_at hl 2 rfl) ?_
                refine m_get hx hb hts hin hown hK hP 9 (by decide) (hts (.fieldLink RX5 179 "PennyRoadModel" "to" "I") (by decide +kernel)) rfl dX5_token_92 ?_
                refine wq_V S mK_ok hK hP hS (c_X5_byteAt hT2 (by omega)) gX5_token_X5_byteAt i_X5_byteAt rfl (m_rec hK hP) ⟨Nat.le_of_ble_eq_true rfl, Nat.le_of_ble_eq_true rfl⟩ rfl hl.1 (As := [.int (nI t0)]) (rest := []) (st1 := [.int (bAt tp T t0)]) rfl rfl (Nat.le_of_ble_eq_true rfl) ⟨Nat.le_of_ble_eq_true rfl, Nat.le_of_ble_eq_true rfl⟩ dX5_token_95 (fun H locs hP hS => ?_)
                refine sq_S S (c_X5_isLetter) gX5_token_X5_isLetter i_X5_isLetter ⟨Nat.le_of_ble_eq_true rfl, Nat.le_of_ble_eq_true rfl⟩ rfl hl.1 (As := [.int (bAt tp T t0)]) (rest := []) (st1 := [.int (z (rg 97 122 (bAt tp T t0)))]) rfl rfl (Nat.le_of_ble_eq_true rfl) ⟨Nat.le_of_ble_eq_true rfl, Nat.le_of_ble_eq_true rfl⟩ dX5_token_98 ?_
                refine lvz_if_ne (tgt := 122) hx hb dX5_token_101 (by decide) (fun c_101 => ?_) (fun c_101 => ?_)
                · skip
                  refine lv_aload_n hx hb dX5_token_122 rfl (lv_at hl 2 rfl) ?_
                  refine lv_dup hx hb dX5_token_123 rfl ?_
                  refine m_get hx hb hts hin hown hK hP 9 (by decide) (hts (.fieldLink RX5 179 "PennyRoadModel" "to" "I") (by decide +kernel)) rfl dX5_token_124 ?_
                  refine lv_iconst (v := nI 1) hx hb dX5_token_127 (by decide) ?_
                  refine lvn_iadd hx hb dX5_token_128 ?_
                  refine m_put (w' := (mw cy ad sr kS ot asd stt ik tp (nI T) (nI (tokA tp T t)) (nI (t0 + 1)) vl wr bo so nu mv)) (ty := .int) hx hb hts hin hown hK hP hS 9 (by decide) (hts (.fieldLink RX5 179 "PennyRoadModel" "to" "I") (by decide +kernel)) rfl (by decide +kernel) rfl rfl rfl dX5_token_129 (fun H locs hP hS => ?_)
                  refine lv_goto (tgt := 86) hx hb dX5_token_132 (by decide) ?_
                  exact ih_86 (t0 + 1) _ _ ls (by omega) (hG.trans (if_pos (by simp [isLt, isDg, c_87, c_101]))) hP hS hl
                · skip
                  refine lv_iload_n hx hb dX5_token_104 rfl (lv_at hl 0 rfl) ?_
                  refine lvz_if_eq (tgt := 135) hx hb dX5_token_105 (by decide) (fun c_105 => ?_) (fun c_105 => ?_)
                  · skip
                    have hE2 : tokB tp T t = t0 := by first | exact hG | exact hG.trans (if_neg (by simp [isLt, isDg, c_87, c_101, c_105]))
                    subst hQ
                    exact wq_rv hx hb hr hlocks hP hS dX5_token_135 rfl (by rw [hE2])
                  · skip
                    refine lv_aload_n hx hb dX5_token_108 rfl (lv_at hl 2 rfl) ?_
                    refine lv_aload_n hx hb dX5_token_109 rfl (lv_at hl 2 rfl) ?_
                    refine m_get hx hb hts hin hown hK hP 9 (by decide) (hts (.fieldLink RX5 179 "PennyRoadModel" "to" "I") (by decide +kernel)) rfl dX5_token_110 ?_
                    refine wq_V S mK_ok hK hP hS (c_X5_byteAt hT2 (by omega)) gX5_token_X5_byteAt i_X5_byteAt rfl (m_rec hK hP) ⟨Nat.le_of_ble_eq_true rfl, Nat.le_of_ble_eq_true rfl⟩ rfl hl.1 (As := [.int (nI t0)]) (rest := []) (st1 := [.int (bAt tp T t0)]) rfl rfl (Nat.le_of_ble_eq_true rfl) ⟨Nat.le_of_ble_eq_true rfl, Nat.le_of_ble_eq_true rfl⟩ dX5_token_113 (fun H locs hP hS => ?_)
                    refine sq_S S (c_X5_isDigit) gX5_token_X5_isDigit i_X5_isDigit ⟨Nat.le_of_ble_eq_true rfl, Nat.le_of_ble_eq_true rfl⟩ rfl hl.1 (As := [.int (bAt tp T t0)]) (rest := []) (st1 := [.int (z (rg 48 57 (bAt tp T t0)))]) rfl rfl (Nat.le_of_ble_eq_true rfl) ⟨Nat.le_of_ble_eq_true rfl, Nat.le_of_ble_eq_true rfl⟩ dX5_token_116 ?_
                    refine lvz_if_eq (tgt := 135) hx hb dX5_token_119 (by decide) (fun c_119 => ?_) (fun c_119 => ?_)
                    · skip
                      have hE2 : tokB tp T t = t0 := by first | exact hG | exact hG.trans (if_neg (by simp [isLt, isDg, c_87, c_101, c_105, c_119]))
                      subst hQ
                      exact wq_rv hx hb hr hlocks hP hS dX5_token_135 rfl (by rw [hE2])
                    · skip
                      refine lv_aload_n hx hb dX5_token_122 rfl (lv_at hl 2 rfl) ?_
                      refine lv_dup hx hb dX5_token_123 rfl ?_
                      refine m_get hx hb hts hin hown hK hP 9 (by decide) (hts (.fieldLink RX5 179 "PennyRoadModel" "to" "I") (by decide +kernel)) rfl dX5_token_124 ?_
                      refine lv_iconst (v := nI 1) hx hb dX5_token_127 (by decide) ?_
                      refine lvn_iadd hx hb dX5_token_128 ?_
                      refine m_put (w' := (mw cy ad sr kS ot asd stt ik tp (nI T) (nI (tokA tp T t)) (nI (t0 + 1)) vl wr bo so nu mv)) (ty := .int) hx hb hts hin hown hK hP hS 9 (by decide) (hts (.fieldLink RX5 179 "PennyRoadModel" "to" "I") (by decide +kernel)) rfl (by decide +kernel) rfl rfl rfl dX5_token_129 (fun H locs hP hS => ?_)
                      refine lv_goto (tgt := 86) hx hb dX5_token_132 (by decide) ?_
                      exact ih_86 (t0 + 1) _ _ ls (by omega) (hG.trans (if_pos (by simp [isLt, isDg, c_87, c_101, c_105, c_119]))) hP hS hl
          exact L_86 (T - tokC T (tokA tp T t)) (tokC T (tokA tp T t)) _ _ ls (by omega) rfl hP hS hl
        refine lvn_icmp_ge (tgt := 79) hx hb dX5_token_67 (by decide) (by omega) (by omega) (fun c_67 => ?_) (fun c_67 => ?_)
        · skip
          refine lv_aload_n hx hb dX5_token_79 rfl (lv_at hl 2 rfl) ?_
          refine m_get hx hb hts hin hown hK hP 8 (by decide) (hts (.fieldLink RX5 182 "PennyRoadModel" "from" "I") (by decide +kernel)) rfl dX5_token_80 ?_
          exact K_1 (nI (tokA tp T t)) _ _ ls (by simp only [if_pos c_67]) hP hS hl
        · skip
          refine lv_aload_n hx hb dX5_token_70 rfl (lv_at hl 2 rfl) ?_
          refine m_get hx hb hts hin hown hK hP 8 (by decide) (hts (.fieldLink RX5 182 "PennyRoadModel" "from" "I") (by decide +kernel)) rfl dX5_token_71 ?_
          refine lv_iconst (v := nI 1) hx hb dX5_token_74 (by decide) ?_
          refine lvn_iadd hx hb dX5_token_75 ?_
          refine lv_goto (tgt := 83) hx hb dX5_token_76 (by decide) ?_
          exact K_1 (nI ((tokA tp T t) + 1)) _ _ ls (by simp only [if_neg c_67]) hP hS hl
      · skip
        exact absurd (c_18.symm.trans (bAt_T (by omega))) (by decide)
    | succ n ih_8 =>
      intro f0 H locs ls hj hF hP hS hl
      refine lv_aload_n hx hb dX5_token_8 rfl (lv_at hl 0 rfl) ?_
      refine lv_aload_n hx hb dX5_token_9 rfl (lv_at hl 0 rfl) ?_
      refine m_get hx hb hts hin hown hK hP 8 (by decide) (hts (.fieldLink RX5 182 "PennyRoadModel" "from" "I") (by decide +kernel)) rfl dX5_token_10 ?_
      refine wq_V S mK_ok hK hP hS (c_X5_byteAt hT2 (by omega)) gX5_token_X5_byteAt i_X5_byteAt rfl (m_rec hK hP) ⟨Nat.le_of_ble_eq_true rfl, Nat.le_of_ble_eq_true rfl⟩ rfl hl.1 (As := [.int (nI f0)]) (rest := []) (st1 := [.int (bAt tp T f0)]) rfl rfl (Nat.le_of_ble_eq_true rfl) ⟨Nat.le_of_ble_eq_true rfl, Nat.le_of_ble_eq_true rfl⟩ dX5_token_13 (fun H locs hP hS => ?_)
      refine lv_bipush (v := nI 32) hx hb dX5_token_16 (by decide) ?_
      refine lv_icmp_ne (tgt := 34) hx hb dX5_token_18 (by decide) (fun c_18 => ?_) (fun c_18 => ?_)
      · skip
        have hE : tokA tp T t = f0 := by first | exact hF | exact hF.trans (if_neg c_18)
        subst hE
        have hin2 := tokA_in (tp := tp) ht
        have hin3 := tokC_in hin2.2
        refine lv_aload_n hx hb dX5_token_34 rfl (lv_at hl 0 rfl) ?_
        refine lv_aload_n hx hb dX5_token_35 rfl (lv_at hl 0 rfl) ?_
        refine m_get hx hb hts hin hown hK hP 8 (by decide) (hts (.fieldLink RX5 182 "PennyRoadModel" "from" "I") (by decide +kernel)) rfl dX5_token_36 ?_
        refine wq_V S mK_ok hK hP hS (c_X5_byteAt hT2 (by omega)) gX5_token_X5_byteAt i_X5_byteAt rfl (m_rec hK hP) ⟨Nat.le_of_ble_eq_true rfl, Nat.le_of_ble_eq_true rfl⟩ rfl hl.1 (As := [.int (nI (tokA tp T t))]) (rest := []) (st1 := [.int (bAt tp T (tokA tp T t))]) rfl rfl (Nat.le_of_ble_eq_true rfl) ⟨Nat.le_of_ble_eq_true rfl, Nat.le_of_ble_eq_true rfl⟩ dX5_token_39 (fun H locs hP hS => ?_)
        refine sq_S S (c_X5_isLetter) gX5_token_X5_isLetter i_X5_isLetter ⟨Nat.le_of_ble_eq_true rfl, Nat.le_of_ble_eq_true rfl⟩ rfl hl.1 (As := [.int (bAt tp T (tokA tp T t))]) (rest := []) (st1 := [.int (z (rg 97 122 (bAt tp T (tokA tp T t))))]) rfl rfl (Nat.le_of_ble_eq_true rfl) ⟨Nat.le_of_ble_eq_true rfl, Nat.le_of_ble_eq_true rfl⟩ dX5_token_42 ?_
        refine lv_istore_n (lv' := [(1, .int (z (rg 97 122 (bAt tp T (tokA tp T t))))), (0, .ref (ad 0))]) hx hb dX5_token_45 rfl hl (by decide) rfl (fun ls hl => ?_)
        refine lv_aload_n hx hb dX5_token_46 rfl (lv_at hl 1 rfl) ?_
        refine lv_aload_n hx hb dX5_token_47 rfl (lv_at hl 1 rfl) ?_
        refine m_get hx hb hts hin hown hK hP 8 (by decide) (hts (.fieldLink RX5 182 "PennyRoadModel" "from" "I") (by decide +kernel)) rfl dX5_token_48 ?_
        refine wq_V S mK_ok hK hP hS (c_X5_byteAt hT2 (by omega)) gX5_token_X5_byteAt i_X5_byteAt rfl (m_rec hK hP) ⟨Nat.le_of_ble_eq_true rfl, Nat.le_of_ble_eq_true rfl⟩ rfl hl.1 (As := [.int (nI (tokA tp T t))]) (rest := []) (st1 := [.int (bAt tp T (tokA tp T t))]) rfl rfl (Nat.le_of_ble_eq_true rfl) ⟨Nat.le_of_ble_eq_true rfl, Nat.le_of_ble_eq_true rfl⟩ dX5_token_51 (fun H locs hP hS => ?_)
        refine sq_S S (c_X5_isDigit) gX5_token_X5_isDigit i_X5_isDigit ⟨Nat.le_of_ble_eq_true rfl, Nat.le_of_ble_eq_true rfl⟩ rfl hl.1 (As := [.int (bAt tp T (tokA tp T t))]) (rest := []) (st1 := [.int (z (rg 48 57 (bAt tp T (tokA tp T t))))]) rfl rfl (Nat.le_of_ble_eq_true rfl) ⟨Nat.le_of_ble_eq_true rfl, Nat.le_of_ble_eq_true rfl⟩ dX5_token_54 ?_
        refine lv_istore_n (lv' := [(2, .int (z (rg 48 57 (bAt tp T (tokA tp T t))))), (1, .int (z (rg 97 122 (bAt tp T (tokA tp T t))))), (0, .ref (ad 0))]) hx hb dX5_token_57 rfl hl (by decide) rfl (fun ls hl => ?_)
        refine lv_aload_n hx hb dX5_token_58 rfl (lv_at hl 2 rfl) ?_
        refine lv_aload_n hx hb dX5_token_59 rfl (lv_at hl 2 rfl) ?_
        refine m_get hx hb hts hin hown hK hP 8 (by decide) (hts (.fieldLink RX5 182 "PennyRoadModel" "from" "I") (by decide +kernel)) rfl dX5_token_60 ?_
        refine lv_aload_n hx hb dX5_token_63 rfl (lv_at hl 2 rfl) ?_
        refine m_get hx hb hts hin hown hK hP 7 (by decide) (hts (.fieldLink RX5 167 "PennyRoadModel" "taped" "I") (by decide +kernel)) rfl dX5_token_64 ?_
        have K_3 : ∀ (x_4 : Int32) (H : Heap) (locs : List Loc) (ls : Array Slot), x_4 = (if T ≤ tokA tp T t then (nI (tokA tp T t)) else (nI ((tokA tp T t) + 1))) → va_P D vwCl (mw cy ad sr kS ot asd stt ik tp (nI T) (nI (tokA tp T t)) (nI t) vl wr bo so nu mv) H → va_S (mA ad) s0.heap H locs → lv_has ls 3 [(2, .int (z (rg 48 57 (bAt tp T (tokA tp T t))))), (1, .int (z (rg 97 122 (bAt tp T (tokA tp T t))))), (0, .ref (ad 0))] → W p l e (rmz 2 45) s0 m args below meth c H locs 0 0 Q (F0 m 83 ls [.int (x_4), .ref (ad 0)]) := by
          intro x_4 H locs ls ex_4 hP hS hl
          refine lv_top (ex_4.trans tokC_nI) ?_
          refine m_put (w' := (mw cy ad sr kS ot asd stt ik tp (nI T) (nI (tokA tp T t)) (nI (tokC T (tokA tp T t))) vl wr bo so nu mv)) (ty := .int) hx hb hts hin hown hK hP hS 9 (by decide) (hts (.fieldLink RX5 179 "PennyRoadModel" "to" "I") (by decide +kernel)) rfl (by decide +kernel) rfl rfl rfl dX5_token_83 (fun H locs hP hS => ?_)
          have L_86 : ∀ (n3 : Nat) (t0 : Nat) (H : Heap) (locs : List Loc) (ls : Array Slot), (t0 + n3 = T) → (tokB tp T t = endF tp T (isLt tp T (tokA tp T t)) (isDg tp T (tokA tp T t)) n3 t0) → va_P D vwCl (mw cy ad sr kS ot asd stt ik tp (nI T) (nI (tokA tp T t)) (nI t0) vl wr bo so nu mv) H → va_S (mA ad) s0.heap H locs → lv_has ls 3 [(2, .int (z (rg 48 57 (bAt tp T (tokA tp T t))))), (1, .int (z (rg 97 122 (bAt tp T (tokA tp T t))))), (0, .ref (ad 0))] → W p l e (rmz 2 45) s0 m args below meth c H locs 0 0 Q (F0 m 86 ls []) := by
            intro n3
            induction n3 with
            | zero =>
              intro t0 H locs ls hj3 hG hP hS hl
              refine lv_iload_n hx hb dX5_token_86 rfl (lv_at hl 1 rfl) ?_
              refine lvz_if_eq (tgt := 104) hx hb dX5_token_87 (by decide) (fun c_87 => ?_) (fun c_87 => ?_)
              · skip
                refine lv_iload_n hx hb dX5_token_104 rfl (lv_at hl 0 rfl) ?_
                refine lvz_if_eq (tgt := 135) hx hb dX5_token_105 (by decide) (fun c_105 => ?_) (fun c_105 => ?_)
                · skip
                  have hE2 : tokB tp T t = t0 := by first | exact hG | exact hG.trans (if_neg (by simp [isLt, isDg, c_87, c_105]))
                  subst hQ
                  exact wq_rv hx hb hr hlocks hP hS dX5_token_135 rfl (by rw [hE2])
                · skip
                  refine lv_aload_n hx hb dX5_token_108 rfl (lv_at hl 2 rfl) ?_
                  refine lv_aload_n hx hb dX5_token_109 rfl (lv_at hl 2 rfl) ?_
                  refine m_get hx hb hts hin hown hK hP 9 (by decide) (hts (.fieldLink RX5 179 "PennyRoadModel" "to" "I") (by decide +kernel)) rfl dX5_token_110 ?_
                  refine wq_V S mK_ok hK hP hS (c_X5_byteAt hT2 (by omega)) gX5_token_X5_byteAt i_X5_byteAt rfl (m_rec hK hP) ⟨Nat.le_of_ble_eq_true rfl, Nat.le_of_ble_eq_true rfl⟩ rfl hl.1 (As := [.int (nI t0)]) (rest := []) (st1 := [.int (bAt tp T t0)]) rfl rfl (Nat.le_of_ble_eq_true rfl) ⟨Nat.le_of_ble_eq_true rfl, Nat.le_of_ble_eq_true rfl⟩ dX5_token_113 (fun H locs hP hS => ?_)
                  refine sq_S S (c_X5_isDigit) gX5_token_X5_isDigit i_X5_isDigit ⟨Nat.le_of_ble_eq_true rfl, Nat.le_of_ble_eq_true rfl⟩ rfl hl.1 (As := [.int (bAt tp T t0)]) (rest := []) (st1 := [.int (z (rg 48 57 (bAt tp T t0)))]) rfl rfl (Nat.le_of_ble_eq_true rfl) ⟨Nat.le_of_ble_eq_true rfl, Nat.le_of_ble_eq_true rfl⟩ dX5_token_116 ?_
                  refine lvz_if_eq (tgt := 135) hx hb dX5_token_119 (by decide) (fun c_119 => ?_) (fun c_119 => ?_)
                  · skip
                    have hE2 : tokB tp T t = t0 := by first | exact hG | exact hG.trans (if_neg (by simp [isLt, isDg, c_87, c_105, c_119]))
                    subst hQ
                    exact wq_rv hx hb hr hlocks hP hS dX5_token_135 rfl (by rw [hE2])
                  · skip
                    exact absurd (c_119.symm.trans (no_dg (tp := tp) (by omega))) (by decide)
              · skip
                refine lv_aload_n hx hb dX5_token_90 rfl (lv_at hl 2 rfl) ?_
                refine lv_aload_n hx hb dX5_token_91 rfl (lv_at hl 2 rfl) ?_
                refine m_get hx hb hts hin hown hK hP 9 (by decide) (hts (.fieldLink RX5 179 "PennyRoadModel" "to" "I") (by decide +kernel)) rfl dX5_token_92 ?_
                refine wq_V S mK_ok hK hP hS (c_X5_byteAt hT2 (by omega)) gX5_token_X5_byteAt i_X5_byteAt rfl (m_rec hK hP) ⟨Nat.le_of_ble_eq_true rfl, Nat.le_of_ble_eq_true rfl⟩ rfl hl.1 (As := [.int (nI t0)]) (rest := []) (st1 := [.int (bAt tp T t0)]) rfl rfl (Nat.le_of_ble_eq_true rfl) ⟨Nat.le_of_ble_eq_true rfl, Nat.le_of_ble_eq_true rfl⟩ dX5_token_95 (fun H locs hP hS => ?_)
                refine sq_S S (c_X5_isLetter) gX5_token_X5_isLetter i_X5_isLetter ⟨Nat.le_of_ble_eq_true rfl, Nat.le_of_ble_eq_true rfl⟩ rfl hl.1 (As := [.int (bAt tp T t0)]) (rest := []) (st1 := [.int (z (rg 97 122 (bAt tp T t0)))]) rfl rfl (Nat.le_of_ble_eq_true rfl) ⟨Nat.le_of_ble_eq_true rfl, Nat.le_of_ble_eq_true rfl⟩ dX5_token_98 ?_
                refine lvz_if_ne (tgt := 122) hx hb dX5_token_101 (by decide) (fun c_101 => ?_) (fun c_101 => ?_)
                · skip
                  exact absurd (c_101.symm.trans (no_lt (tp := tp) (by omega))) (by decide)
                · skip
                  refine lv_iload_n hx hb dX5_token_104 rfl (lv_at hl 0 rfl) ?_
                  refine lvz_if_eq (tgt := 135) hx hb dX5_token_105 (by decide) (fun c_105 => ?_) (fun c_105 => ?_)
                  · skip
                    have hE2 : tokB tp T t = t0 := by first | exact hG | exact hG.trans (if_neg (by simp [isLt, isDg, c_87, c_101, c_105]))
                    subst hQ
                    exact wq_rv hx hb hr hlocks hP hS dX5_token_135 rfl (by rw [hE2])
                  · skip
                    refine lv_aload_n hx hb dX5_token_108 rfl (lv_at hl 2 rfl) ?_
                    refine lv_aload_n hx hb dX5_token_109 rfl (lv_at hl 2 rfl) ?_
                    refine m_get hx hb hts hin hown hK hP 9 (by decide) (hts (.fieldLink RX5 179 "PennyRoadModel" "to" "I") (by decide +kernel)) rfl dX5_token_110 ?_
                    refine wq_V S mK_ok hK hP hS (c_X5_byteAt hT2 (by omega)) gX5_token_X5_byteAt i_X5_byteAt rfl (m_rec hK hP) ⟨Nat.le_of_ble_eq_true rfl, Nat.le_of_ble_eq_true rfl⟩ rfl hl.1 (As := [.int (nI t0)]) (rest := []) (st1 := [.int (bAt tp T t0)]) rfl rfl (Nat.le_of_ble_eq_true rfl) ⟨Nat.le_of_ble_eq_true rfl, Nat.le_of_ble_eq_true rfl⟩ dX5_token_113 (fun H locs hP hS => ?_)
                    refine sq_S S (c_X5_isDigit) gX5_token_X5_isDigit i_X5_isDigit ⟨Nat.le_of_ble_eq_true rfl, Nat.le_of_ble_eq_true rfl⟩ rfl hl.1 (As := [.int (bAt tp T t0)]) (rest := []) (st1 := [.int (z (rg 48 57 (bAt tp T t0)))]) rfl rfl (Nat.le_of_ble_eq_true rfl) ⟨Nat.le_of_ble_eq_true rfl, Nat.le_of_ble_eq_true rfl⟩ dX5_token_116 ?_
                    refine lvz_if_eq (tgt := 135) hx hb dX5_token_119 (by decide) (fun c_119 => ?_) (fun c_119 => ?_)
                    · skip
                      have hE2 : tokB tp T t = t0 := by first | exact hG | exact hG.trans (if_neg (by simp [isLt, isDg, c_87, c_101, c_105, c_119]))
                      subst hQ
                      exact wq_rv hx hb hr hlocks hP hS dX5_token_135 rfl (by rw [hE2])
                    · skip
                      exact absurd (c_119.symm.trans (no_dg (tp := tp) (by omega))) (by decide)
            | succ n3 ih_86 =>
              intro t0 H locs ls hj3 hG hP hS hl
              refine lv_iload_n hx hb dX5_token_86 rfl (lv_at hl 1 rfl) ?_
              refine lvz_if_eq (tgt := 104) hx hb dX5_token_87 (by decide) (fun c_87 => ?_) (fun c_87 => ?_)
              · skip
                refine lv_iload_n hx hb dX5_token_104 rfl (lv_at hl 0 rfl) ?_
                refine lvz_if_eq (tgt := 135) hx hb dX5_token_105 (by decide) (fun c_105 => ?_) (fun c_105 => ?_)
                · skip
                  have hE2 : tokB tp T t = t0 := by first | exact hG | exact hG.trans (if_neg (by simp [isLt, isDg, c_87, c_105]))
                  subst hQ
                  exact wq_rv hx hb hr hlocks hP hS dX5_token_135 rfl (by rw [hE2])
                · skip
                  refine lv_aload_n hx hb dX5_token_108 rfl (lv_at hl 2 rfl) ?_
                  refine lv_aload_n hx hb dX5_token_109 rfl (lv_at hl 2 rfl) ?_
                  refine m_get hx hb hts hin hown hK hP 9 (by decide) (hts (.fieldLink RX5 179 "PennyRoadModel" "to" "I") (by decide +kernel)) rfl dX5_token_110 ?_
                  refine wq_V S mK_ok hK hP hS (c_X5_byteAt hT2 (by omega)) gX5_token_X5_byteAt i_X5_byteAt rfl (m_rec hK hP) ⟨Nat.le_of_ble_eq_true rfl, Nat.le_of_ble_eq_true rfl⟩ rfl hl.1 (As := [.int (nI t0)]) (rest := []) (st1 := [.int (bAt tp T t0)]) rfl rfl (Nat.le_of_ble_eq_true rfl) ⟨Nat.le_of_ble_eq_true rfl, Nat.le_of_ble_eq_true rfl⟩ dX5_token_113 (fun H locs hP hS => ?_)
                  refine sq_S S (c_X5_isDigit) gX5_token_X5_isDigit i_X5_isDigit ⟨Nat.le_of_ble_eq_true rfl, Nat.le_of_ble_eq_true rfl⟩ rfl hl.1 (As := [.int (bAt tp T t0)]) (rest := []) (st1 := [.int (z (rg 48 57 (bAt tp T t0)))]) rfl rfl (Nat.le_of_ble_eq_true rfl) ⟨Nat.le_of_ble_eq_true rfl, Nat.le_of_ble_eq_true rfl⟩ dX5_token_116 ?_
                  refine lvz_if_eq (tgt := 135) hx hb dX5_token_119 (by decide) (fun c_119 => ?_) (fun c_119 => ?_)
                  · skip
                    have hE2 : tokB tp T t = t0 := by first | exact hG | exact hG.trans (if_neg (by simp [isLt, isDg, c_87, c_105, c_119]))
                    subst hQ
                    exact wq_rv hx hb hr hlocks hP hS dX5_token_135 rfl (by rw [hE2])
                  · skip
                    refine lv_aload_n hx hb dX5_token_122 rfl (lv_at hl 2 rfl) ?_
                    refine lv_dup hx hb dX5_token_123 rfl ?_
                    refine m_get hx hb hts hin hown hK hP 9 (by decide) (hts (.fieldLink RX5 179 "PennyRoadModel" "to" "I") (by decide +kernel)) rfl dX5_token_124 ?_
                    refine lv_iconst (v := nI 1) hx hb dX5_token_127 (by decide) ?_
                    refine lvn_iadd hx hb dX5_token_128 ?_
                    refine m_put (w' := (mw cy ad sr kS ot asd stt ik tp (nI T) (nI (tokA tp T t)) (nI (t0 + 1)) vl wr bo so nu mv)) (ty := .int) hx hb hts hin hown hK hP hS 9 (by decide) (hts (.fieldLink RX5 179 "PennyRoadModel" "to" "I") (by decide +kernel)) rfl (by decide +kernel) rfl rfl rfl dX5_token_129 (fun H locs hP hS => ?_)
                    refine lv_goto (tgt := 86) hx hb dX5_token_132 (by decide) ?_
                    exact ih_86 (t0 + 1) _ _ ls (by omega) (hG.trans (if_pos (by simp [isLt, isDg, c_87, c_105, c_119]))) hP hS hl
              · skip
                refine lv_aload_n hx hb dX5_token_90 rfl (lv_at hl 2 rfl) ?_
                refine lv_aload_n hx hb dX5_token_91 rfl (lv_at hl 2 rfl) ?_
                refine m_get hx hb hts hin hown hK hP 9 (by decide) (hts (.fieldLink RX5 179 "PennyRoadModel" "to" "I") (by decide +kernel)) rfl dX5_token_92 ?_
                refine wq_V S mK_ok hK hP hS (c_X5_byteAt hT2 (by omega)) gX5_token_X5_byteAt i_X5_byteAt rfl (m_rec hK hP) ⟨Nat.le_of_ble_eq_true rfl, Nat.le_of_ble_eq_true rfl⟩ rfl hl.1 (As := [.int (nI t0)]) (rest := []) (st1 := [.int (bAt tp T t0)]) rfl rfl (Nat.le_of_ble_eq_true rfl) ⟨Nat.le_of_ble_eq_true rfl, Nat.le_of_ble_eq_true rfl⟩ dX5_token_95 (fun H locs hP hS => ?_)
                refine sq_S S (c_X5_isLetter) gX5_token_X5_isLetter i_X5_isLetter ⟨Nat.le_of_ble_eq_true rfl, Nat.le_of_ble_eq_true rfl⟩ rfl hl.1 (As := [.int (bAt tp T t0)]) (rest := []) (st1 := [.int (z (rg 97 122 (bAt tp T t0)))]) rfl rfl (Nat.le_of_ble_eq_true rfl) ⟨Nat.le_of_ble_eq_true rfl, Nat.le_of_ble_eq_true rfl⟩ dX5_token_98 ?_
                refine lvz_if_ne (tgt := 122) hx hb dX5_token_101 (by decide) (fun c_101 => ?_) (fun c_101 => ?_)
                · skip
                  refine lv_aload_n hx hb dX5_token_122 rfl (lv_at hl 2 rfl) ?_
                  refine lv_dup hx hb dX5_token_123 rfl ?_
                  refine m_get hx hb hts hin hown hK hP 9 (by decide) (hts (.fieldLink RX5 179 "PennyRoadModel" "to" "I") (by decide +kernel)) rfl dX5_token_124 ?_
                  refine lv_iconst (v := nI 1) hx hb dX5_token_127 (by decide) ?_
                  refine lvn_iadd hx hb dX5_token_128 ?_
                  refine m_put (w' := (mw cy ad sr kS ot asd stt ik tp (nI T) (nI (tokA tp T t)) (nI (t0 + 1)) vl wr bo so nu mv)) (ty := .int) hx hb hts hin hown hK hP hS 9 (by decide) (hts (.fieldLink RX5 179 "PennyRoadModel" "to" "I") (by decide +kernel)) rfl (by decide +kernel) rfl rfl rfl dX5_token_129 (fun H locs hP hS => ?_)
                  refine lv_goto (tgt := 86) hx hb dX5_token_132 (by decide) ?_
                  exact ih_86 (t0 + 1) _ _ ls (by omega) (hG.trans (if_pos (by simp [isLt, isDg, c_87, c_101]))) hP hS hl
                · skip
                  refine lv_iload_n hx hb dX5_token_104 rfl (lv_at hl 0 rfl) ?_
                  refine lvz_if_eq (tgt := 135) hx hb dX5_token_105 (by decide) (fun c_105 => ?_) (fun c_105 => ?_)
                  · skip
                    have hE2 : tokB tp T t = t0 := by first | exact hG | exact hG.trans (if_neg (by simp [isLt, isDg, c_87, c_101, c_105]))
                    subst hQ
                    exact wq_rv hx hb hr hlocks hP hS dX5_token_135 rfl (by rw [hE2])
                  · skip
                    refine lv_aload_n hx hb dX5_token_108 rfl (lv_at hl 2 rfl) ?_
                    refine lv_aload_n hx hb dX5_token_109 rfl (lv_at hl 2 rfl) ?_
                    refine m_get hx hb hts hin hown hK hP 9 (by decide) (hts (.fieldLink RX5 179 "PennyRoadModel" "to" "I") (by decide +kernel)) rfl dX5_token_110 ?_
                    refine wq_V S mK_ok hK hP hS (c_X5_byteAt hT2 (by omega)) gX5_token_X5_byteAt i_X5_byteAt rfl (m_rec hK hP) ⟨Nat.le_of_ble_eq_true rfl, Nat.le_of_ble_eq_true rfl⟩ rfl hl.1 (As := [.int (nI t0)]) (rest := []) (st1 := [.int (bAt tp T t0)]) rfl rfl (Nat.le_of_ble_eq_true rfl) ⟨Nat.le_of_ble_eq_true rfl, Nat.le_of_ble_eq_true rfl⟩ dX5_token_113 (fun H locs hP hS => ?_)
                    refine sq_S S (c_X5_isDigit) gX5_token_X5_isDigit i_X5_isDigit ⟨Nat.le_of_ble_eq_true rfl, Nat.le_of_ble_eq_true rfl⟩ rfl hl.1 (As := [.int (bAt tp T t0)]) (rest := []) (st1 := [.int (z (rg 48 57 (bAt tp T t0)))]) rfl rfl (Nat.le_of_ble_eq_true rfl) ⟨Nat.le_of_ble_eq_true rfl, Nat.le_of_ble_eq_true rfl⟩ dX5_token_116 ?_
                    refine lvz_if_eq (tgt := 135) hx hb dX5_token_119 (by decide) (fun c_119 => ?_) (fun c_119 => ?_)
                    · skip
                      have hE2 : tokB tp T t = t0 := by first | exact hG | exact hG.trans (if_neg (by simp [isLt, isDg, c_87, c_101, c_105, c_119]))
                      subst hQ
                      exact wq_rv hx hb hr hlocks hP hS dX5_token_135 rfl (by rw [hE2])
                    · skip
                      refine lv_aload_n hx hb dX5_token_122 rfl (lv_at hl 2 rfl) ?_
                      refine lv_dup hx hb dX5_token_123 rfl ?_
                      refine m_get hx hb hts hin hown hK hP 9 (by decide) (hts (.fieldLink RX5 179 "PennyRoadModel" "to" "I") (by decide +kernel)) rfl dX5_token_124 ?_
                      refine lv_iconst (v := nI 1) hx hb dX5_token_127 (by decide) ?_
                      refine lvn_iadd hx hb dX5_token_128 ?_
                      refine m_put (w' := (mw cy ad sr kS ot asd stt ik tp (nI T) (nI (tokA tp T t)) (nI (t0 + 1)) vl wr bo so nu mv)) (ty := .int) hx hb hts hin hown hK hP hS 9 (by decide) (hts (.fieldLink RX5 179 "PennyRoadModel" "to" "I") (by decide +kernel)) rfl (by decide +kernel) rfl rfl rfl dX5_token_129 (fun H locs hP hS => ?_)
                      refine lv_goto (tgt := 86) hx hb dX5_token_132 (by decide) ?_
                      exact ih_86 (t0 + 1) _ _ ls (by omega) (hG.trans (if_pos (by simp [isLt, isDg, c_87, c_101, c_105, c_119]))) hP hS hl
          exact L_86 (T - tokC T (tokA tp T t)) (tokC T (tokA tp T t)) _ _ ls (by omega) rfl hP hS hl
        refine lvn_icmp_ge (tgt := 79) hx hb dX5_token_67 (by decide) (by omega) (by omega) (fun c_67 => ?_) (fun c_67 => ?_)
        · skip
          refine lv_aload_n hx hb dX5_token_79 rfl (lv_at hl 2 rfl) ?_
          refine m_get hx hb hts hin hown hK hP 8 (by decide) (hts (.fieldLink RX5 182 "PennyRoadModel" "from" "I") (by decide +kernel)) rfl dX5_token_80 ?_
          exact K_3 (nI (tokA tp T t)) _ _ ls (by simp only [if_pos c_67]) hP hS hl
        · skip
          refine lv_aload_n hx hb dX5_token_70 rfl (lv_at hl 2 rfl) ?_
          refine m_get hx hb hts hin hown hK hP 8 (by decide) (hts (.fieldLink RX5 182 "PennyRoadModel" "from" "I") (by decide +kernel)) rfl dX5_token_71 ?_
          refine lv_iconst (v := nI 1) hx hb dX5_token_74 (by decide) ?_
          refine lvn_iadd hx hb dX5_token_75 ?_
          refine lv_goto (tgt := 83) hx hb dX5_token_76 (by decide) ?_
          exact K_3 (nI ((tokA tp T t) + 1)) _ _ ls (by simp only [if_neg c_67]) hP hS hl
      · skip
        refine lv_aload_n hx hb dX5_token_21 rfl (lv_at hl 0 rfl) ?_
        refine lv_dup hx hb dX5_token_22 rfl ?_
        refine m_get hx hb hts hin hown hK hP 8 (by decide) (hts (.fieldLink RX5 182 "PennyRoadModel" "from" "I") (by decide +kernel)) rfl dX5_token_23 ?_
        refine lv_iconst (v := nI 1) hx hb dX5_token_26 (by decide) ?_
        refine lvn_iadd hx hb dX5_token_27 ?_
        refine m_put (w' := (mw cy ad sr kS ot asd stt ik tp (nI T) (nI (f0 + 1)) (nI t) vl wr bo so nu mv)) (ty := .int) hx hb hts hin hown hK hP hS 8 (by decide) (hts (.fieldLink RX5 182 "PennyRoadModel" "from" "I") (by decide +kernel)) rfl (by decide +kernel) rfl rfl rfl dX5_token_28 (fun H locs hP hS => ?_)
        refine lv_goto (tgt := 8) hx hb dX5_token_31 (by decide) ?_
        exact ih_8 (f0 + 1) _ _ ls (by omega) (hF.trans (if_pos c_18)) hP hS hl
  exact L_8 (T - t) t _ _ ls (by omega) rfl hP hS hl
theorem i_X5_token : ciOk yX5_token cX5_token 3 none wsX5_token 0 := ⟨⟨_, rfl⟩, by decide +kernel⟩
theorem bool3 (a b : Bool) : a = true ∨ (a = false ∧ b = true) ∨ (a = false ∧ b = false) := by cases a <;> cases b <;> simp
set_option maxHeartbeats 1000000 in
set_option maxRecDepth 100000 in
theorem c_X5_must {l : Launch} {D : va_G} {cy : Nat → ClassId} {ad : Nat → Nat} {sr : Nat → Int32} {kS : Nat → Int32} {ot : Nat → Int32} {asd : Nat → Int32} {stt : Nat → Int32} {ik : Int32} {tp : Nat → Int32} {vl : Int32} {bo : Nat → Int32} {so : Nat → Int32} {nu : Nat → Int64} {mv : Nat → Int64} {T : Nat} {f : Nat} {t : Nat} {wb : Bool} {pb : Bool} (hT2 : T ≤ 120) (hok : okS T (sr, f, t, wb, vl)) : Met l yX5_must wsX5_must (rmz 3 67) (wPre D (mK D cy ad) (mw cy ad sr kS ot asd stt ik tp (nI T) (nI f) (nI t) vl (z (wb = true)) bo so nu mv) [.ref (ad 0), .int (z (pb = true))]) (wPost D (mw cy ad ((mustP tp T pb (sr, f, t, wb, vl)).1) kS ot asd stt ik tp (nI T) (nI (mustP tp T pb (sr, f, t, wb, vl)).2.1) (nI (mustP tp T pb (sr, f, t, wb, vl)).2.2.1) ((mustP tp T pb (sr, f, t, wb, vl)).2.2.2.2) (z ((mustP tp T pb (sr, f, t, wb, vl)).2.2.2.1 = true)) bo so nu mv) none (mA ad)) 0 0 (mA ad) := by
  refine wq_entry rfl rfl (Nat.le_of_ble_eq_true rfl) ?_
  intro p e s0 m args below meth c S hr hlocks hK hP ls hl
  have S : CallFix p m c cX5_must 2 s0 args wsX5_must RX5 := S
  obtain ⟨hx, hb, hml, hown, hts⟩ := id S
  have hin : ∀ w ∈ wsX50, w ∈ wsX5_must := fun w h => List.mem_cons_of_mem _ (List.mem_append_right _ h)
  have hS : va_S (mA ad) s0.heap s0.heap [] := va_S.rf
  have hl : lv_has ls 2 [(0, .ref (ad 0)), (1, .int (z (pb = true)))] := hl
  generalize hQ : MQ below (wPost D (mw cy ad ((mustP tp T pb (sr, f, t, wb, vl)).1) kS ot asd stt ik tp (nI T) (nI (mustP tp T pb (sr, f, t, wb, vl)).2.1) (nI (mustP tp T pb (sr, f, t, wb, vl)).2.2.1) ((mustP tp T pb (sr, f, t, wb, vl)).2.2.2.2) (z ((mustP tp T pb (sr, f, t, wb, vl)).2.2.2.1 = true)) bo so nu mv) none (mA ad)) args s0 0 0 (mA ad) = Q
  have ht2 : t ≤ T := hok.2.1
  rcases bool3 wb pb with rfl | ⟨rfl, rfl⟩ | ⟨rfl, rfl⟩
  · skip
    have hP : va_P D vwCl (mw cy ad sr kS ot asd stt ik tp (nI T) (nI f) (nI t) vl (nI 1) bo so nu mv) s0.heap := hP
    refine lv_aload_n hx hb dX5_must_0 rfl (lv_at hl 0 rfl) ?_
    refine lv_aload_n hx hb dX5_must_1 rfl (lv_at hl 0 rfl) ?_
    refine m_get hx hb hts hin hown hK hP 11 (by decide) (hts (.fieldLink RX5 194 "PennyRoadModel" "isWrong" "Z") (by decide +kernel)) rfl dX5_must_2 ?_
    refine lv_if_ne (tgt := 12) hx hb dX5_must_5 (by decide) (fun c_5 => ?_) (fun c_5 => ?_)
    · skip
      refine lv_iconst (v := nI 1) hx hb dX5_must_12 (by decide) ?_
      refine lv_goto (tgt := 17) hx hb dX5_must_13 (by decide) ?_
      refine m_put (w' := (mw cy ad sr kS ot asd stt ik tp (nI T) (nI f) (nI t) vl (nI 1) bo so nu mv)) (ty := .boolean) hx hb hts hin hown hK hP hS 11 (by decide) (hts (.fieldLink RX5 194 "PennyRoadModel" "isWrong" "Z") (by decide +kernel)) rfl (by decide +kernel) rfl rfl rfl dX5_must_17 (fun H locs hP hS => ?_)
      refine lv_aload_n hx hb dX5_must_20 rfl (lv_at hl 0 rfl) ?_
      refine m_get hx hb hts hin hown hK hP 11 (by decide) (hts (.fieldLink RX5 194 "PennyRoadModel" "isWrong" "Z") (by decide +kernel)) rfl dX5_must_21 ?_
      refine lv_if_ne (tgt := 31) hx hb dX5_must_24 (by decide) (fun c_24 => ?_) (fun c_24 => ?_)
      · skip
        subst hQ
        exact wq_rv hx hb hr hlocks hP hS dX5_must_31 rfl rfl
      · skip
        exact absurd c_24 (by decide)
    · skip
      exact absurd c_5 (by decide)
  · skip
    have hP : va_P D vwCl (mw cy ad sr kS ot asd stt ik tp (nI T) (nI f) (nI t) vl (nI 0) bo so nu mv) s0.heap := hP
    have hl : lv_has ls 2 [(0, .ref (ad 0)), (1, .int (nI 1))] := hl
    refine lv_aload_n hx hb dX5_must_0 rfl (lv_at hl 0 rfl) ?_
    refine lv_aload_n hx hb dX5_must_1 rfl (lv_at hl 0 rfl) ?_
    refine m_get hx hb hts hin hown hK hP 11 (by decide) (hts (.fieldLink RX5 194 "PennyRoadModel" "isWrong" "Z") (by decide +kernel)) rfl dX5_must_2 ?_
    refine lv_if_ne (tgt := 12) hx hb dX5_must_5 (by decide) (fun c_5 => ?_) (fun c_5 => ?_)
    · skip
      exact absurd c_5 (by decide)
    · skip
      refine lv_iload_n hx hb dX5_must_8 rfl (lv_at hl 1 rfl) ?_
      refine lv_if_ne (tgt := 16) hx hb dX5_must_9 (by decide) (fun c_9 => ?_) (fun c_9 => ?_)
      · skip
        refine lv_iconst (v := nI 0) hx hb dX5_must_16 (by decide) ?_
        refine m_put (w' := (mw cy ad sr kS ot asd stt ik tp (nI T) (nI f) (nI t) vl (nI 0) bo so nu mv)) (ty := .boolean) hx hb hts hin hown hK hP hS 11 (by decide) (hts (.fieldLink RX5 194 "PennyRoadModel" "isWrong" "Z") (by decide +kernel)) rfl (by decide +kernel) rfl rfl rfl dX5_must_17 (fun H locs hP hS => ?_)
        refine lv_aload_n hx hb dX5_must_20 rfl (lv_at hl 0 rfl) ?_
        refine m_get hx hb hts hin hown hK hP 11 (by decide) (hts (.fieldLink RX5 194 "PennyRoadModel" "isWrong" "Z") (by decide +kernel)) rfl dX5_must_21 ?_
        refine lv_if_ne (tgt := 31) hx hb dX5_must_24 (by decide) (fun c_24 => ?_) (fun c_24 => ?_)
        · skip
          exact absurd c_24 (by decide)
        · skip
          refine lv_aload_n hx hb dX5_must_27 rfl (lv_at hl 0 rfl) ?_
          refine wq_V S mK_ok hK hP hS (c_X5_token hT2 (by omega)) gX5_must_X5_token i_X5_token rfl (m_rec hK hP) ⟨Nat.le_of_ble_eq_true rfl, Nat.le_of_ble_eq_true rfl⟩ rfl hl.1 (As := []) (rest := []) (st1 := []) rfl rfl (Nat.le_of_ble_eq_true rfl) ⟨Nat.le_of_ble_eq_true rfl, Nat.le_of_ble_eq_true rfl⟩ dX5_must_28 (fun H locs hP hS => ?_)
          subst hQ
          exact wq_rv hx hb hr hlocks hP hS dX5_must_31 rfl rfl
      · skip
        exact absurd c_9 (by decide)
  · skip
    have hP : va_P D vwCl (mw cy ad sr kS ot asd stt ik tp (nI T) (nI f) (nI t) vl (nI 0) bo so nu mv) s0.heap := hP
    have hl : lv_has ls 2 [(0, .ref (ad 0)), (1, .int (nI 0))] := hl
    refine lv_aload_n hx hb dX5_must_0 rfl (lv_at hl 0 rfl) ?_
    refine lv_aload_n hx hb dX5_must_1 rfl (lv_at hl 0 rfl) ?_
    refine m_get hx hb hts hin hown hK hP 11 (by decide) (hts (.fieldLink RX5 194 "PennyRoadModel" "isWrong" "Z") (by decide +kernel)) rfl dX5_must_2 ?_
    refine lv_if_ne (tgt := 12) hx hb dX5_must_5 (by decide) (fun c_5 => ?_) (fun c_5 => ?_)
    · skip
      exact absurd c_5 (by decide)
    · skip
      refine lv_iload_n hx hb dX5_must_8 rfl (lv_at hl 1 rfl) ?_
      refine lv_if_ne (tgt := 16) hx hb dX5_must_9 (by decide) (fun c_9 => ?_) (fun c_9 => ?_)
      · skip
        exact absurd c_9 (by decide)
      · skip
        refine lv_iconst (v := nI 1) hx hb dX5_must_12 (by decide) ?_
        refine lv_goto (tgt := 17) hx hb dX5_must_13 (by decide) ?_
        refine m_put (w' := (mw cy ad sr kS ot asd stt ik tp (nI T) (nI f) (nI t) vl (nI 1) bo so nu mv)) (ty := .boolean) hx hb hts hin hown hK hP hS 11 (by decide) (hts (.fieldLink RX5 194 "PennyRoadModel" "isWrong" "Z") (by decide +kernel)) rfl (by decide +kernel) rfl rfl rfl dX5_must_17 (fun H locs hP hS => ?_)
        refine lv_aload_n hx hb dX5_must_20 rfl (lv_at hl 0 rfl) ?_
        refine m_get hx hb hts hin hown hK hP 11 (by decide) (hts (.fieldLink RX5 194 "PennyRoadModel" "isWrong" "Z") (by decide +kernel)) rfl dX5_must_21 ?_
        refine lv_if_ne (tgt := 31) hx hb dX5_must_24 (by decide) (fun c_24 => ?_) (fun c_24 => ?_)
        · skip
          subst hQ
          exact wq_rv hx hb hr hlocks hP hS dX5_must_31 rfl rfl
        · skip
          exact absurd c_24 (by decide)
theorem i_X5_must : ciOk yX5_must cX5_must 2 none wsX5_must 1 := ⟨⟨_, rfl⟩, by decide +kernel⟩
set_option maxHeartbeats 1000000 in
set_option maxRecDepth 100000 in
theorem c_X5_word {l : Launch} {D : va_G} {cy : Nat → ClassId} {ad : Nat → Nat} {sr : Nat → Int32} {kS : Nat → Int32} {ot : Nat → Int32} {asd : Nat → Int32} {stt : Nat → Int32} {ik : Int32} {tp : Nat → Int32} {vl : Int32} {bo : Nat → Int32} {so : Nat → Int32} {nu : Nat → Int64} {mv : Nat → Int64} {T : Nat} {f : Nat} {t : Nat} {wb : Bool} (hT2 : T ≤ 120) (hok : okS T (sr, f, t, wb, vl)) : Met l yX5_word wsX5_word (rmz 2 45) (wPre D (mK D cy ad) (mw cy ad sr kS ot asd stt ik tp (nI T) (nI f) (nI t) vl (z (wb = true)) bo so nu mv) [.ref (ad 0)]) (wPost D (mw cy ad sr kS ot asd stt ik tp (nI T) (nI f) (nI t) vl (z (wb = true)) bo so nu mv) (some (.long (wordF tp T (sr, f, t, wb, vl)))) (mA ad)) 0 0 (mA ad) := by
  refine wq_entry rfl rfl (Nat.le_of_ble_eq_true rfl) ?_
  intro p e s0 m args below meth c S hr hlocks hK hP ls hl
  have S : CallFix p m c cX5_word 4 s0 args wsX5_word RX5 := S
  obtain ⟨hx, hb, hml, hown, hts⟩ := id S
  have hin : ∀ w ∈ wsX50, w ∈ wsX5_word := fun w h => List.mem_cons_of_mem _ (List.mem_append_right _ h)
  have hS : va_S (mA ad) s0.heap s0.heap [] := va_S.rf
  have hl : lv_has ls 4 [(0, .ref (ad 0))] := hl
  generalize hQ : MQ below (wPost D (mw cy ad sr kS ot asd stt ik tp (nI T) (nI f) (nI t) vl (z (wb = true)) bo so nu mv) (some (.long (wordF tp T (sr, f, t, wb, vl)))) (mA ad)) args s0 0 0 (mA ad) = Q
  have hft : f ≤ t := hok.1
  have ht2 : t ≤ T := hok.2.1
  refine lv_lconst (v := 0) hx hb dX5_word_0 (by decide) ?_
  refine lv_lstore_n (lv' := [(1, .long (0)), (0, .ref (ad 0))]) hx hb dX5_word_1 rfl hl (by decide) rfl (fun ls hl => ?_)
  refine lv_aload_n hx hb dX5_word_2 rfl (lv_at hl 1 rfl) ?_
  refine m_get hx hb hts hin hown hK hP 8 (by decide) (hts (.fieldLink RX5 182 "PennyRoadModel" "from" "I") (by decide +kernel)) rfl dX5_word_3 ?_
  refine lv_istore_n (lv' := [(3, .int (nI f)), (1, .long (0)), (0, .ref (ad 0))]) hx hb dX5_word_6 rfl hl (by decide) rfl (fun ls hl => ?_)
  have L_7 : ∀ (n : Nat) (k : Nat) (v : Int64) (H : Heap) (locs : List Loc) (ls : Array Slot), (k + n = t) → (wordL tp (t - f) f 0 = wordL tp n k v) → va_P D vwCl (mw cy ad sr kS ot asd stt ik tp (nI T) (nI f) (nI t) vl (z (wb = true)) bo so nu mv) H → va_S (mA ad) s0.heap H locs → lv_has ls 4 [(3, .int (nI k)), (1, .long (v)), (0, .ref (ad 0))] → W p l e (rmz 2 45) s0 m args below meth c H locs 0 0 Q (F0 m 7 ls []) := by
    intro n
    induction n with
    | zero =>
      intro k v H locs ls hj hF hP hS hl
      refine lv_iload_n hx hb dX5_word_7 rfl (lv_at hl 0 rfl) ?_
      refine lv_aload_n hx hb dX5_word_8 rfl (lv_at hl 2 rfl) ?_
      refine m_get hx hb hts hin hown hK hP 9 (by decide) (hts (.fieldLink RX5 179 "PennyRoadModel" "to" "I") (by decide +kernel)) rfl dX5_word_9 ?_
      refine lvn_icmp_ge (tgt := 50) hx hb dX5_word_12 (by decide) (by omega) (by omega) (fun c_12 => ?_) (fun c_12 => ?_)
      · skip
        have hE : wordL tp (t - f) f 0 = v := hF
        refine lv_aload_n hx hb dX5_word_50 rfl (lv_at hl 2 rfl) ?_
        refine m_get hx hb hts hin hown hK hP 11 (by decide) (hts (.fieldLink RX5 194 "PennyRoadModel" "isWrong" "Z") (by decide +kernel)) rfl dX5_word_51 ?_
        refine lvz_if_ne (tgt := 71) hx hb dX5_word_54 (by decide) (fun c_54 => ?_) (fun c_54 => ?_)
        · skip
          refine lv_lconst (v := 0) hx hb dX5_word_71 (by decide) ?_
          refine lv_goto (tgt := 76) hx hb dX5_word_72 (by decide) ?_
          subst hQ
          exact wq_rl hx hb hr hlocks hP hS dX5_word_76 (by first | with_reducible rfl | (simp only [wordF, isLt, if_pos c_12, if_pos c_54]; done) | (simp only [wordF, isLt, hE, if_pos c_12, c_54, Bool.false_eq_true, Bool.true_eq_false, and_true, true_and, false_and, and_false, and_self, not_true_eq_false, not_false_eq_true, if_true, if_false, reduceIte, or_false, false_or, true_or, or_true]; done) | (subst_vars; first | with_reducible rfl | (simp only [wordF, isLt, if_pos c_12, if_pos c_54]; done) | (simp only [wordF, isLt, hE, if_pos c_12, c_54, Bool.false_eq_true, Bool.true_eq_false, and_true, true_and, false_and, and_false, and_self, not_true_eq_false, not_false_eq_true, if_true, if_false, reduceIte, or_false, false_or, true_or, or_true]; done)) | contradiction | rfl) rfl
        · skip
          refine lv_aload_n hx hb dX5_word_57 rfl (lv_at hl 2 rfl) ?_
          refine lv_aload_n hx hb dX5_word_58 rfl (lv_at hl 2 rfl) ?_
          refine m_get hx hb hts hin hown hK hP 8 (by decide) (hts (.fieldLink RX5 182 "PennyRoadModel" "from" "I") (by decide +kernel)) rfl dX5_word_59 ?_
          refine wq_V S mK_ok hK hP hS (c_X5_byteAt hT2 (by omega)) gX5_word_X5_byteAt i_X5_byteAt rfl (m_rec hK hP) ⟨Nat.le_of_ble_eq_true rfl, Nat.le_of_ble_eq_true rfl⟩ rfl hl.1 (As := [.int (nI f)]) (rest := []) (st1 := [.int (bAt tp T f)]) rfl rfl (Nat.le_of_ble_eq_true rfl) ⟨Nat.le_of_ble_eq_true rfl, Nat.le_of_ble_eq_true rfl⟩ dX5_word_62 (fun H locs hP hS => ?_)
          refine sq_S S (c_X5_isLetter) gX5_word_X5_isLetter i_X5_isLetter ⟨Nat.le_of_ble_eq_true rfl, Nat.le_of_ble_eq_true rfl⟩ rfl hl.1 (As := [.int (bAt tp T f)]) (rest := []) (st1 := [.int (z (rg 97 122 (bAt tp T f)))]) rfl rfl (Nat.le_of_ble_eq_true rfl) ⟨Nat.le_of_ble_eq_true rfl, Nat.le_of_ble_eq_true rfl⟩ dX5_word_65 ?_
          refine lvz_if_ne (tgt := 75) hx hb dX5_word_68 (by decide) (fun c_68 => ?_) (fun c_68 => ?_)
          · skip
            refine lv_lload_n hx hb dX5_word_75 rfl (lv_at hl 1 rfl) ?_
            subst hQ
            exact wq_rl hx hb hr hlocks hP hS dX5_word_76 (by first | with_reducible rfl | (simp only [wordF, isLt, if_pos c_12, if_neg c_54, if_pos c_68]; done) | (simp only [wordF, isLt, hE, if_pos c_12, c_54, c_68, Bool.false_eq_true, Bool.true_eq_false, and_true, true_and, false_and, and_false, and_self, not_true_eq_false, not_false_eq_true, if_true, if_false, reduceIte, or_false, false_or, true_or, or_true]; done) | (subst_vars; first | with_reducible rfl | (simp only [wordF, isLt, if_pos c_12, if_neg c_54, if_pos c_68]; done) | (simp only [wordF, isLt, hE, if_pos c_12, c_54, c_68, Bool.false_eq_true, Bool.true_eq_false, and_true, true_and, false_and, and_false, and_self, not_true_eq_false, not_false_eq_true, if_true, if_false, reduceIte, or_false, false_or, true_or, or_true]; done)) | contradiction | rfl) rfl
          · skip
            refine lv_lconst (v := 0) hx hb dX5_word_71 (by decide) ?_
            refine lv_goto (tgt := 76) hx hb dX5_word_72 (by decide) ?_
            subst hQ
            exact wq_rl hx hb hr hlocks hP hS dX5_word_76 (by first | with_reducible rfl | (simp only [wordF, isLt, if_pos c_12, if_neg c_54, if_neg c_68]; done) | (simp only [wordF, isLt, hE, if_pos c_12, c_54, c_68, Bool.false_eq_true, Bool.true_eq_false, and_true, true_and, false_and, and_false, and_self, not_true_eq_false, not_false_eq_true, if_true, if_false, reduceIte, or_false, false_or, true_or, or_true]; done) | (subst_vars; first | with_reducible rfl | (simp only [wordF, isLt, if_pos c_12, if_neg c_54, if_neg c_68]; done) | (simp only [wordF, isLt, hE, if_pos c_12, c_54, c_68, Bool.false_eq_true, Bool.true_eq_false, and_true, true_and, false_and, and_false, and_self, not_true_eq_false, not_false_eq_true, if_true, if_false, reduceIte, or_false, false_or, true_or, or_true]; done)) | contradiction | rfl) rfl
      · skip
        exfalso; omega
    | succ n ih_7 =>
      intro k v H locs ls hj hF hP hS hl
      refine lv_iload_n hx hb dX5_word_7 rfl (lv_at hl 0 rfl) ?_
      refine lv_aload_n hx hb dX5_word_8 rfl (lv_at hl 2 rfl) ?_
      refine m_get hx hb hts hin hown hK hP 9 (by decide) (hts (.fieldLink RX5 179 "PennyRoadModel" "to" "I") (by decide +kernel)) rfl dX5_word_9 ?_
      refine lvn_icmp_ge (tgt := 50) hx hb dX5_word_12 (by decide) (by omega) (by omega) (fun c_12 => ?_) (fun c_12 => ?_)
      · skip
        exfalso; omega
      · skip
        refine lv_lload_n hx hb dX5_word_15 rfl (lv_at hl 1 rfl) ?_
        refine lv_ldc2 (v := 36028797018963967) hx hb hown (hts (.constantLong RX5 201 (36028797018963967)) (by decide +kernel)) dX5_word_16 ?_
        refine W.lcmp hx hb dX5_word_19 ?_
        have K_1 : ∀ (x_2 : Int64) (H : Heap) (locs : List Loc) (ls : Array Slot), x_2 = (if (v) ≤ (36028797018963967) then (((32) * (v)) + (((tp k) - (nI 96)).toInt64)) else v) → va_P D vwCl (mw cy ad sr kS ot asd stt ik tp (nI T) (nI f) (nI t) vl (z (wb = true)) bo so nu mv) H → va_S (mA ad) s0.heap H locs → lv_has ls 4 [(3, .int (nI k)), (1, .long (v)), (0, .ref (ad 0))] → W p l e (rmz 2 45) s0 m args below meth c H locs 0 0 Q (F0 m 43 ls [.long (x_2)]) := by
          intro x_2 H locs ls ex_2 hP hS hl
          refine lv_lstore_n (lv' := [(1, .long (x_2)), (3, .int (nI k)), (0, .ref (ad 0))]) hx hb dX5_word_43 rfl hl (by decide) rfl (fun ls hl => ?_)
          refine lv_iinc (v := nI (k + 1)) (lv' := [(3, .int (nI (k + 1))), (1, .long (x_2)), (0, .ref (ad 0))]) hx hb dX5_word_44 hl (k := 1) rfl (nI_add _ _) (by decide) rfl (fun ls hl => ?_)
          refine lv_goto (tgt := 7) hx hb dX5_word_47 (by decide) ?_
          exact ih_7 (k + 1) _ _ _ ls (by omega) (by subst ex_2; exact hF) hP hS hl
        refine lv_if_le (tgt := 27) hx hb dX5_word_20 (by decide) (fun c_20 => ?_) (fun c_20 => ?_)
        · skip
          rw [lg_cmp_le] at c_20
          refine lv_ldc2 (v := 32) hx hb hown (hts (.constantLong RX5 203 (32)) (by decide +kernel)) dX5_word_27 ?_
          refine lv_lload_n hx hb dX5_word_30 rfl (lv_at hl 1 rfl) ?_
          refine lv_lmul hx hb dX5_word_31 ?_
          refine lv_aload_n hx hb dX5_word_32 rfl (lv_at hl 2 rfl) ?_
          refine m_get hx hb hts hin hown hK hP 6 (by decide) (hts (.fieldLink RX5 25 "PennyRoadModel" "tape" "[I") (by decide +kernel)) rfl dX5_word_33 ?_
          refine lv_iload_n hx hb dX5_word_36 rfl (lv_at hl 0 rfl) ?_
          refine m_ald hx hb hK hP 6 rfl (by decide) (by omega) dX5_word_37 ?_
          refine lv_bipush (v := nI 96) hx hb dX5_word_38 (by decide) ?_
          refine lv_isub hx hb dX5_word_40 ?_
          refine lv_i2l (v := ((tp k) - (nI 96)).toInt64) hx hb dX5_word_41 rfl ?_
          refine lv_ladd hx hb dX5_word_42 ?_
          exact K_1 (((32) * (v)) + (((tp k) - (nI 96)).toInt64)) _ _ ls (by simp only [if_pos c_20]) hP hS hl
        · skip
          rw [lg_cmp_le] at c_20
          refine lv_lload_n hx hb dX5_word_23 rfl (lv_at hl 1 rfl) ?_
          refine lv_goto (tgt := 43) hx hb dX5_word_24 (by decide) ?_
          exact K_1 (v) _ _ ls (by simp only [if_neg c_20]) hP hS hl
  exact L_7 (t - f) f 0 _ _ ls (by omega) rfl hP hS hl
theorem i_X5_word : ciOk yX5_word cX5_word 4 (some .long) wsX5_word 0 := ⟨⟨_, rfl⟩, by decide +kernel⟩
set_option maxHeartbeats 1000000 in
set_option maxRecDepth 100000 in
theorem c_X5_number {l : Launch} {D : va_G} {cy : Nat → ClassId} {ad : Nat → Nat} {sr : Nat → Int32} {kS : Nat → Int32} {ot : Nat → Int32} {asd : Nat → Int32} {stt : Nat → Int32} {ik : Int32} {tp : Nat → Int32} {vl : Int32} {bo : Nat → Int32} {so : Nat → Int32} {nu : Nat → Int64} {mv : Nat → Int64} {T : Nat} {f : Nat} {t : Nat} {wb : Bool} {h : Nat} (hT2 : T ≤ 120) (hok : okS T (sr, f, t, wb, vl)) (hh : h < 2 ^ 31) : Met l yX5_number wsX5_number (rmz 4 88) (wPre D (mK D cy ad) (mw cy ad sr kS ot asd stt ik tp (nI T) (nI f) (nI t) vl (z (wb = true)) bo so nu mv) [.ref (ad 0), .int (nI 0), .int (nI h)]) (wPost D (mw cy ad ((numP tp T h (sr, f, t, wb, vl)).1) kS ot asd stt ik tp (nI T) (nI (numP tp T h (sr, f, t, wb, vl)).2.1) (nI (numP tp T h (sr, f, t, wb, vl)).2.2.1) ((numP tp T h (sr, f, t, wb, vl)).2.2.2.2) (z ((numP tp T h (sr, f, t, wb, vl)).2.2.2.1 = true)) bo so nu mv) none (mA ad)) 0 0 (mA ad) := by
  refine wq_entry rfl rfl (Nat.le_of_ble_eq_true rfl) ?_
  intro p e s0 m args below meth c S hr hlocks hK hP ls hl
  have S : CallFix p m c cX5_number 6 s0 args wsX5_number RX5 := S
  obtain ⟨hx, hb, hml, hown, hts⟩ := id S
  have hin : ∀ w ∈ wsX50, w ∈ wsX5_number := fun w h => List.mem_cons_of_mem _ (List.mem_append_right _ h)
  have hS : va_S (mA ad) s0.heap s0.heap [] := va_S.rf
  have hl : lv_has ls 6 [(0, .ref (ad 0)), (1, .int (nI 0)), (2, .int (nI h))] := hl
  generalize hQ : MQ below (wPost D (mw cy ad ((numP tp T h (sr, f, t, wb, vl)).1) kS ot asd stt ik tp (nI T) (nI (numP tp T h (sr, f, t, wb, vl)).2.1) (nI (numP tp T h (sr, f, t, wb, vl)).2.2.1) ((numP tp T h (sr, f, t, wb, vl)).2.2.2.2) (z ((numP tp T h (sr, f, t, wb, vl)).2.2.2.1 = true)) bo so nu mv) none (mA ad)) args s0 0 0 (mA ad) = Q
  have hft : f ≤ t := hok.1
  have ht2 : t ≤ T := hok.2.1
  cases wb with
  | true =>
    have hP : va_P D vwCl (mw cy ad sr kS ot asd stt ik tp (nI T) (nI f) (nI t) vl (nI 1) bo so nu mv) s0.heap := hP
    refine lv_aload_n hx hb dX5_number_0 rfl (lv_at hl 0 rfl) ?_
    refine m_get hx hb hts hin hown hK hP 11 (by decide) (hts (.fieldLink RX5 194 "PennyRoadModel" "isWrong" "Z") (by decide +kernel)) rfl dX5_number_1 ?_
    refine lv_if_eq (tgt := 8) hx hb dX5_number_4 (by decide) (fun c_4 => ?_) (fun c_4 => ?_)
    · skip
      exact absurd c_4 (by decide)
    · skip
      subst hQ
      exact wq_rv hx hb hr hlocks hP hS dX5_number_7 rfl rfl
  | false =>
    have hP : va_P D vwCl (mw cy ad sr kS ot asd stt ik tp (nI T) (nI f) (nI t) vl (nI 0) bo so nu mv) s0.heap := hP
    refine lv_aload_n hx hb dX5_number_0 rfl (lv_at hl 0 rfl) ?_
    refine m_get hx hb hts hin hown hK hP 11 (by decide) (hts (.fieldLink RX5 194 "PennyRoadModel" "isWrong" "Z") (by decide +kernel)) rfl dX5_number_1 ?_
    refine lv_if_eq (tgt := 8) hx hb dX5_number_4 (by decide) (fun c_4 => ?_) (fun c_4 => ?_)
    · skip
      refine lv_aload_n hx hb dX5_number_8 rfl (lv_at hl 0 rfl) ?_
      refine lv_aload_n hx hb dX5_number_9 rfl (lv_at hl 0 rfl) ?_
      refine m_get hx hb hts hin hown hK hP 8 (by decide) (hts (.fieldLink RX5 182 "PennyRoadModel" "from" "I") (by decide +kernel)) rfl dX5_number_10 ?_
      refine wq_V S mK_ok hK hP hS (c_X5_byteAt hT2 (by omega)) gX5_number_X5_byteAt i_X5_byteAt rfl (m_rec hK hP) ⟨Nat.le_of_ble_eq_true rfl, Nat.le_of_ble_eq_true rfl⟩ rfl hl.1 (As := [.int (nI f)]) (rest := []) (st1 := [.int (bAt tp T f)]) rfl rfl (Nat.le_of_ble_eq_true rfl) ⟨Nat.le_of_ble_eq_true rfl, Nat.le_of_ble_eq_true rfl⟩ dX5_number_13 (fun H locs hP hS => ?_)
      refine sq_S S (c_X5_isDigit) gX5_number_X5_isDigit i_X5_isDigit ⟨Nat.le_of_ble_eq_true rfl, Nat.le_of_ble_eq_true rfl⟩ rfl hl.1 (As := [.int (bAt tp T f)]) (rest := []) (st1 := [.int (z (rg 48 57 (bAt tp T f)))]) rfl rfl (Nat.le_of_ble_eq_true rfl) ⟨Nat.le_of_ble_eq_true rfl, Nat.le_of_ble_eq_true rfl⟩ dX5_number_16 ?_
      by_cases c_dg : rg 48 57 (bAt tp T f) = true
      · skip
        refine lv_top (z_t c_dg) ?_
        refine lv_istore_n (lv' := [(3, .int (nI 1)), (0, .ref (ad 0)), (1, .int (nI 0)), (2, .int (nI h))]) hx hb dX5_number_19 rfl hl (by decide) rfl (fun ls hl => ?_)
        refine lv_iconst (v := nI 0) hx hb dX5_number_20 (by decide) ?_
        refine lv_istore (lv' := [(4, .int (nI 0)), (3, .int (nI 1)), (0, .ref (ad 0)), (1, .int (nI 0)), (2, .int (nI h))]) hx hb dX5_number_21 hl (by decide) rfl (fun ls hl => ?_)
        refine lv_aload_n hx hb dX5_number_23 rfl (lv_at hl 2 rfl) ?_
        refine m_get hx hb hts hin hown hK hP 8 (by decide) (hts (.fieldLink RX5 182 "PennyRoadModel" "from" "I") (by decide +kernel)) rfl dX5_number_24 ?_
        refine lv_istore (lv' := [(5, .int (nI f)), (4, .int (nI 0)), (3, .int (nI 1)), (0, .ref (ad 0)), (1, .int (nI 0)), (2, .int (nI h))]) hx hb dX5_number_27 hl (by decide) rfl (fun ls hl => ?_)
        have L_29 : ∀ (n : Nat) (k : Nat) (v : Int32) (H : Heap) (locs : List Loc) (ls : Array Slot), (k + n = t) → (numL tp (t - f) f (nI 0) = numL tp n k v) → va_P D vwCl (mw cy ad sr kS ot asd stt ik tp (nI T) (nI f) (nI t) vl (nI 0) bo so nu mv) H → va_S (mA ad) s0.heap H locs → lv_has ls 6 [(5, .int (nI k)), (4, .int (v)), (3, .int (nI 1)), (0, .ref (ad 0)), (1, .int (nI 0)), (2, .int (nI h))] → W p l e (rmz 4 88) s0 m args below meth c H locs 0 0 Q (F0 m 29 ls []) := by
          intro n
          induction n with
          | zero =>
            intro k v H locs ls hj hF hP hS hl
            refine lv_iload hx hb dX5_number_29 (lv_at hl 0 rfl) ?_
            refine lv_aload_n hx hb dX5_number_31 rfl (lv_at hl 3 rfl) ?_
            refine m_get hx hb hts hin hown hK hP 9 (by decide) (hts (.fieldLink RX5 179 "PennyRoadModel" "to" "I") (by decide +kernel)) rfl dX5_number_32 ?_
            refine lvn_icmp_ge (tgt := 79) hx hb dX5_number_35 (by decide) (by omega) (by omega) (fun c_35 => ?_) (fun c_35 => ?_)
            · skip
              have hE : numV tp T f t = v := (if_pos c_dg).trans hF
              refine lv_aload_n hx hb dX5_number_79 rfl (lv_at hl 3 rfl) ?_
              refine lv_iload hx hb dX5_number_80 (lv_at hl 1 rfl) ?_
              refine m_put (w' := (mw cy ad sr kS ot asd stt ik tp (nI T) (nI f) (nI t) v (nI 0) bo so nu mv)) (ty := .int) hx hb hts hin hown hK hP hS 10 (by decide) (hts (.fieldLink RX5 205 "PennyRoadModel" "value" "I") (by decide +kernel)) rfl (by decide +kernel) rfl rfl rfl dX5_number_82 (fun H locs hP hS => ?_)
              refine lv_aload_n hx hb dX5_number_85 rfl (lv_at hl 3 rfl) ?_
              refine lv_iload_n hx hb dX5_number_86 rfl (lv_at hl 2 rfl) ?_
              refine lv_if_eq (tgt := 107) hx hb dX5_number_87 (by decide) (fun c_87 => ?_) (fun c_87 => ?_)
              · skip
                exact absurd c_87 (by decide)
              · skip
                refine lv_iload hx hb dX5_number_90 (lv_at hl 1 rfl) ?_
                refine lv_i2l (v := (v).toInt64) hx hb dX5_number_92 rfl ?_
                refine lv_iload_n hx hb dX5_number_93 rfl (lv_at hl 4 rfl) ?_
                refine lv_i2l (v := (nI 0).toInt64) hx hb dX5_number_94 rfl ?_
                refine lv_iload_n hx hb dX5_number_95 rfl (lv_at hl 5 rfl) ?_
                refine lv_i2l (v := (nI h).toInt64) hx hb dX5_number_96 rfl ?_
                refine sq_S S (c_X5_inN (by omega) (by omega)) gX5_number_X5_in i_X5_in ⟨Nat.le_of_ble_eq_true rfl, Nat.le_of_ble_eq_true rfl⟩ rfl hl.1 (As := [.long ((v).toInt64), .long ((nI 0).toInt64), .long ((nI h).toInt64)]) (rest := [.ref (ad 0)]) (st1 := [.int (z (rg 0 h (v))), .ref (ad 0)]) rfl rfl (Nat.le_of_ble_eq_true rfl) ⟨Nat.le_of_ble_eq_true rfl, Nat.le_of_ble_eq_true rfl⟩ dX5_number_97 ?_
                refine lvz_if_eq (tgt := 107) hx hb dX5_number_100 (by decide) (fun c_100 => ?_) (fun c_100 => ?_)
                · skip
                  refine lv_iconst (v := nI 0) hx hb dX5_number_107 (by decide) ?_
                  refine wq_V S mK_ok hK hP hS (c_X5_must (pb := false) (wb := false) hT2 hok) gX5_number_X5_must i_X5_must rfl (m_rec hK hP) ⟨Nat.le_of_ble_eq_true rfl, Nat.le_of_ble_eq_true rfl⟩ rfl hl.1 (As := [.int (nI 0)]) (rest := []) (st1 := []) rfl rfl (Nat.le_of_ble_eq_true rfl) ⟨Nat.le_of_ble_eq_true rfl, Nat.le_of_ble_eq_true rfl⟩ dX5_number_108 (fun H locs hP hS => ?_)
                  generalize hhS_1 : mustP tp T false (sr, f, t, false, v) = S_1 at hP
                  have hokS_1 : okS T S_1 := by rw [← hhS_1]; exact mustP_ok hok
                  subst hQ
                  exact wq_rv hx hb hr hlocks hP hS dX5_number_111 rfl (by subst hhS_1; rw [show numP tp T h (sr, f, t, false, vl) = mustP tp T false (sr, f, t, false, (v)) from by show mustP tp T (isDg tp T f && rg 0 h (numV tp T f t)) (sr, f, t, false, numV tp T f t) = _; rw [hE, show (isDg tp T f && rg 0 h (v)) = false from (by rw [show isDg tp T f = true from c_dg, Bool.eq_false_iff.mpr c_100]; rfl)]])
                · skip
                  refine lv_iconst (v := nI 1) hx hb dX5_number_103 (by decide) ?_
                  refine lv_goto (tgt := 108) hx hb dX5_number_104 (by decide) ?_
                  refine wq_V S mK_ok hK hP hS (c_X5_must (pb := true) (wb := false) hT2 hok) gX5_number_X5_must i_X5_must rfl (m_rec hK hP) ⟨Nat.le_of_ble_eq_true rfl, Nat.le_of_ble_eq_true rfl⟩ rfl hl.1 (As := [.int (nI 1)]) (rest := []) (st1 := []) rfl rfl (Nat.le_of_ble_eq_true rfl) ⟨Nat.le_of_ble_eq_true rfl, Nat.le_of_ble_eq_true rfl⟩ dX5_number_108 (fun H locs hP hS => ?_)
                  generalize hhS_2 : mustP tp T true (sr, f, t, false, v) = S_2 at hP
                  have hokS_2 : okS T S_2 := by rw [← hhS_2]; exact mustP_ok hok
                  subst hQ
                  exact wq_rv hx hb hr hlocks hP hS dX5_number_111 rfl (by subst hhS_2; rw [show numP tp T h (sr, f, t, false, vl) = mustP tp T true (sr, f, t, false, (v)) from by show mustP tp T (isDg tp T f && rg 0 h (numV tp T f t)) (sr, f, t, false, numV tp T f t) = _; rw [hE, show (isDg tp T f && rg 0 h (v)) = true from (by rw [show isDg tp T f = true from c_dg, c_100]; rfl)]])
            · skip
              exfalso; omega
          | succ n ih_29 =>
            intro k v H locs ls hj hF hP hS hl
            refine lv_iload hx hb dX5_number_29 (lv_at hl 0 rfl) ?_
            refine lv_aload_n hx hb dX5_number_31 rfl (lv_at hl 3 rfl) ?_
            refine m_get hx hb hts hin hown hK hP 9 (by decide) (hts (.fieldLink RX5 179 "PennyRoadModel" "to" "I") (by decide +kernel)) rfl dX5_number_32 ?_
            refine lvn_icmp_ge (tgt := 79) hx hb dX5_number_35 (by decide) (by omega) (by omega) (fun c_35 => ?_) (fun c_35 => ?_)
            · skip
              exfalso; omega
            · skip
              refine lv_iload_n hx hb dX5_number_38 rfl (lv_at hl 2 rfl) ?_
              refine lv_if_eq (tgt := 79) hx hb dX5_number_39 (by decide) (fun c_39 => ?_) (fun c_39 => ?_)
              · skip
                exact absurd c_39 (by decide)
              · skip
                refine lv_iload hx hb dX5_number_42 (lv_at hl 1 rfl) ?_
                refine lv_sipush (v := nI 9999) hx hb dX5_number_44 (by decide) ?_
                have K_3 : ∀ (x_4 : Int32) (H : Heap) (locs : List Loc) (ls : Array Slot), x_4 = (if (v) ≤ (nI 9999) then ((((nI 10) * (v)) + (tp k)) - (nI 48)) else v) → va_P D vwCl (mw cy ad sr kS ot asd stt ik tp (nI T) (nI f) (nI t) vl (nI 0) bo so nu mv) H → va_S (mA ad) s0.heap H locs → lv_has ls 6 [(5, .int (nI k)), (4, .int (v)), (3, .int (nI 1)), (0, .ref (ad 0)), (1, .int (nI 0)), (2, .int (nI h))] → W p l e (rmz 4 88) s0 m args below meth c H locs 0 0 Q (F0 m 71 ls [.int (x_4)]) := by
                  intro x_4 H locs ls ex_4 hP hS hl
                  refine lv_istore (lv' := [(4, .int (x_4)), (5, .int (nI k)), (3, .int (nI 1)), (0, .ref (ad 0)), (1, .int (nI 0)), (2, .int (nI h))]) hx hb dX5_number_71 hl (by decide) rfl (fun ls hl => ?_)
                  refine lv_iinc (v := nI (k + 1)) (lv' := [(5, .int (nI (k + 1))), (4, .int (x_4)), (3, .int (nI 1)), (0, .ref (ad 0)), (1, .int (nI 0)), (2, .int (nI h))]) hx hb dX5_number_73 hl (k := 1) rfl (nI_add _ _) (by decide) rfl (fun ls hl => ?_)
                  refine lv_goto (tgt := 29) hx hb dX5_number_76 (by decide) ?_
                  exact ih_29 (k + 1) _ _ _ ls (by omega) (by subst ex_4; exact hF) hP hS hl
                refine lv_icmp_le (tgt := 55) hx hb dX5_number_47 (by decide) (fun c_47 => ?_) (fun c_47 => ?_)
                · skip
                  refine lv_bipush (v := nI 10) hx hb dX5_number_55 (by decide) ?_
                  refine lv_iload hx hb dX5_number_57 (lv_at hl 1 rfl) ?_
                  refine lv_imul hx hb dX5_number_59 ?_
                  refine lv_aload_n hx hb dX5_number_60 rfl (lv_at hl 3 rfl) ?_
                  refine m_get hx hb hts hin hown hK hP 6 (by decide) (hts (.fieldLink RX5 25 "PennyRoadModel" "tape" "[I") (by decide +kernel)) rfl dX5_number_61 ?_
                  refine lv_iload hx hb dX5_number_64 (lv_at hl 0 rfl) ?_
                  refine m_ald hx hb hK hP 6 rfl (by decide) (by omega) dX5_number_66 ?_
                  refine lv_iadd hx hb dX5_number_67 ?_
                  refine lv_bipush (v := nI 48) hx hb dX5_number_68 (by decide) ?_
                  refine lv_isub hx hb dX5_number_70 ?_
                  exact K_3 ((((nI 10) * (v)) + (tp k)) - (nI 48)) _ _ ls (by simp only [if_pos c_47]) hP hS hl
                · skip
                  refine lv_iload hx hb dX5_number_50 (lv_at hl 1 rfl) ?_
                  refine lv_goto (tgt := 71) hx hb dX5_number_52 (by decide) ?_
                  exact K_3 (v) _ _ ls (by simp only [if_neg c_47]) hP hS hl
        exact L_29 (t - f) f (nI 0) _ _ ls (by omega) rfl hP hS hl
      · skip
        refine lv_top (z_f c_dg) ?_
        refine lv_istore_n (lv' := [(3, .int (nI 0)), (0, .ref (ad 0)), (1, .int (nI 0)), (2, .int (nI h))]) hx hb dX5_number_19 rfl hl (by decide) rfl (fun ls hl => ?_)
        refine lv_iconst (v := nI 0) hx hb dX5_number_20 (by decide) ?_
        refine lv_istore (lv' := [(4, .int (nI 0)), (3, .int (nI 0)), (0, .ref (ad 0)), (1, .int (nI 0)), (2, .int (nI h))]) hx hb dX5_number_21 hl (by decide) rfl (fun ls hl => ?_)
        refine lv_aload_n hx hb dX5_number_23 rfl (lv_at hl 2 rfl) ?_
        refine m_get hx hb hts hin hown hK hP 8 (by decide) (hts (.fieldLink RX5 182 "PennyRoadModel" "from" "I") (by decide +kernel)) rfl dX5_number_24 ?_
        refine lv_istore (lv' := [(5, .int (nI f)), (4, .int (nI 0)), (3, .int (nI 0)), (0, .ref (ad 0)), (1, .int (nI 0)), (2, .int (nI h))]) hx hb dX5_number_27 hl (by decide) rfl (fun ls hl => ?_)
        refine lv_iload hx hb dX5_number_29 (lv_at hl 0 rfl) ?_
        refine lv_aload_n hx hb dX5_number_31 rfl (lv_at hl 3 rfl) ?_
        refine m_get hx hb hts hin hown hK hP 9 (by decide) (hts (.fieldLink RX5 179 "PennyRoadModel" "to" "I") (by decide +kernel)) rfl dX5_number_32 ?_
        refine lvn_icmp_ge (tgt := 79) hx hb dX5_number_35 (by decide) (by omega) (by omega) (fun c_35 => ?_) (fun c_35 => ?_)
        · skip
          have hE : numV tp T f t = nI 0 := if_neg c_dg
          refine lv_aload_n hx hb dX5_number_79 rfl (lv_at hl 3 rfl) ?_
          refine lv_iload hx hb dX5_number_80 (lv_at hl 1 rfl) ?_
          refine m_put (w' := (mw cy ad sr kS ot asd stt ik tp (nI T) (nI f) (nI t) (nI 0) (nI 0) bo so nu mv)) (ty := .int) hx hb hts hin hown hK hP hS 10 (by decide) (hts (.fieldLink RX5 205 "PennyRoadModel" "value" "I") (by decide +kernel)) rfl (by decide +kernel) rfl rfl rfl dX5_number_82 (fun H locs hP hS => ?_)
          refine lv_aload_n hx hb dX5_number_85 rfl (lv_at hl 3 rfl) ?_
          refine lv_iload_n hx hb dX5_number_86 rfl (lv_at hl 2 rfl) ?_
          refine lv_if_eq (tgt := 107) hx hb dX5_number_87 (by decide) (fun c_87 => ?_) (fun c_87 => ?_)
          · skip
            refine lv_iconst (v := nI 0) hx hb dX5_number_107 (by decide) ?_
            refine wq_V S mK_ok hK hP hS (c_X5_must (pb := false) (wb := false) hT2 hok) gX5_number_X5_must i_X5_must rfl (m_rec hK hP) ⟨Nat.le_of_ble_eq_true rfl, Nat.le_of_ble_eq_true rfl⟩ rfl hl.1 (As := [.int (nI 0)]) (rest := []) (st1 := []) rfl rfl (Nat.le_of_ble_eq_true rfl) ⟨Nat.le_of_ble_eq_true rfl, Nat.le_of_ble_eq_true rfl⟩ dX5_number_108 (fun H locs hP hS => ?_)
            generalize hhS_5 : mustP tp T false (sr, f, t, false, nI 0) = S_5 at hP
            have hokS_5 : okS T S_5 := by rw [← hhS_5]; exact mustP_ok hok
            subst hQ
            exact wq_rv hx hb hr hlocks hP hS dX5_number_111 rfl (by subst hhS_5; rw [show numP tp T h (sr, f, t, false, vl) = mustP tp T false (sr, f, t, false, (nI 0)) from by show mustP tp T (isDg tp T f && rg 0 h (numV tp T f t)) (sr, f, t, false, numV tp T f t) = _; rw [hE, show (isDg tp T f && rg 0 h (nI 0)) = false from (by rw [show isDg tp T f = false from Bool.eq_false_iff.mpr c_dg]; rfl)]])
          · skip
            exact absurd c_87 (by decide)
        · skip
          refine lv_iload_n hx hb dX5_number_38 rfl (lv_at hl 2 rfl) ?_
          refine lv_if_eq (tgt := 79) hx hb dX5_number_39 (by decide) (fun c_39 => ?_) (fun c_39 => ?_)
          · skip
            have hE : numV tp T f t = nI 0 := if_neg c_dg
            refine lv_aload_n hx hb dX5_number_79 rfl (lv_at hl 3 rfl) ?_
            refine lv_iload hx hb dX5_number_80 (lv_at hl 1 rfl) ?_
            refine m_put (w' := (mw cy ad sr kS ot asd stt ik tp (nI T) (nI f) (nI t) (nI 0) (nI 0) bo so nu mv)) (ty := .int) hx hb hts hin hown hK hP hS 10 (by decide) (hts (.fieldLink RX5 205 "PennyRoadModel" "value" "I") (by decide +kernel)) rfl (by decide +kernel) rfl rfl rfl dX5_number_82 (fun H locs hP hS => ?_)
            refine lv_aload_n hx hb dX5_number_85 rfl (lv_at hl 3 rfl) ?_
            refine lv_iload_n hx hb dX5_number_86 rfl (lv_at hl 2 rfl) ?_
            refine lv_if_eq (tgt := 107) hx hb dX5_number_87 (by decide) (fun c_87 => ?_) (fun c_87 => ?_)
            · skip
              refine lv_iconst (v := nI 0) hx hb dX5_number_107 (by decide) ?_
              refine wq_V S mK_ok hK hP hS (c_X5_must (pb := false) (wb := false) hT2 hok) gX5_number_X5_must i_X5_must rfl (m_rec hK hP) ⟨Nat.le_of_ble_eq_true rfl, Nat.le_of_ble_eq_true rfl⟩ rfl hl.1 (As := [.int (nI 0)]) (rest := []) (st1 := []) rfl rfl (Nat.le_of_ble_eq_true rfl) ⟨Nat.le_of_ble_eq_true rfl, Nat.le_of_ble_eq_true rfl⟩ dX5_number_108 (fun H locs hP hS => ?_)
              generalize hhS_6 : mustP tp T false (sr, f, t, false, nI 0) = S_6 at hP
              have hokS_6 : okS T S_6 := by rw [← hhS_6]; exact mustP_ok hok
              subst hQ
              exact wq_rv hx hb hr hlocks hP hS dX5_number_111 rfl (by subst hhS_6; rw [show numP tp T h (sr, f, t, false, vl) = mustP tp T false (sr, f, t, false, (nI 0)) from by show mustP tp T (isDg tp T f && rg 0 h (numV tp T f t)) (sr, f, t, false, numV tp T f t) = _; rw [hE, show (isDg tp T f && rg 0 h (nI 0)) = false from (by rw [show isDg tp T f = false from Bool.eq_false_iff.mpr c_dg]; rfl)]])
            · skip
              exact absurd c_87 (by decide)
          · skip
            exact absurd c_39 (by decide)
    · skip
      exact absurd c_4 (by decide)
theorem i_X5_number : ciOk yX5_number cX5_number 6 none wsX5_number 2 := ⟨⟨_, rfl⟩, by decide +kernel⟩
