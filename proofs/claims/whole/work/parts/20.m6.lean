set_option maxHeartbeats 1000000 in
set_option maxRecDepth 100000 in
theorem c_X5_richest {l : Launch} {D : va_G} {cy : Nat → ClassId} {ad : Nat → Nat} {sr kS ot asd stt : Nat → Int32} {ik : Int32} {tp : Nat → Int32} {td fr tt vl wr : Int32} {bo so : Nat → Int32} {nu mv : Nat → Int64} {q : Int32} {N : Nat} (hN : sr 0 = nI N) (h8 : N ≤ 8) : Met l yX5_richest wsX5_richest (rmz 7 156) (wPre D (mK D cy ad) (mw cy ad sr kS ot asd stt ik tp td fr tt vl wr bo so nu mv) [.ref (ad 0), .int (q)]) (mPub D cy ad (some (.int (if rg 0 200 q then (if 0 ≤ pm (richL (hrsF N q.toNatClampNeg sr) N 0 0) then pm (richL (hrsF N q.toNatClampNeg sr) N 0 0) else -1000000004) else -1000000001))) sr kS (if rg 0 200 q then (if 0 ≤ pm (richL (hrsF N q.toNatClampNeg sr) N 0 0) then stt else fnd stt 3) else fnd stt 0) ik tp td bo so nu) 0 0 (mA ad) := by
  refine wq_entry rfl rfl (Nat.le_of_ble_eq_true rfl) ?_
  intro p e s0 m args below meth c S hr hlocks hK hP ls hl
  have S : CallFix p m c cX5_richest 4 s0 args wsX5_richest RX5 := S
  obtain ⟨hx, hb, hml, hown, hts⟩ := id S
  have hin : ∀ w ∈ wsX50, w ∈ wsX5_richest := fun w h => List.mem_cons_of_mem _ (List.mem_append_right _ h)
  have hS : va_S (mA ad) s0.heap s0.heap [] := va_S.rf
  have hl : lv_has ls 4 [(0, .ref (ad 0)), (1, .int (q))] := hl
  generalize hQ : MQ below (mPub D cy ad (some (.int (if rg 0 200 q then (if 0 ≤ pm (richL (hrsF N q.toNatClampNeg sr) N 0 0) then pm (richL (hrsF N q.toNatClampNeg sr) N 0 0) else -1000000004) else -1000000001))) sr kS (if rg 0 200 q then (if 0 ≤ pm (richL (hrsF N q.toNatClampNeg sr) N 0 0) then stt else fnd stt 3) else fnd stt 0) ik tp td bo so nu) args s0 0 0 (mA ad) = Q
  refine lv_iload_n hx hb dX5_richest_0 rfl (lv_at hl 1 rfl) ?_
  refine lv_i2l (v := (q).toInt64) hx hb dX5_richest_1 rfl ?_
  refine lv_lconst (v := 0) hx hb dX5_richest_2 (by decide) ?_
  refine lv_ldc2 (v := 200) hx hb hown (hts (.constantLong RX5 122 (200)) (by decide +kernel)) dX5_richest_3 ?_
  refine sq_S S (c_X5_inY) gX5_richest_X5_in i_X5_in ⟨Nat.le_of_ble_eq_true rfl, Nat.le_of_ble_eq_true rfl⟩ rfl hl.1 (As := [.long ((q).toInt64), .long (0), .long (200)]) (rest := []) (st1 := [.int (z (rg 0 200 (q)))]) rfl rfl (Nat.le_of_ble_eq_true rfl) ⟨Nat.le_of_ble_eq_true rfl, Nat.le_of_ble_eq_true rfl⟩ dX5_richest_6 ?_
  refine lvz_if_ne (tgt := 19) hx hb dX5_richest_9 (by decide) (fun c_9 => ?_) (fun c_9 => ?_)
  · skip
    obtain ⟨h, h_h, h_h2, rfl⟩ := rg_ix (a := 0) (b := 200) (by decide) c_9
    have hcl_h : (nI h).toNatClampNeg = h := nI_clamp (by omega)
    refine lv_aload_n hx hb dX5_richest_19 rfl (lv_at hl 0 rfl) ?_
    refine wq_V S mK_ok hK hP hS (c_X5_laysAside) gX5_richest_X5_laysAside i_X5_laysAside rfl (m_rec hK hP) ⟨Nat.le_of_ble_eq_true rfl, Nat.le_of_ble_eq_true rfl⟩ rfl hl.1 (As := []) (rest := []) (st1 := []) rfl rfl (Nat.le_of_ble_eq_true rfl) ⟨Nat.le_of_ble_eq_true rfl, Nat.le_of_ble_eq_true rfl⟩ dX5_richest_20 (fun H locs hP hS => ?_)
    refine lv_aload_n hx hb dX5_richest_23 rfl (lv_at hl 0 rfl) ?_
    refine lv_iload_n hx hb dX5_richest_24 rfl (lv_at hl 1 rfl) ?_
    refine wq_V S mK_ok hK hP hS (c_X5_hoursGo hN h8 (by omega)) gX5_richest_X5_hoursGo i_X5_hoursGo rfl (m_rec hK hP) ⟨Nat.le_of_ble_eq_true rfl, Nat.le_of_ble_eq_true rfl⟩ rfl hl.1 (As := [.int (nI h)]) (rest := []) (st1 := []) rfl rfl (Nat.le_of_ble_eq_true rfl) ⟨Nat.le_of_ble_eq_true rfl, Nat.le_of_ble_eq_true rfl⟩ dX5_richest_25 (fun H locs hP hS => ?_)
    refine lv_iconst (v := (-1)) hx hb dX5_richest_28 (by decide) ?_
    refine lv_istore_n (lv' := [(2, .int ((-1))), (0, .ref (ad 0)), (1, .int (nI h))]) hx hb dX5_richest_29 rfl hl (by decide) rfl (fun ls hl => ?_)
    refine lv_iconst (v := nI 0) hx hb dX5_richest_30 (by decide) ?_
    refine lv_istore_n (lv' := [(3, .int (nI 0)), (2, .int ((-1))), (0, .ref (ad 0)), (1, .int (nI h))]) hx hb dX5_richest_31 rfl hl (by decide) rfl (fun ls hl => ?_)
    have L_32 : ∀ (n : Nat) (j : Nat) (b : Nat) (H : Heap) (locs : List Loc) (ls : Array Slot), (j + n = N) → (b ≤ j) → (richL (hrsF N h sr) N 0 0 = richL (hrsF N h sr) n j b) → va_P D vwCl (mw cy ad (hrsF N h sr) kS ot sr stt ik tp td fr tt vl wr bo so nu mv) H → va_S (mA ad) s0.heap H locs → lv_has ls 4 [(3, .int (nI j)), (2, .int (pm b)), (0, .ref (ad 0)), (1, .int (nI h))] → W p l e (rmz 7 156) s0 m args below meth c H locs 0 0 Q (F0 m 32 ls []) := by
      intro n
      induction n with
      | zero =>
        intro j b H locs ls hj hbj hF hP hS hl
        refine lv_iload_n hx hb dX5_richest_32 rfl (lv_at hl 0 rfl) ?_
        refine lv_aload_n hx hb dX5_richest_33 rfl (lv_at hl 2 rfl) ?_
        refine m_get hx hb hts hin hown hK hP 0 (by decide) (hts (.fieldLink RX5 7 "PennyRoadModel" "s" "[I") (by decide +kernel)) rfl dX5_richest_34 ?_
        refine lv_iconst (v := nI 0) hx hb dX5_richest_37 (by decide) ?_
        refine m_ald hx hb hK hP 1 rfl (by decide) (by omega) dX5_richest_38 ?_
        refine lv_top ((hrsF_0 _ _).trans hN) ?_
        refine lvn_icmp_ge (tgt := 75) hx hb dX5_richest_39 (by decide) (by omega) (by omega) (fun c_39 => ?_) (fun c_39 => ?_)
        · skip
          have hE : richL (hrsF N h sr) N 0 0 = b := hF
          refine lv_aload_n hx hb dX5_richest_75 rfl (lv_at hl 2 rfl) ?_
          refine lv_iload_n hx hb dX5_richest_76 rfl (lv_at hl 1 rfl) ?_
          refine wq_V S mK_ok hK hP hS (c_X5_takesBack) gX5_richest_X5_takesBack i_X5_takesBack rfl (m_rec hK hP) ⟨Nat.le_of_ble_eq_true rfl, Nat.le_of_ble_eq_true rfl⟩ rfl hl.1 (As := [.int (pm b)]) (rest := []) (st1 := [.int (pm b)]) rfl rfl (Nat.le_of_ble_eq_true rfl) ⟨Nat.le_of_ble_eq_true rfl, Nat.le_of_ble_eq_true rfl⟩ dX5_richest_77 (fun H locs hP hS => ?_)
          refine lv_istore_n (lv' := [(3, .int (pm b)), (2, .int (pm b)), (0, .ref (ad 0)), (1, .int (nI h))]) hx hb dX5_richest_80 rfl hl (by decide) rfl (fun ls hl => ?_)
          refine lv_iload_n hx hb dX5_richest_81 rfl (lv_at hl 0 rfl) ?_
          refine lv_if_ge (tgt := 94) hx hb dX5_richest_82 (by decide) (fun c_82 => ?_) (fun c_82 => ?_)
          · skip
            refine lv_iload_n hx hb dX5_richest_94 rfl (lv_at hl 0 rfl) ?_
            subst hQ
            exact mp_ri hx hb hr hlocks hP hS dX5_richest_95 (by first | with_reducible rfl | (simp only [fnd, if_pos c_9, if_pos c_39, if_pos c_82]; done) | (simp only [fnd, hcl_h, hE, c_9, if_pos c_39, if_pos c_82, Bool.false_eq_true, Bool.true_eq_false, and_true, true_and, false_and, and_false, and_self, not_true_eq_false, not_false_eq_true, if_true, if_false, reduceIte, or_false, false_or, true_or, or_true]; done) | (subst_vars; first | with_reducible rfl | (simp only [fnd, if_pos c_9, if_pos c_39, if_pos c_82]; done) | (simp only [fnd, hcl_h, hE, c_9, if_pos c_39, if_pos c_82, Bool.false_eq_true, Bool.true_eq_false, and_true, true_and, false_and, and_false, and_self, not_true_eq_false, not_false_eq_true, if_true, if_false, reduceIte, or_false, false_or, true_or, or_true]; done)) | contradiction | rfl) (by first | with_reducible rfl | (simp only [fnd, if_pos c_9, if_pos c_39, if_pos c_82]; done) | (simp only [fnd, hcl_h, hE, c_9, if_pos c_39, if_pos c_82, Bool.false_eq_true, Bool.true_eq_false, and_true, true_and, false_and, and_false, and_self, not_true_eq_false, not_false_eq_true, if_true, if_false, reduceIte, or_false, false_or, true_or, or_true]; done) | (subst_vars; first | with_reducible rfl | (simp only [fnd, if_pos c_9, if_pos c_39, if_pos c_82]; done) | (simp only [fnd, hcl_h, hE, c_9, if_pos c_39, if_pos c_82, Bool.false_eq_true, Bool.true_eq_false, and_true, true_and, false_and, and_false, and_self, not_true_eq_false, not_false_eq_true, if_true, if_false, reduceIte, or_false, false_or, true_or, or_true]; done)) | contradiction | rfl)
          · skip
            refine lv_aload_n hx hb dX5_richest_85 rfl (lv_at hl 2 rfl) ?_
            refine lv_ldc (v := (-1000000004)) hx hb hown (hts (.constant RX5 144 ((-1000000004))) (by decide +kernel)) dX5_richest_86 ?_
            refine wq_V S mK_ok hK hP hS (c_X5_finds (t := 3) (by decide)) gX5_richest_X5_finds i_X5_finds rfl (m_rec hK hP) ⟨Nat.le_of_ble_eq_true rfl, Nat.le_of_ble_eq_true rfl⟩ rfl hl.1 (As := [.int ((-1000000004))]) (rest := []) (st1 := [.int ((-1000000004))]) rfl rfl (Nat.le_of_ble_eq_true rfl) ⟨Nat.le_of_ble_eq_true rfl, Nat.le_of_ble_eq_true rfl⟩ dX5_richest_88 (fun H locs hP hS => ?_)
            refine lv_goto (tgt := 95) hx hb dX5_richest_91 (by decide) ?_
            subst hQ
            exact mp_ri hx hb hr hlocks hP hS dX5_richest_95 (by first | with_reducible rfl | (simp only [fnd, if_pos c_9, if_pos c_39, if_neg c_82]; done) | (simp only [fnd, hcl_h, hE, c_9, if_pos c_39, if_neg c_82, Bool.false_eq_true, Bool.true_eq_false, and_true, true_and, false_and, and_false, and_self, not_true_eq_false, not_false_eq_true, if_true, if_false, reduceIte, or_false, false_or, true_or, or_true]; done) | (subst_vars; first | with_reducible rfl | (simp only [fnd, if_pos c_9, if_pos c_39, if_neg c_82]; done) | (simp only [fnd, hcl_h, hE, c_9, if_pos c_39, if_neg c_82, Bool.false_eq_true, Bool.true_eq_false, and_true, true_and, false_and, and_false, and_self, not_true_eq_false, not_false_eq_true, if_true, if_false, reduceIte, or_false, false_or, true_or, or_true]; done)) | contradiction | rfl) (by first | with_reducible rfl | (simp only [fnd, if_pos c_9, if_pos c_39, if_neg c_82]; done) | (simp only [fnd, hcl_h, hE, c_9, if_pos c_39, if_neg c_82, Bool.false_eq_true, Bool.true_eq_false, and_true, true_and, false_and, and_false, and_self, not_true_eq_false, not_false_eq_true, if_true, if_false, reduceIte, or_false, false_or, true_or, or_true]; done) | (subst_vars; first | with_reducible rfl | (simp only [fnd, if_pos c_9, if_pos c_39, if_neg c_82]; done) | (simp only [fnd, hcl_h, hE, c_9, if_pos c_39, if_neg c_82, Bool.false_eq_true, Bool.true_eq_false, and_true, true_and, false_and, and_false, and_self, not_true_eq_false, not_false_eq_true, if_true, if_false, reduceIte, or_false, false_or, true_or, or_true]; done)) | contradiction | rfl)
        · skip
          exfalso; omega
      | succ n ih_32 =>
        intro j b H locs ls hj hbj hF hP hS hl
        refine lv_iload_n hx hb dX5_richest_32 rfl (lv_at hl 0 rfl) ?_
        refine lv_aload_n hx hb dX5_richest_33 rfl (lv_at hl 2 rfl) ?_
        refine m_get hx hb hts hin hown hK hP 0 (by decide) (hts (.fieldLink RX5 7 "PennyRoadModel" "s" "[I") (by decide +kernel)) rfl dX5_richest_34 ?_
        refine lv_iconst (v := nI 0) hx hb dX5_richest_37 (by decide) ?_
        refine m_ald hx hb hK hP 1 rfl (by decide) (by omega) dX5_richest_38 ?_
        refine lv_top ((hrsF_0 _ _).trans hN) ?_
        refine lvn_icmp_ge (tgt := 75) hx hb dX5_richest_39 (by decide) (by omega) (by omega) (fun c_39 => ?_) (fun c_39 => ?_)
        · skip
          exfalso; omega
        · skip
          cases b with
          | zero =>
            have hl : lv_has ls 4 [(3, .int (nI j)), (2, .int ((-1))), (0, .ref (ad 0)), (1, .int (nI h))] := hl
            refine lv_iload_n hx hb dX5_richest_42 rfl (lv_at hl 1 rfl) ?_
            refine lv_if_lt (tgt := 63) hx hb dX5_richest_43 (by decide) (fun c_43 => ?_) (fun c_43 => ?_)
            · skip
              refine lv_iload_n hx hb dX5_richest_63 rfl (lv_at hl 0 rfl) ?_
              refine lv_goto (tgt := 68) hx hb dX5_richest_64 (by decide) ?_
              refine lv_istore_n (lv' := [(2, .int (nI j)), (3, .int (nI j)), (0, .ref (ad 0)), (1, .int (nI h))]) hx hb dX5_richest_68 rfl hl (by decide) rfl (fun ls hl => ?_)
              refine lv_iinc (v := nI (j + 1)) (lv' := [(3, .int (nI (j + 1))), (2, .int (nI j)), (0, .ref (ad 0)), (1, .int (nI h))]) hx hb dX5_richest_69 hl (k := 1) rfl (nI_add _ _) (by decide) rfl (fun ls hl => ?_)
              refine lv_goto (tgt := 32) hx hb dX5_richest_72 (by decide) ?_
              exact ih_32 (j + 1) (j + 1) _ _ ls (by omega) (by omega) hF hP hS hl
            · skip
              exact absurd c_43 (by decide)
          | succ b =>
            have hl : lv_has ls 4 [(3, .int (nI j)), (2, .int (nI b)), (0, .ref (ad 0)), (1, .int (nI h))] := hl
            refine lv_iload_n hx hb dX5_richest_42 rfl (lv_at hl 1 rfl) ?_
            refine lv_if_lt (tgt := 63) hx hb dX5_richest_43 (by decide) (fun c_43 => ?_) (fun c_43 => ?_)
            · skip
              exact absurd c_43 (nI_pos (by omega))
            · skip
              refine lv_aload_n hx hb dX5_richest_46 rfl (lv_at hl 2 rfl) ?_
              refine lv_iload_n hx hb dX5_richest_47 rfl (lv_at hl 0 rfl) ?_
              refine lv_bipush (v := nI 6) hx hb dX5_richest_48 (by decide) ?_
              refine wq_V S mK_ok hK hP hS (c_X5_its (by omega) (by omega)) gX5_richest_X5_its i_X5_its rfl (m_rec hK hP) ⟨Nat.le_of_ble_eq_true rfl, Nat.le_of_ble_eq_true rfl⟩ rfl hl.1 (As := [.int (nI j), .int (nI 6)]) (rest := []) (st1 := [.int ((hrsF N h sr) (5 + 8 * j + 6))]) rfl rfl (Nat.le_of_ble_eq_true rfl) ⟨Nat.le_of_ble_eq_true rfl, Nat.le_of_ble_eq_true rfl⟩ dX5_richest_50 (fun H locs hP hS => ?_)
              refine lv_aload_n hx hb dX5_richest_53 rfl (lv_at hl 2 rfl) ?_
              refine lv_iload_n hx hb dX5_richest_54 rfl (lv_at hl 1 rfl) ?_
              refine lv_bipush (v := nI 6) hx hb dX5_richest_55 (by decide) ?_
              refine wq_V S mK_ok hK hP hS (c_X5_its (by omega) (by omega)) gX5_richest_X5_its i_X5_its rfl (m_rec hK hP) ⟨Nat.le_of_ble_eq_true rfl, Nat.le_of_ble_eq_true rfl⟩ rfl hl.1 (As := [.int (nI b), .int (nI 6)]) (rest := [.int ((hrsF N h sr) (5 + 8 * j + 6))]) (st1 := [.int ((hrsF N h sr) (5 + 8 * b + 6)), .int ((hrsF N h sr) (5 + 8 * j + 6))]) rfl rfl (Nat.le_of_ble_eq_true rfl) ⟨Nat.le_of_ble_eq_true rfl, Nat.le_of_ble_eq_true rfl⟩ dX5_richest_57 (fun H locs hP hS => ?_)
              refine lv_icmp_le (tgt := 67) hx hb dX5_richest_60 (by decide) (fun c_60 => ?_) (fun c_60 => ?_)
              · skip
                refine lv_iload_n hx hb dX5_richest_67 rfl (lv_at hl 1 rfl) ?_
                refine lv_istore_n (lv' := [(2, .int (nI b)), (3, .int (nI j)), (0, .ref (ad 0)), (1, .int (nI h))]) hx hb dX5_richest_68 rfl hl (by decide) rfl (fun ls hl => ?_)
                refine lv_iinc (v := nI (j + 1)) (lv' := [(3, .int (nI (j + 1))), (2, .int (nI b)), (0, .ref (ad 0)), (1, .int (nI h))]) hx hb dX5_richest_69 hl (k := 1) rfl (nI_add _ _) (by decide) rfl (fun ls hl => ?_)
                refine lv_goto (tgt := 32) hx hb dX5_richest_72 (by decide) ?_
                exact ih_32 (j + 1) (b + 1) _ _ ls (by omega) (by omega) (hF.trans (congrArg (richL (hrsF N h sr) n (j + 1)) (if_pos c_60))) hP hS hl
              · skip
                refine lv_iload_n hx hb dX5_richest_63 rfl (lv_at hl 0 rfl) ?_
                refine lv_goto (tgt := 68) hx hb dX5_richest_64 (by decide) ?_
                refine lv_istore_n (lv' := [(2, .int (nI j)), (3, .int (nI j)), (0, .ref (ad 0)), (1, .int (nI h))]) hx hb dX5_richest_68 rfl hl (by decide) rfl (fun ls hl => ?_)
                refine lv_iinc (v := nI (j + 1)) (lv' := [(3, .int (nI (j + 1))), (2, .int (nI j)), (0, .ref (ad 0)), (1, .int (nI h))]) hx hb dX5_richest_69 hl (k := 1) rfl (nI_add _ _) (by decide) rfl (fun ls hl => ?_)
                refine lv_goto (tgt := 32) hx hb dX5_richest_72 (by decide) ?_
                exact ih_32 (j + 1) (j + 1) _ _ ls (by omega) (by omega) (hF.trans (congrArg (richL (hrsF N h sr) n (j + 1)) (if_neg c_60))) hP hS hl
    exact L_32 N 0 0 _ _ ls (by omega) (by omega) rfl hP hS hl
  · skip
    refine lv_aload_n hx hb dX5_richest_12 rfl (lv_at hl 0 rfl) ?_
    refine lv_ldc (v := (-1000000001)) hx hb hown (hts (.constant RX5 41 ((-1000000001))) (by decide +kernel)) dX5_richest_13 ?_
    refine wq_V S mK_ok hK hP hS (c_X5_finds (t := 0) (by decide)) gX5_richest_X5_finds i_X5_finds rfl (m_rec hK hP) ⟨Nat.le_of_ble_eq_true rfl, Nat.le_of_ble_eq_true rfl⟩ rfl hl.1 (As := [.int ((-1000000001))]) (rest := []) (st1 := [.int ((-1000000001))]) rfl rfl (Nat.le_of_ble_eq_true rfl) ⟨Nat.le_of_ble_eq_true rfl, Nat.le_of_ble_eq_true rfl⟩ dX5_richest_15 (fun H locs hP hS => ?_)
    subst hQ
    exact mp_ri hx hb hr hlocks hP hS dX5_richest_18 (by first | with_reducible rfl | (simp only [fnd, if_neg c_9]; done) | (simp only [fnd, c_9, Bool.false_eq_true, Bool.true_eq_false, and_true, true_and, false_and, and_false, and_self, not_true_eq_false, not_false_eq_true, if_true, if_false, reduceIte, or_false, false_or, true_or, or_true]; done) | (subst_vars; first | with_reducible rfl | (simp only [fnd, if_neg c_9]; done) | (simp only [fnd, c_9, Bool.false_eq_true, Bool.true_eq_false, and_true, true_and, false_and, and_false, and_self, not_true_eq_false, not_false_eq_true, if_true, if_false, reduceIte, or_false, false_or, true_or, or_true]; done)) | contradiction | rfl) (by first | with_reducible rfl | (simp only [fnd, if_neg c_9]; done) | (simp only [fnd, c_9, Bool.false_eq_true, Bool.true_eq_false, and_true, true_and, false_and, and_false, and_self, not_true_eq_false, not_false_eq_true, if_true, if_false, reduceIte, or_false, false_or, true_or, or_true]; done) | (subst_vars; first | with_reducible rfl | (simp only [fnd, if_neg c_9]; done) | (simp only [fnd, c_9, Bool.false_eq_true, Bool.true_eq_false, and_true, true_and, false_and, and_false, and_self, not_true_eq_false, not_false_eq_true, if_true, if_false, reduceIte, or_false, false_or, true_or, or_true]; done)) | contradiction | rfl)
theorem i_X5_richest : ciOk yX5_richest cX5_richest 4 (some .int) wsX5_richest 1 := ⟨⟨_, rfl⟩, by decide +kernel⟩
set_option maxHeartbeats 1000000 in
set_option maxRecDepth 100000 in
theorem c_X5_ones {l : Launch} {k : Nat} (hk : k < 2 ^ 31) : Met l yX5_ones wsX5_ones (rmz 0 0) (sPre [.int (nI k)]) (sPost (some (.int (nI (onesL k k 0))))) 0 0 (fun _ => False) := by
  refine sq_entry rfl rfl (Nat.le_of_ble_eq_true rfl) ?_
  intro p e s0 m args below meth c S hr hlocks ls hl
  have S : CallFix p m c cX5_ones 3 s0 args wsX5_ones RX5 := S
  obtain ⟨hx, hb, hml, hown, hts⟩ := id S
  have hl : lv_has ls 3 [(0, .int (nI k))] := hl
  generalize hQ : MQ below (sPost (some (.int (nI (onesL k k 0))))) args s0 0 0 (fun _ => False) = Q
  refine lv_iconst (v := nI 0) hx hb dX5_ones_0 (by decide) ?_
  refine lv_istore_n (lv' := [(1, .int (nI 0)), (0, .int (nI k))]) hx hb dX5_ones_1 rfl hl (by decide) rfl (fun ls hl => ?_)
  refine lv_iload_n hx hb dX5_ones_2 rfl (lv_at hl 1 rfl) ?_
  refine lv_istore_n (lv' := [(2, .int (nI k)), (1, .int (nI 0)), (0, .int (nI k))]) hx hb dX5_ones_3 rfl hl (by decide) rfl (fun ls hl => ?_)
  have L_4 : ∀ (n : Nat) (l0 : Nat) (n1 : Nat) (ls : Array Slot), (l0 ≤ n) → (l0 < 2 ^ 31) → (onesL k k 0 = onesL n l0 n1) → lv_has ls 3 [(2, .int (nI l0)), (1, .int (nI n1)), (0, .int (nI k))] → W p l e (rmz 0 0) s0 m args below meth c s0.heap [] 0 0 Q (F0 m 4 ls []) := by
    intro n
    induction n with
    | zero =>
      intro l0 n1 ls hle h31 hF hl
      refine lv_iload_n hx hb dX5_ones_4 rfl (lv_at hl 0 rfl) ?_
      refine lv_if_eq (tgt := 20) hx hb dX5_ones_5 (by decide) (fun c_5 => ?_) (fun c_5 => ?_)
      · skip
        have hE : onesL k k 0 = n1 := by first | exact hF | exact hF.trans (if_pos (nI_z (by omega) c_5))
        refine lv_iload_n hx hb dX5_ones_20 rfl (lv_at hl 1 rfl) ?_
        subst hQ
        exact sq_ri hx hb hr hlocks dX5_ones_21 (by rw [hE])
      · skip
        exact absurd (by rw [show l0 = 0 by omega]; rfl) c_5
    | succ n ih_4 =>
      intro l0 n1 ls hle h31 hF hl
      refine lv_iload_n hx hb dX5_ones_4 rfl (lv_at hl 0 rfl) ?_
      refine lv_if_eq (tgt := 20) hx hb dX5_ones_5 (by decide) (fun c_5 => ?_) (fun c_5 => ?_)
      · skip
        have hE : onesL k k 0 = n1 := by first | exact hF | exact hF.trans (if_pos (nI_z (by omega) c_5))
        refine lv_iload_n hx hb dX5_ones_20 rfl (lv_at hl 1 rfl) ?_
        subst hQ
        exact sq_ri hx hb hr hlocks dX5_ones_21 (by rw [hE])
      · skip
        refine lv_iinc (v := nI (n1 + 1)) (lv' := [(1, .int (nI (n1 + 1))), (2, .int (nI l0)), (0, .int (nI k))]) hx hb dX5_ones_8 hl (k := 1) rfl (nI_add _ _) (by decide) rfl (fun ls hl => ?_)
        refine lv_iload_n hx hb dX5_ones_11 rfl (lv_at hl 1 rfl) ?_
        refine lv_iload_n hx hb dX5_ones_12 rfl (lv_at hl 1 rfl) ?_
        refine lv_iconst (v := nI 1) hx hb dX5_ones_13 (by decide) ?_
        refine lv_isub hx hb dX5_ones_14 ?_
        refine lv_iand hx hb dX5_ones_15 ?_
        refine lv_top (and_pred (by omega) c_5) ?_
        refine lv_istore_n (lv' := [(2, .int (nI (l0 &&& (l0 - 1)))), (1, .int (nI (n1 + 1))), (0, .int (nI k))]) hx hb dX5_ones_16 rfl hl (by decide) rfl (fun ls hl => ?_)
        refine lv_goto (tgt := 4) hx hb dX5_ones_17 (by decide) ?_
        exact ih_4 (l0 &&& (l0 - 1)) (n1 + 1) ls (by have h9 : l0 &&& (l0 - 1) ≤ l0 - 1 := Nat.and_le_right; omega) (by have h9 : l0 &&& (l0 - 1) ≤ l0 - 1 := Nat.and_le_right; omega) (hF.trans (if_neg (fun e9 => c_5 (by rw [e9]; rfl)))) hl
  exact L_4 k k 0 ls (Nat.le_refl k) hk rfl hl
theorem i_X5_ones : ciOk yX5_ones cX5_ones 3 (some .int) wsX5_ones 1 := ⟨⟨_, rfl⟩, by decide +kernel⟩
set_option maxHeartbeats 1000000 in
set_option maxRecDepth 100000 in
theorem c_X5_stop {l : Launch} {D : va_G} {cy : Nat → ClassId} {ad : Nat → Nat} {sr kS ot asd stt : Nat → Int32} {ik : Int32} {tp : Nat → Int32} {td fr tt vl wr : Int32} {bo so : Nat → Int32} {nu mv : Nat → Int64} {q : Int32} {N : Nat} (hN : sr 0 = nI N) (h8 : N ≤ 8) : Met l yX5_stop wsX5_stop (rmz 7 156) (wPre D (mK D cy ad) (mw cy ad sr kS ot asd stt ik tp td fr tt vl wr bo so nu mv) [.ref (ad 0), .int (q)]) (mPub D cy ad (some (.int (if rg 1 60 q then (if 0 ≤ pm (stopF N q.toNatClampNeg sr (mayX sr N) ((mayX sr N).toNatClampNeg + 1) 0 0) then pm (stopF N q.toNatClampNeg sr (mayX sr N) ((mayX sr N).toNatClampNeg + 1) 0 0) else -1000000004) else -1000000001))) sr kS (if rg 1 60 q then (if 0 ≤ pm (stopF N q.toNatClampNeg sr (mayX sr N) ((mayX sr N).toNatClampNeg + 1) 0 0) then stt else fnd stt 3) else fnd stt 0) ik tp td bo so nu) 0 0 (mA ad) := by
  refine wq_entry rfl rfl (Nat.le_of_ble_eq_true rfl) ?_
  intro p e s0 m args below meth c S hr hlocks hK hP ls hl
  have S : CallFix p m c cX5_stop 6 s0 args wsX5_stop RX5 := S
  obtain ⟨hx, hb, hml, hown, hts⟩ := id S
  have hin : ∀ w ∈ wsX50, w ∈ wsX5_stop := fun w h => List.mem_cons_of_mem _ (List.mem_append_right _ h)
  have hS : va_S (mA ad) s0.heap s0.heap [] := va_S.rf
  have hl : lv_has ls 6 [(0, .ref (ad 0)), (1, .int (q))] := hl
  generalize hQ : MQ below (mPub D cy ad (some (.int (if rg 1 60 q then (if 0 ≤ pm (stopF N q.toNatClampNeg sr (mayX sr N) ((mayX sr N).toNatClampNeg + 1) 0 0) then pm (stopF N q.toNatClampNeg sr (mayX sr N) ((mayX sr N).toNatClampNeg + 1) 0 0) else -1000000004) else -1000000001))) sr kS (if rg 1 60 q then (if 0 ≤ pm (stopF N q.toNatClampNeg sr (mayX sr N) ((mayX sr N).toNatClampNeg + 1) 0 0) then stt else fnd stt 3) else fnd stt 0) ik tp td bo so nu) args s0 0 0 (mA ad) = Q
  refine lv_iload_n hx hb dX5_stop_0 rfl (lv_at hl 1 rfl) ?_
  refine lv_i2l (v := (q).toInt64) hx hb dX5_stop_1 rfl ?_
  refine lv_lconst (v := 1) hx hb dX5_stop_2 (by decide) ?_
  refine lv_ldc2 (v := 60) hx hb hown (hts (.constantLong RX5 151 (60)) (by decide +kernel)) dX5_stop_3 ?_
  refine sq_S S (c_X5_inY) gX5_stop_X5_in i_X5_in ⟨Nat.le_of_ble_eq_true rfl, Nat.le_of_ble_eq_true rfl⟩ rfl hl.1 (As := [.long ((q).toInt64), .long (1), .long (60)]) (rest := []) (st1 := [.int (z (rg 1 60 (q)))]) rfl rfl (Nat.le_of_ble_eq_true rfl) ⟨Nat.le_of_ble_eq_true rfl, Nat.le_of_ble_eq_true rfl⟩ dX5_stop_6 ?_
  refine lvz_if_ne (tgt := 19) hx hb dX5_stop_9 (by decide) (fun c_9 => ?_) (fun c_9 => ?_)
  · skip
    obtain ⟨h, h_h, h_h2, rfl⟩ := rg_ix (a := 1) (b := 60) (by decide) c_9
    have hcl_h : (nI h).toNatClampNeg = h := nI_clamp (by omega)
    refine lv_iconst (v := nI 1) hx hb dX5_stop_19 (by decide) ?_
    refine lv_aload_n hx hb dX5_stop_20 rfl (lv_at hl 0 rfl) ?_
    refine m_get hx hb hts hin hown hK hP 0 (by decide) (hts (.fieldLink RX5 7 "PennyRoadModel" "s" "[I") (by decide +kernel)) rfl dX5_stop_21 ?_
    refine lv_iconst (v := nI 0) hx hb dX5_stop_24 (by decide) ?_
    refine m_ald hx hb hK hP 1 rfl (by decide) (by omega) dX5_stop_25 ?_
    refine lv_top hN ?_
    refine lv_ishl hx hb dX5_stop_26 ?_
    refine lv_iconst (v := nI 1) hx hb dX5_stop_27 (by decide) ?_
    refine lv_isub hx hb dX5_stop_28 ?_
    refine lv_aload_n hx hb dX5_stop_29 rfl (lv_at hl 0 rfl) ?_
    refine lv_bipush (v := nI 7) hx hb dX5_stop_30 (by decide) ?_
    refine wq_V S mK_ok hK hP hS (c_X5_thoseWith hN h8 (by omega)) gX5_stop_X5_thoseWith i_X5_thoseWith rfl (m_rec hK hP) ⟨Nat.le_of_ble_eq_true rfl, Nat.le_of_ble_eq_true rfl⟩ rfl hl.1 (As := [.int (nI 7)]) (rest := [.int (((nI 1) <<< ((nI N) &&& 31)) - (nI 1))]) (st1 := [.int (withL sr 7 N 0 (nI 0)), .int (((nI 1) <<< ((nI N) &&& 31)) - (nI 1))]) rfl rfl (Nat.le_of_ble_eq_true rfl) ⟨Nat.le_of_ble_eq_true rfl, Nat.le_of_ble_eq_true rfl⟩ dX5_stop_32 (fun H locs hP hS => ?_)
    refine lv_iconst (v := (-1)) hx hb dX5_stop_35 (by decide) ?_
    refine lv_ixor hx hb dX5_stop_36 ?_
    refine lv_iand hx hb dX5_stop_37 ?_
    obtain ⟨M, hM2, hM, hMe⟩ := mayX_ix (sr := sr) h8
    have hclM : (nI M).toNatClampNeg = M := nI_clamp (by omega)
    refine lv_top hMe ?_
    refine lv_istore_n (lv' := [(2, .int (nI M)), (0, .ref (ad 0)), (1, .int (nI h))]) hx hb dX5_stop_38 rfl hl (by decide) rfl (fun ls hl => ?_)
    refine lv_iconst (v := (-1)) hx hb dX5_stop_39 (by decide) ?_
    refine lv_istore_n (lv' := [(3, .int ((-1))), (2, .int (nI M)), (0, .ref (ad 0)), (1, .int (nI h))]) hx hb dX5_stop_40 rfl hl (by decide) rfl (fun ls hl => ?_)
    refine lv_aload_n hx hb dX5_stop_41 rfl (lv_at hl 2 rfl) ?_
    refine wq_V S mK_ok hK hP hS (c_X5_laysAside) gX5_stop_X5_laysAside i_X5_laysAside rfl (m_rec hK hP) ⟨Nat.le_of_ble_eq_true rfl, Nat.le_of_ble_eq_true rfl⟩ rfl hl.1 (As := []) (rest := []) (st1 := []) rfl rfl (Nat.le_of_ble_eq_true rfl) ⟨Nat.le_of_ble_eq_true rfl, Nat.le_of_ble_eq_true rfl⟩ dX5_stop_42 (fun H locs hP hS => ?_)
    refine lv_iconst (v := nI 0) hx hb dX5_stop_45 (by decide) ?_
    refine lv_istore (lv' := [(4, .int (nI 0)), (3, .int ((-1))), (2, .int (nI M)), (0, .ref (ad 0)), (1, .int (nI h))]) hx hb dX5_stop_46 hl (by decide) rfl (fun ls hl => ?_)
    have L_48 : ∀ (n : Nat) (j : Nat) (b : Nat) (H : Heap) (locs : List Loc) (ls : Array Slot), (j + n = M + 1) → (b ≤ j) → (stopF N h sr (nI M) (M + 1) 0 0 = stopF N h sr (nI M) n j b) → va_P D vwCl (mw cy ad sr kS ot sr stt ik tp td fr tt vl wr bo so nu mv) H → va_S (mA ad) s0.heap H locs → lv_has ls 6 [(4, .int (nI j)), (3, .int (pm b)), (2, .int (nI M)), (0, .ref (ad 0)), (1, .int (nI h))] → W p l e (rmz 7 156) s0 m args below meth c H locs 0 0 Q (F0 m 48 ls []) := by
      intro n
      induction n with
      | zero =>
        intro j b H locs ls hj hbj hF hP hS hl
        refine lv_iload hx hb dX5_stop_48 (lv_at hl 0 rfl) ?_
        refine lv_iload_n hx hb dX5_stop_50 rfl (lv_at hl 2 rfl) ?_
        refine lvn_icmp_gt (tgt := 152) hx hb dX5_stop_51 (by decide) (by omega) (by omega) (fun c_51 => ?_) (fun c_51 => ?_)
        · skip
          have hE : stopF N h sr (nI M) (M + 1) 0 0 = b := hF
          refine lv_iload_n hx hb dX5_stop_152 rfl (lv_at hl 1 rfl) ?_
          refine lv_if_ge (tgt := 165) hx hb dX5_stop_153 (by decide) (fun c_153 => ?_) (fun c_153 => ?_)
          · skip
            refine lv_iload_n hx hb dX5_stop_165 rfl (lv_at hl 1 rfl) ?_
            subst hQ
            exact mp_ri hx hb hr hlocks hP hS dX5_stop_166 (by first | with_reducible rfl | (simp only [fnd, if_pos c_9, if_pos c_51, if_pos c_153]; done) | (simp only [fnd, hcl_h, hMe, hclM, hE, c_9, if_pos c_51, if_pos c_153, Bool.false_eq_true, Bool.true_eq_false, and_true, true_and, false_and, and_false, and_self, not_true_eq_false, not_false_eq_true, if_true, if_false, reduceIte, or_false, false_or, true_or, or_true]; done) | (subst_vars; first | with_reducible rfl | (simp only [fnd, if_pos c_9, if_pos c_51, if_pos c_153]; done) | (simp only [fnd, hcl_h, hMe, hclM, hE, c_9, if_pos c_51, if_pos c_153, Bool.false_eq_true, Bool.true_eq_false, and_true, true_and, false_and, and_false, and_self, not_true_eq_false, not_false_eq_true, if_true, if_false, reduceIte, or_false, false_or, true_or, or_true]; done)) | contradiction | rfl) (by first | with_reducible rfl | (simp only [fnd, if_pos c_9, if_pos c_51, if_pos c_153]; done) | (simp only [fnd, hcl_h, hMe, hclM, hE, c_9, if_pos c_51, if_pos c_153, Bool.false_eq_true, Bool.true_eq_false, and_true, true_and, false_and, and_false, and_self, not_true_eq_false, not_false_eq_true, if_true, if_false, reduceIte, or_false, false_or, true_or, or_true]; done) | (subst_vars; first | with_reducible rfl | (simp only [fnd, if_pos c_9, if_pos c_51, if_pos c_153]; done) | (simp only [fnd, hcl_h, hMe, hclM, hE, c_9, if_pos c_51, if_pos c_153, Bool.false_eq_true, Bool.true_eq_false, and_true, true_and, false_and, and_false, and_self, not_true_eq_false, not_false_eq_true, if_true, if_false, reduceIte, or_false, false_or, true_or, or_true]; done)) | contradiction | rfl)
          · skip
            refine lv_aload_n hx hb dX5_stop_156 rfl (lv_at hl 3 rfl) ?_
            refine lv_ldc (v := (-1000000004)) hx hb hown (hts (.constant RX5 144 ((-1000000004))) (by decide +kernel)) dX5_stop_157 ?_
            refine wq_V S mK_ok hK hP hS (c_X5_finds (t := 3) (by decide)) gX5_stop_X5_finds i_X5_finds rfl (m_rec hK hP) ⟨Nat.le_of_ble_eq_true rfl, Nat.le_of_ble_eq_true rfl⟩ rfl hl.1 (As := [.int ((-1000000004))]) (rest := []) (st1 := [.int ((-1000000004))]) rfl rfl (Nat.le_of_ble_eq_true rfl) ⟨Nat.le_of_ble_eq_true rfl, Nat.le_of_ble_eq_true rfl⟩ dX5_stop_159 (fun H locs hP hS => ?_)
            refine lv_goto (tgt := 166) hx hb dX5_stop_162 (by decide) ?_
            subst hQ
            exact mp_ri hx hb hr hlocks hP hS dX5_stop_166 (by first | with_reducible rfl | (simp only [fnd, if_pos c_9, if_pos c_51, if_neg c_153]; done) | (simp only [fnd, hcl_h, hMe, hclM, hE, c_9, if_pos c_51, if_neg c_153, Bool.false_eq_true, Bool.true_eq_false, and_true, true_and, false_and, and_false, and_self, not_true_eq_false, not_false_eq_true, if_true, if_false, reduceIte, or_false, false_or, true_or, or_true]; done) | (subst_vars; first | with_reducible rfl | (simp only [fnd, if_pos c_9, if_pos c_51, if_neg c_153]; done) | (simp only [fnd, hcl_h, hMe, hclM, hE, c_9, if_pos c_51, if_neg c_153, Bool.false_eq_true, Bool.true_eq_false, and_true, true_and, false_and, and_false, and_self, not_true_eq_false, not_false_eq_true, if_true, if_false, reduceIte, or_false, false_or, true_or, or_true]; done)) | contradiction | rfl) (by first | with_reducible rfl | (simp only [fnd, if_pos c_9, if_pos c_51, if_neg c_153]; done) | (simp only [fnd, hcl_h, hMe, hclM, hE, c_9, if_pos c_51, if_neg c_153, Bool.false_eq_true, Bool.true_eq_false, and_true, true_and, false_and, and_false, and_self, not_true_eq_false, not_false_eq_true, if_true, if_false, reduceIte, or_false, false_or, true_or, or_true]; done) | (subst_vars; first | with_reducible rfl | (simp only [fnd, if_pos c_9, if_pos c_51, if_neg c_153]; done) | (simp only [fnd, hcl_h, hMe, hclM, hE, c_9, if_pos c_51, if_neg c_153, Bool.false_eq_true, Bool.true_eq_false, and_true, true_and, false_and, and_false, and_self, not_true_eq_false, not_false_eq_true, if_true, if_false, reduceIte, or_false, false_or, true_or, or_true]; done)) | contradiction | rfl)
        · skip
          exfalso; omega
      | succ n ih_48 =>
        intro j b H locs ls hj hbj hF hP hS hl
        refine lv_iload hx hb dX5_stop_48 (lv_at hl 0 rfl) ?_
        refine lv_iload_n hx hb dX5_stop_50 rfl (lv_at hl 2 rfl) ?_
        refine lvn_icmp_gt (tgt := 152) hx hb dX5_stop_51 (by decide) (by omega) (by omega) (fun c_51 => ?_) (fun c_51 => ?_)
        · skip
          exfalso; omega
        · skip
          cases b with
          | zero =>
            have hl : lv_has ls 6 [(4, .int (nI j)), (3, .int ((-1))), (2, .int (nI M)), (0, .ref (ad 0)), (1, .int (nI h))] := hl
            refine lv_iload hx hb dX5_stop_54 (lv_at hl 0 rfl) ?_
            refine lv_iload_n hx hb dX5_stop_56 rfl (lv_at hl 2 rfl) ?_
            refine lv_iconst (v := (-1)) hx hb dX5_stop_57 (by decide) ?_
            refine lv_ixor hx hb dX5_stop_58 ?_
            refine lv_iand hx hb dX5_stop_59 ?_
            refine lv_if_ne (tgt := 146) hx hb dX5_stop_60 (by decide) (fun c_60 => ?_) (fun c_60 => ?_)
            · skip
              refine lv_iinc (v := nI (j + 1)) (lv' := [(4, .int (nI (j + 1))), (3, .int ((-1))), (2, .int (nI M)), (0, .ref (ad 0)), (1, .int (nI h))]) hx hb dX5_stop_146 hl (k := 0) rfl (nI_add _ _) (by decide) rfl (fun ls hl => ?_)
              refine lv_goto (tgt := 48) hx hb dX5_stop_149 (by decide) ?_
              exact ih_48 (j + 1) 0 _ _ ls (by omega) (by omega) (hF.trans (congrArg (stopF N h sr (nI M) n (j + 1)) ((if_neg c_60).trans rfl))) hP hS hl
            · skip
              refine lv_iload_n hx hb dX5_stop_63 rfl (lv_at hl 1 rfl) ?_
              refine lv_if_lt (tgt := 79) hx hb dX5_stop_64 (by decide) (fun c_64 => ?_) (fun c_64 => ?_)
              · skip
                refine lv_iconst (v := nI 0) hx hb dX5_stop_79 (by decide) ?_
                refine lv_istore (lv' := [(5, .int (nI 0)), (4, .int (nI j)), (3, .int ((-1))), (2, .int (nI M)), (0, .ref (ad 0)), (1, .int (nI h))]) hx hb dX5_stop_80 hl (by decide) rfl (fun ls hl => ?_)
                have L_82 : ∀ (n2 : Nat) (w_ : Nat) (ss : Nat → Int32) (H : Heap) (locs : List Loc) (ls : Array Slot), (w_ + n2 = N) → (ss 0 = nI N) → (stopL j N 0 sr = stopL j n2 w_ ss) → va_P D vwCl (mw cy ad ss kS ot sr stt ik tp td fr tt vl wr bo so nu mv) H → va_S (mA ad) s0.heap H locs → lv_has ls 6 [(5, .int (nI w_)), (4, .int (nI j)), (3, .int ((-1))), (2, .int (nI M)), (0, .ref (ad 0)), (1, .int (nI h))] → W p l e (rmz 7 156) s0 m args below meth c H locs 0 0 Q (F0 m 82 ls []) := by
                  intro n2
                  induction n2 with
                  | zero =>
                    intro w_ ss H locs ls hj2 hm hG hP hS hl
                    refine lv_iload hx hb dX5_stop_82 (lv_at hl 0 rfl) ?_
                    refine lv_aload_n hx hb dX5_stop_84 rfl (lv_at hl 4 rfl) ?_
                    refine m_get hx hb hts hin hown hK hP 0 (by decide) (hts (.fieldLink RX5 7 "PennyRoadModel" "s" "[I") (by decide +kernel)) rfl dX5_stop_85 ?_
                    refine lv_iconst (v := nI 0) hx hb dX5_stop_88 (by decide) ?_
                    refine m_ald hx hb hK hP 1 rfl (by decide) (by omega) dX5_stop_89 ?_
                    refine lv_top hm ?_
                    refine lvn_icmp_ge (tgt := 121) hx hb dX5_stop_90 (by decide) (by omega) (by omega) (fun c_90 => ?_) (fun c_90 => ?_)
                    · skip
                      have hG : stopL j N 0 sr = ss := hG
                      subst hG
                      refine lv_aload_n hx hb dX5_stop_121 rfl (lv_at hl 4 rfl) ?_
                      refine lv_iload_n hx hb dX5_stop_122 rfl (lv_at hl 5 rfl) ?_
                      refine wq_V S mK_ok hK hP hS (c_X5_hoursGo hm h8 (by omega)) gX5_stop_X5_hoursGo i_X5_hoursGo rfl (m_rec hK hP) ⟨Nat.le_of_ble_eq_true rfl, Nat.le_of_ble_eq_true rfl⟩ rfl hl.1 (As := [.int (nI h)]) (rest := []) (st1 := []) rfl rfl (Nat.le_of_ble_eq_true rfl) ⟨Nat.le_of_ble_eq_true rfl, Nat.le_of_ble_eq_true rfl⟩ dX5_stop_123 (fun H locs hP hS => ?_)
                      refine lv_aload_n hx hb dX5_stop_126 rfl (lv_at hl 4 rfl) ?_
                      refine lv_aload_n hx hb dX5_stop_127 rfl (lv_at hl 4 rfl) ?_
                      refine m_get hx hb hts hin hown hK hP 0 (by decide) (hts (.fieldLink RX5 7 "PennyRoadModel" "s" "[I") (by decide +kernel)) rfl dX5_stop_128 ?_
                      refine lv_iconst (v := nI 2) hx hb dX5_stop_131 (by decide) ?_
                      refine m_ald hx hb hK hP 1 rfl (by decide) (by omega) dX5_stop_132 ?_
                      refine lv_if_le (tgt := 141) hx hb dX5_stop_133 (by decide) (fun c_133 => ?_) (fun c_133 => ?_)
                      · skip
                        refine lv_iload_n hx hb dX5_stop_141 rfl (lv_at hl 2 rfl) ?_
                        refine wq_V S mK_ok hK hP hS (c_X5_takesBack) gX5_stop_X5_takesBack i_X5_takesBack rfl (m_rec hK hP) ⟨Nat.le_of_ble_eq_true rfl, Nat.le_of_ble_eq_true rfl⟩ rfl hl.1 (As := [.int ((-1))]) (rest := []) (st1 := [.int ((-1))]) rfl rfl (Nat.le_of_ble_eq_true rfl) ⟨Nat.le_of_ble_eq_true rfl, Nat.le_of_ble_eq_true rfl⟩ dX5_stop_142 (fun H locs hP hS => ?_)
                        refine lv_istore_n (lv' := [(3, .int ((-1))), (5, .int (nI w_)), (4, .int (nI j)), (2, .int (nI M)), (0, .ref (ad 0)), (1, .int (nI h))]) hx hb dX5_stop_145 rfl hl (by decide) rfl (fun ls hl => ?_)
                        refine lv_iinc (v := nI (j + 1)) (lv' := [(4, .int (nI (j + 1))), (3, .int ((-1))), (5, .int (nI w_)), (2, .int (nI M)), (0, .ref (ad 0)), (1, .int (nI h))]) hx hb dX5_stop_146 hl (k := 2) rfl (nI_add _ _) (by decide) rfl (fun ls hl => ?_)
                        refine lv_goto (tgt := 48) hx hb dX5_stop_149 (by decide) ?_
                        exact ih_48 (j + 1) 0 _ _ ls (by omega) (by omega) (hF.trans (congrArg (stopF N h sr (nI M) n (j + 1)) ((if_pos c_60).trans ((if_pos c_133).trans rfl)))) hP hS (lv_sub hl [0, 1, 3, 4, 5] rfl)
                      · skip
                        refine lv_iload hx hb dX5_stop_136 (lv_at hl 1 rfl) ?_
                        refine lv_goto (tgt := 142) hx hb dX5_stop_138 (by decide) ?_
                        refine wq_V S mK_ok hK hP hS (c_X5_takesBack) gX5_stop_X5_takesBack i_X5_takesBack rfl (m_rec hK hP) ⟨Nat.le_of_ble_eq_true rfl, Nat.le_of_ble_eq_true rfl⟩ rfl hl.1 (As := [.int (nI j)]) (rest := []) (st1 := [.int (nI j)]) rfl rfl (Nat.le_of_ble_eq_true rfl) ⟨Nat.le_of_ble_eq_true rfl, Nat.le_of_ble_eq_true rfl⟩ dX5_stop_142 (fun H locs hP hS => ?_)
                        refine lv_istore_n (lv' := [(3, .int (nI j)), (5, .int (nI w_)), (4, .int (nI j)), (2, .int (nI M)), (0, .ref (ad 0)), (1, .int (nI h))]) hx hb dX5_stop_145 rfl hl (by decide) rfl (fun ls hl => ?_)
                        refine lv_iinc (v := nI (j + 1)) (lv' := [(4, .int (nI (j + 1))), (3, .int (nI j)), (5, .int (nI w_)), (2, .int (nI M)), (0, .ref (ad 0)), (1, .int (nI h))]) hx hb dX5_stop_146 hl (k := 2) rfl (nI_add _ _) (by decide) rfl (fun ls hl => ?_)
                        refine lv_goto (tgt := 48) hx hb dX5_stop_149 (by decide) ?_
                        exact ih_48 (j + 1) (j + 1) _ _ ls (by omega) (by omega) (hF.trans (congrArg (stopF N h sr (nI M) n (j + 1)) ((if_pos c_60).trans ((if_neg c_133).trans rfl)))) hP hS (lv_sub hl [0, 1, 3, 4, 5] rfl)
                    · skip
                      exfalso; omega
                  | succ n2 ih_82 =>
                    intro w_ ss H locs ls hj2 hm hG hP hS hl
                    refine lv_iload hx hb dX5_stop_82 (lv_at hl 0 rfl) ?_
                    refine lv_aload_n hx hb dX5_stop_84 rfl (lv_at hl 4 rfl) ?_
                    refine m_get hx hb hts hin hown hK hP 0 (by decide) (hts (.fieldLink RX5 7 "PennyRoadModel" "s" "[I") (by decide +kernel)) rfl dX5_stop_85 ?_
                    refine lv_iconst (v := nI 0) hx hb dX5_stop_88 (by decide) ?_
                    refine m_ald hx hb hK hP 1 rfl (by decide) (by omega) dX5_stop_89 ?_
                    refine lv_top hm ?_
                    refine lvn_icmp_ge (tgt := 121) hx hb dX5_stop_90 (by decide) (by omega) (by omega) (fun c_90 => ?_) (fun c_90 => ?_)
                    · skip
                      exfalso; omega
                    · skip
                      refine lv_aload_n hx hb dX5_stop_93 rfl (lv_at hl 4 rfl) ?_
                      refine m_get hx hb hts hin hown hK hP 0 (by decide) (hts (.fieldLink RX5 7 "PennyRoadModel" "s" "[I") (by decide +kernel)) rfl dX5_stop_94 ?_
                      refine lv_iload hx hb dX5_stop_97 (lv_at hl 0 rfl) ?_
                      refine lv_bipush (v := nI 7) hx hb dX5_stop_99 (by decide) ?_
                      refine sq_S S (c_X5_spotOf) gX5_stop_X5_spotOf i_X5_spotOf ⟨Nat.le_of_ble_eq_true rfl, Nat.le_of_ble_eq_true rfl⟩ rfl hl.1 (As := [.int (nI w_), .int (nI 7)]) (rest := [.ref (ad 1)]) (st1 := [.int (nI (5 + 8 * w_ + 7)), .ref (ad 1)]) rfl rfl (Nat.le_of_ble_eq_true rfl) ⟨Nat.le_of_ble_eq_true rfl, Nat.le_of_ble_eq_true rfl⟩ dX5_stop_101 ?_
                      refine lv_dup2_11 hx hb dX5_stop_104 rfl rfl ?_
                      refine m_ald hx hb hK hP 1 rfl (by decide) (by omega) dX5_stop_105 ?_
                      refine lv_iload hx hb dX5_stop_106 (lv_at hl 1 rfl) ?_
                      refine lv_iload hx hb dX5_stop_108 (lv_at hl 0 rfl) ?_
                      refine lv_ishr hx hb dX5_stop_110 ?_
                      refine lv_iconst (v := nI 1) hx hb dX5_stop_111 (by decide) ?_
                      refine lv_iand hx hb dX5_stop_112 ?_
                      refine lv_ior hx hb dX5_stop_113 ?_
                      refine m_ast (w' := (mw cy ad (upd ss (5 + 8 * w_ + 7) ((ss (5 + 8 * w_ + 7)) ||| (((nI j) >>> ((nI w_) &&& 31)) &&& (nI 1)))) kS ot sr stt ik tp td fr tt vl wr bo so nu mv)) hx hb hK hP hS 1 rfl (by decide) (by omega) rfl dX5_stop_114 (fun H locs hP hS => ?_)
                      refine lv_iinc (v := nI (w_ + 1)) (lv' := [(5, .int (nI (w_ + 1))), (4, .int (nI j)), (3, .int ((-1))), (2, .int (nI M)), (0, .ref (ad 0)), (1, .int (nI h))]) hx hb dX5_stop_115 hl (k := 0) rfl (nI_add _ _) (by decide) rfl (fun ls hl => ?_)
                      refine lv_goto (tgt := 82) hx hb dX5_stop_118 (by decide) ?_
                      exact ih_82 (w_ + 1) _ _ _ ls (by omega) ((upd_0 (by omega)).trans hm) hG hP hS hl
                exact L_82 N 0 sr _ _ ls (by omega) hN rfl hP hS hl
              · skip
                exact absurd c_64 (by decide)
          | succ b =>
            have hl : lv_has ls 6 [(4, .int (nI j)), (3, .int (nI b)), (2, .int (nI M)), (0, .ref (ad 0)), (1, .int (nI h))] := hl
            refine lv_iload hx hb dX5_stop_54 (lv_at hl 0 rfl) ?_
            refine lv_iload_n hx hb dX5_stop_56 rfl (lv_at hl 2 rfl) ?_
            refine lv_iconst (v := (-1)) hx hb dX5_stop_57 (by decide) ?_
            refine lv_ixor hx hb dX5_stop_58 ?_
            refine lv_iand hx hb dX5_stop_59 ?_
            refine lv_if_ne (tgt := 146) hx hb dX5_stop_60 (by decide) (fun c_60 => ?_) (fun c_60 => ?_)
            · skip
              refine lv_iinc (v := nI (j + 1)) (lv' := [(4, .int (nI (j + 1))), (3, .int (nI b)), (2, .int (nI M)), (0, .ref (ad 0)), (1, .int (nI h))]) hx hb dX5_stop_146 hl (k := 0) rfl (nI_add _ _) (by decide) rfl (fun ls hl => ?_)
              refine lv_goto (tgt := 48) hx hb dX5_stop_149 (by decide) ?_
              exact ih_48 (j + 1) (b + 1) _ _ ls (by omega) (by omega) (hF.trans (congrArg (stopF N h sr (nI M) n (j + 1)) ((if_neg c_60).trans rfl))) hP hS hl
            · skip
              refine lv_iload_n hx hb dX5_stop_63 rfl (lv_at hl 1 rfl) ?_
              refine lv_if_lt (tgt := 79) hx hb dX5_stop_64 (by decide) (fun c_64 => ?_) (fun c_64 => ?_)
              · skip
                exact absurd c_64 (nI_pos (by omega))
              · skip
                refine lv_iload hx hb dX5_stop_67 (lv_at hl 0 rfl) ?_
                refine sq_S S (c_X5_ones (by omega)) gX5_stop_X5_ones i_X5_ones ⟨Nat.le_of_ble_eq_true rfl, Nat.le_of_ble_eq_true rfl⟩ rfl hl.1 (As := [.int (nI j)]) (rest := []) (st1 := [.int (nI (onesL j j 0))]) rfl rfl (Nat.le_of_ble_eq_true rfl) ⟨Nat.le_of_ble_eq_true rfl, Nat.le_of_ble_eq_true rfl⟩ dX5_stop_69 ?_
                refine lv_iload_n hx hb dX5_stop_72 rfl (lv_at hl 1 rfl) ?_
                refine sq_S S (c_X5_ones (by omega)) gX5_stop_X5_ones i_X5_ones ⟨Nat.le_of_ble_eq_true rfl, Nat.le_of_ble_eq_true rfl⟩ rfl hl.1 (As := [.int (nI b)]) (rest := [.int (nI (onesL j j 0))]) (st1 := [.int (nI (onesL b b 0)), .int (nI (onesL j j 0))]) rfl rfl (Nat.le_of_ble_eq_true rfl) ⟨Nat.le_of_ble_eq_true rfl, Nat.le_of_ble_eq_true rfl⟩ dX5_stop_73 ?_
                have ho1 := onesL_le j j 0
                have ho2 := onesL_le b b 0
                refine lvn_icmp_ge (tgt := 146) hx hb dX5_stop_76 (by decide) (by omega) (by omega) (fun c_76 => ?_) (fun c_76 => ?_)
                · skip
                  refine lv_iinc (v := nI (j + 1)) (lv' := [(4, .int (nI (j + 1))), (3, .int (nI b)), (2, .int (nI M)), (0, .ref (ad 0)), (1, .int (nI h))]) hx hb dX5_stop_146 hl (k := 0) rfl (nI_add _ _) (by decide) rfl (fun ls hl => ?_)
                  refine lv_goto (tgt := 48) hx hb dX5_stop_149 (by decide) ?_
                  exact ih_48 (j + 1) (b + 1) _ _ ls (by omega) (by omega) (hF.trans (congrArg (stopF N h sr (nI M) n (j + 1)) ((if_pos c_60).trans ((if_pos c_76).trans rfl)))) hP hS hl
                · skip
                  refine lv_iconst (v := nI 0) hx hb dX5_stop_79 (by decide) ?_
                  refine lv_istore (lv' := [(5, .int (nI 0)), (4, .int (nI j)), (3, .int (nI b)), (2, .int (nI M)), (0, .ref (ad 0)), (1, .int (nI h))]) hx hb dX5_stop_80 hl (by decide) rfl (fun ls hl => ?_)
                  have L_82 : ∀ (n2 : Nat) (w_ : Nat) (ss : Nat → Int32) (H : Heap) (locs : List Loc) (ls : Array Slot), (w_ + n2 = N) → (ss 0 = nI N) → (stopL j N 0 sr = stopL j n2 w_ ss) → va_P D vwCl (mw cy ad ss kS ot sr stt ik tp td fr tt vl wr bo so nu mv) H → va_S (mA ad) s0.heap H locs → lv_has ls 6 [(5, .int (nI w_)), (4, .int (nI j)), (3, .int (nI b)), (2, .int (nI M)), (0, .ref (ad 0)), (1, .int (nI h))] → W p l e (rmz 7 156) s0 m args below meth c H locs 0 0 Q (F0 m 82 ls []) := by
                    intro n2
                    induction n2 with
                    | zero =>
                      intro w_ ss H locs ls hj2 hm hG hP hS hl
                      refine lv_iload hx hb dX5_stop_82 (lv_at hl 0 rfl) ?_
                      refine lv_aload_n hx hb dX5_stop_84 rfl (lv_at hl 4 rfl) ?_
                      refine m_get hx hb hts hin hown hK hP 0 (by decide) (hts (.fieldLink RX5 7 "PennyRoadModel" "s" "[I") (by decide +kernel)) rfl dX5_stop_85 ?_
                      refine lv_iconst (v := nI 0) hx hb dX5_stop_88 (by decide) ?_
                      refine m_ald hx hb hK hP 1 rfl (by decide) (by omega) dX5_stop_89 ?_
                      refine lv_top hm ?_
                      refine lvn_icmp_ge (tgt := 121) hx hb dX5_stop_90 (by decide) (by omega) (by omega) (fun c_90 => ?_) (fun c_90 => ?_)
                      · skip
                        have hG : stopL j N 0 sr = ss := hG
                        subst hG
                        refine lv_aload_n hx hb dX5_stop_121 rfl (lv_at hl 4 rfl) ?_
                        refine lv_iload_n hx hb dX5_stop_122 rfl (lv_at hl 5 rfl) ?_
                        refine wq_V S mK_ok hK hP hS (c_X5_hoursGo hm h8 (by omega)) gX5_stop_X5_hoursGo i_X5_hoursGo rfl (m_rec hK hP) ⟨Nat.le_of_ble_eq_true rfl, Nat.le_of_ble_eq_true rfl⟩ rfl hl.1 (As := [.int (nI h)]) (rest := []) (st1 := []) rfl rfl (Nat.le_of_ble_eq_true rfl) ⟨Nat.le_of_ble_eq_true rfl, Nat.le_of_ble_eq_true rfl⟩ dX5_stop_123 (fun H locs hP hS => ?_)
                        refine lv_aload_n hx hb dX5_stop_126 rfl (lv_at hl 4 rfl) ?_
                        refine lv_aload_n hx hb dX5_stop_127 rfl (lv_at hl 4 rfl) ?_
                        refine m_get hx hb hts hin hown hK hP 0 (by decide) (hts (.fieldLink RX5 7 "PennyRoadModel" "s" "[I") (by decide +kernel)) rfl dX5_stop_128 ?_
                        refine lv_iconst (v := nI 2) hx hb dX5_stop_131 (by decide) ?_
                        refine m_ald hx hb hK hP 1 rfl (by decide) (by omega) dX5_stop_132 ?_
                        refine lv_if_le (tgt := 141) hx hb dX5_stop_133 (by decide) (fun c_133 => ?_) (fun c_133 => ?_)
                        · skip
                          refine lv_iload_n hx hb dX5_stop_141 rfl (lv_at hl 2 rfl) ?_
                          refine wq_V S mK_ok hK hP hS (c_X5_takesBack) gX5_stop_X5_takesBack i_X5_takesBack rfl (m_rec hK hP) ⟨Nat.le_of_ble_eq_true rfl, Nat.le_of_ble_eq_true rfl⟩ rfl hl.1 (As := [.int (nI b)]) (rest := []) (st1 := [.int (nI b)]) rfl rfl (Nat.le_of_ble_eq_true rfl) ⟨Nat.le_of_ble_eq_true rfl, Nat.le_of_ble_eq_true rfl⟩ dX5_stop_142 (fun H locs hP hS => ?_)
                          refine lv_istore_n (lv' := [(3, .int (nI b)), (5, .int (nI w_)), (4, .int (nI j)), (2, .int (nI M)), (0, .ref (ad 0)), (1, .int (nI h))]) hx hb dX5_stop_145 rfl hl (by decide) rfl (fun ls hl => ?_)
                          refine lv_iinc (v := nI (j + 1)) (lv' := [(4, .int (nI (j + 1))), (3, .int (nI b)), (5, .int (nI w_)), (2, .int (nI M)), (0, .ref (ad 0)), (1, .int (nI h))]) hx hb dX5_stop_146 hl (k := 2) rfl (nI_add _ _) (by decide) rfl (fun ls hl => ?_)
                          refine lv_goto (tgt := 48) hx hb dX5_stop_149 (by decide) ?_
                          exact ih_48 (j + 1) (b + 1) _ _ ls (by omega) (by omega) (hF.trans (congrArg (stopF N h sr (nI M) n (j + 1)) ((if_pos c_60).trans ((if_neg c_76).trans ((if_pos c_133).trans rfl))))) hP hS (lv_sub hl [0, 1, 3, 4, 5] rfl)
                        · skip
                          refine lv_iload hx hb dX5_stop_136 (lv_at hl 1 rfl) ?_
                          refine lv_goto (tgt := 142) hx hb dX5_stop_138 (by decide) ?_
                          refine wq_V S mK_ok hK hP hS (c_X5_takesBack) gX5_stop_X5_takesBack i_X5_takesBack rfl (m_rec hK hP) ⟨Nat.le_of_ble_eq_true rfl, Nat.le_of_ble_eq_true rfl⟩ rfl hl.1 (As := [.int (nI j)]) (rest := []) (st1 := [.int (nI j)]) rfl rfl (Nat.le_of_ble_eq_true rfl) ⟨Nat.le_of_ble_eq_true rfl, Nat.le_of_ble_eq_true rfl⟩ dX5_stop_142 (fun H locs hP hS => ?_)
                          refine lv_istore_n (lv' := [(3, .int (nI j)), (5, .int (nI w_)), (4, .int (nI j)), (2, .int (nI M)), (0, .ref (ad 0)), (1, .int (nI h))]) hx hb dX5_stop_145 rfl hl (by decide) rfl (fun ls hl => ?_)
                          refine lv_iinc (v := nI (j + 1)) (lv' := [(4, .int (nI (j + 1))), (3, .int (nI j)), (5, .int (nI w_)), (2, .int (nI M)), (0, .ref (ad 0)), (1, .int (nI h))]) hx hb dX5_stop_146 hl (k := 2) rfl (nI_add _ _) (by decide) rfl (fun ls hl => ?_)
                          refine lv_goto (tgt := 48) hx hb dX5_stop_149 (by decide) ?_
                          exact ih_48 (j + 1) (j + 1) _ _ ls (by omega) (by omega) (hF.trans (congrArg (stopF N h sr (nI M) n (j + 1)) ((if_pos c_60).trans ((if_neg c_76).trans ((if_neg c_133).trans rfl))))) hP hS (lv_sub hl [0, 1, 3, 4, 5] rfl)
                      · skip
                        exfalso; omega
                    | succ n2 ih_82 =>
                      intro w_ ss H locs ls hj2 hm hG hP hS hl
                      refine lv_iload hx hb dX5_stop_82 (lv_at hl 0 rfl) ?_
                      refine lv_aload_n hx hb dX5_stop_84 rfl (lv_at hl 4 rfl) ?_
                      refine m_get hx hb hts hin hown hK hP 0 (by decide) (hts (.fieldLink RX5 7 "PennyRoadModel" "s" "[I") (by decide +kernel)) rfl dX5_stop_85 ?_
                      refine lv_iconst (v := nI 0) hx hb dX5_stop_88 (by decide) ?_
                      refine m_ald hx hb hK hP 1 rfl (by decide) (by omega) dX5_stop_89 ?_
                      refine lv_top hm ?_
                      refine lvn_icmp_ge (tgt := 121) hx hb dX5_stop_90 (by decide) (by omega) (by omega) (fun c_90 => ?_) (fun c_90 => ?_)
                      · skip
                        exfalso; omega
                      · skip
                        refine lv_aload_n hx hb dX5_stop_93 rfl (lv_at hl 4 rfl) ?_
                        refine m_get hx hb hts hin hown hK hP 0 (by decide) (hts (.fieldLink RX5 7 "PennyRoadModel" "s" "[I") (by decide +kernel)) rfl dX5_stop_94 ?_
                        refine lv_iload hx hb dX5_stop_97 (lv_at hl 0 rfl) ?_
                        refine lv_bipush (v := nI 7) hx hb dX5_stop_99 (by decide) ?_
                        refine sq_S S (c_X5_spotOf) gX5_stop_X5_spotOf i_X5_spotOf ⟨Nat.le_of_ble_eq_true rfl, Nat.le_of_ble_eq_true rfl⟩ rfl hl.1 (As := [.int (nI w_), .int (nI 7)]) (rest := [.ref (ad 1)]) (st1 := [.int (nI (5 + 8 * w_ + 7)), .ref (ad 1)]) rfl rfl (Nat.le_of_ble_eq_true rfl) ⟨Nat.le_of_ble_eq_true rfl, Nat.le_of_ble_eq_true rfl⟩ dX5_stop_101 ?_
                        refine lv_dup2_11 hx hb dX5_stop_104 rfl rfl ?_
                        refine m_ald hx hb hK hP 1 rfl (by decide) (by omega) dX5_stop_105 ?_
                        refine lv_iload hx hb dX5_stop_106 (lv_at hl 1 rfl) ?_
                        refine lv_iload hx hb dX5_stop_108 (lv_at hl 0 rfl) ?_
                        refine lv_ishr hx hb dX5_stop_110 ?_
                        refine lv_iconst (v := nI 1) hx hb dX5_stop_111 (by decide) ?_
                        refine lv_iand hx hb dX5_stop_112 ?_
                        refine lv_ior hx hb dX5_stop_113 ?_
                        refine m_ast (w' := (mw cy ad (upd ss (5 + 8 * w_ + 7) ((ss (5 + 8 * w_ + 7)) ||| (((nI j) >>> ((nI w_) &&& 31)) &&& (nI 1)))) kS ot sr stt ik tp td fr tt vl wr bo so nu mv)) hx hb hK hP hS 1 rfl (by decide) (by omega) rfl dX5_stop_114 (fun H locs hP hS => ?_)
                        refine lv_iinc (v := nI (w_ + 1)) (lv' := [(5, .int (nI (w_ + 1))), (4, .int (nI j)), (3, .int (nI b)), (2, .int (nI M)), (0, .ref (ad 0)), (1, .int (nI h))]) hx hb dX5_stop_115 hl (k := 0) rfl (nI_add _ _) (by decide) rfl (fun ls hl => ?_)
                        refine lv_goto (tgt := 82) hx hb dX5_stop_118 (by decide) ?_
                        exact ih_82 (w_ + 1) _ _ _ ls (by omega) ((upd_0 (by omega)).trans hm) hG hP hS hl
                  exact L_82 N 0 sr _ _ ls (by omega) hN rfl hP hS hl
    exact L_48 (M + 1) 0 0 _ _ ls (by omega) (by omega) rfl hP hS hl
  · skip
    refine lv_aload_n hx hb dX5_stop_12 rfl (lv_at hl 0 rfl) ?_
    refine lv_ldc (v := (-1000000001)) hx hb hown (hts (.constant RX5 41 ((-1000000001))) (by decide +kernel)) dX5_stop_13 ?_
    refine wq_V S mK_ok hK hP hS (c_X5_finds (t := 0) (by decide)) gX5_stop_X5_finds i_X5_finds rfl (m_rec hK hP) ⟨Nat.le_of_ble_eq_true rfl, Nat.le_of_ble_eq_true rfl⟩ rfl hl.1 (As := [.int ((-1000000001))]) (rest := []) (st1 := [.int ((-1000000001))]) rfl rfl (Nat.le_of_ble_eq_true rfl) ⟨Nat.le_of_ble_eq_true rfl, Nat.le_of_ble_eq_true rfl⟩ dX5_stop_15 (fun H locs hP hS => ?_)
    subst hQ
    exact mp_ri hx hb hr hlocks hP hS dX5_stop_18 (by first | with_reducible rfl | (simp only [fnd, if_neg c_9]; done) | (simp only [fnd, c_9, Bool.false_eq_true, Bool.true_eq_false, and_true, true_and, false_and, and_false, and_self, not_true_eq_false, not_false_eq_true, if_true, if_false, reduceIte, or_false, false_or, true_or, or_true]; done) | (subst_vars; first | with_reducible rfl | (simp only [fnd, if_neg c_9]; done) | (simp only [fnd, c_9, Bool.false_eq_true, Bool.true_eq_false, and_true, true_and, false_and, and_false, and_self, not_true_eq_false, not_false_eq_true, if_true, if_false, reduceIte, or_false, false_or, true_or, or_true]; done)) | contradiction | rfl) (by first | with_reducible rfl | (simp only [fnd, if_neg c_9]; done) | (simp only [fnd, c_9, Bool.false_eq_true, Bool.true_eq_false, and_true, true_and, false_and, and_false, and_self, not_true_eq_false, not_false_eq_true, if_true, if_false, reduceIte, or_false, false_or, true_or, or_true]; done) | (subst_vars; first | with_reducible rfl | (simp only [fnd, if_neg c_9]; done) | (simp only [fnd, c_9, Bool.false_eq_true, Bool.true_eq_false, and_true, true_and, false_and, and_false, and_self, not_true_eq_false, not_false_eq_true, if_true, if_false, reduceIte, or_false, false_or, true_or, or_true]; done)) | contradiction | rfl)
theorem i_X5_stop : ciOk yX5_stop cX5_stop 6 (some .int) wsX5_stop 1 := ⟨⟨_, rfl⟩, by decide +kernel⟩
