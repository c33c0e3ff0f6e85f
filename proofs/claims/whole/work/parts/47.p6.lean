set_option maxHeartbeats 1000000 in
set_option maxRecDepth 100000 in
theorem c_X2_append {l : Launch} {D : va_G} {cy : Nat → ClassId} {ad : Nat → Nat} {p0 : Nat → Int32} {p1 : Nat → Int32} {p2 : Nat → Int32} {ke : Int32} {tb : Nat → Int32} {t2 : Int32} {t3 : Int32} {t4 : Int32} {t5 : Int32} {sb : Nat → Int32} {ss : Nat → Int32} {sw : Nat → Nat → Int64} {fd : Nat → Int32} {b : Int32} {T : Nat} (hT2 : T < 120) : Met l yX2_append wsX2_append (rmz 0 0) (wPre D (cK D cy ad) (cw cy ad (rr p0 p1 p2) ke tb (nI T) t2 t3 t4 t5 sb ss sw fd) [.ref (ad 31), .int (b)]) (wPost D (cw cy ad (rr p0 p1 p2) ke (upd tb T (b).toInt8.toInt32) (nI (T + 1)) t2 t3 t4 t5 sb ss sw fd) none (cA ad)) 0 0 (cA ad) := by
  refine wq_entry rfl rfl (Nat.le_of_ble_eq_true rfl) ?_
  intro p e s0 m args below meth c S hr hlocks hK hP ls hl
  have S : CallFix p m c cX2_append 2 s0 args wsX2_append RX2 := S
  obtain ⟨hx, hb, hml, hown, hts⟩ := id S
  have hin2 : ∀ w ∈ wsX20, w ∈ wsX2_append := fun w h => List.mem_cons_of_mem _ (List.mem_append_right _ h)
  have hS : va_S (cA ad) s0.heap s0.heap [] := va_S.rf
  have hl : lv_has ls 2 [(0, .ref (ad 31)), (1, .int (b))] := hl
  generalize hQ : MQ below (wPost D (cw cy ad (rr p0 p1 p2) ke (upd tb T (b).toInt8.toInt32) (nI (T + 1)) t2 t3 t4 t5 sb ss sw fd) none (cA ad)) args s0 0 0 (cA ad) = Q
  refine lv_aload_n hx hb dX2_append_0 rfl (lv_at hl 0 rfl) ?_
  refine c_get (v := .ref (ad 32)) (C := RX2) (T := TX2) (N := 6) hx hb hts hin2 hown hK hP (31) (by decide) cE_tp rfl 0 (by decide) (Or.inl (hts (.fieldLink RX2 9 "PennyRoad$Tape" "bytes" "[B") (by decide +kernel))) rfl dX2_append_1 ?_
  refine lv_aload_n hx hb dX2_append_4 rfl (lv_at hl 0 rfl) ?_
  refine c_get (v := .int (nI T)) (C := RX2) (T := TX2) (N := 6) hx hb hts hin2 hown hK hP (31) (by decide) cE_tp rfl 1 (by decide) (Or.inl (hts (.fieldLink RX2 15 "PennyRoad$Tape" "length" "I") (by decide +kernel))) rfl dX2_append_5 ?_
  refine lv_iload_n hx hb dX2_append_8 rfl (lv_at hl 1 rfl) ?_
  refine c_astB hx hb hK hP hS (by omega) dX2_append_9 (fun H locs hP hS => ?_)
  refine lv_aload_n hx hb dX2_append_10 rfl (lv_at hl 0 rfl) ?_
  refine lv_dup hx hb dX2_append_11 rfl ?_
  refine c_get (v := .int (nI T)) (C := RX2) (T := TX2) (N := 6) hx hb hts hin2 hown hK hP (31) (by decide) cE_tp rfl 1 (by decide) (Or.inl (hts (.fieldLink RX2 15 "PennyRoad$Tape" "length" "I") (by decide +kernel))) rfl dX2_append_12 ?_
  refine lv_iconst (v := nI 1) hx hb dX2_append_15 (by decide) ?_
  refine lvn_iadd hx hb dX2_append_16 ?_
  refine c_put (w' := (cw cy ad (rr p0 p1 p2) ke (upd tb T ((b)).toInt8.toInt32) (nI (T + 1)) t2 t3 t4 t5 sb ss sw fd)) (ty := .int) (C := RX2) (T := TX2) (N := 6) hx hb hts hin2 tyX2 tyX2_ok nmX2 hown hK hP hS (31) (by decide) cE_tp rfl 1 (by decide) (Or.inl (hts (.fieldLink RX2 15 "PennyRoad$Tape" "length" "I") (by decide +kernel))) rfl (by decide +kernel) rfl rfl (by show _ < 6; decide) cs_tp dX2_append_17 (fun H locs hP hS => ?_)
  subst hQ
  exact wq_rv hx hb hr hlocks hP hS dX2_append_20 rfl rfl
theorem i_X2_append : ciOk yX2_append cX2_append 2 none wsX2_append 1 := ⟨⟨_, rfl⟩, by decide +kernel⟩
set_option maxHeartbeats 1000000 in
set_option maxRecDepth 100000 in
theorem c_X4_feed {l : Launch} {D : va_G} {cy : Nat → ClassId} {ad : Nat → Nat} {p0 : Nat → Int32} {p1 : Nat → Int32} {p2 : Nat → Int32} {ke : Int32} {tb : Nat → Int32} {t2 : Int32} {t3 : Int32} {t4 : Int32} {t5 : Int32} {sb : Nat → Int32} {ss : Nat → Int32} {sw : Nat → Nat → Int64} {fd : Nat → Int32} {q : Int32} {o : Int32} {T : Nat} (hT2 : T ≤ 120) : Met l yX4_feed wsX4_feed (rmz 1 22) (wPre D (cK D cy ad) (cw cy ad (rr p0 p1 p2) ke tb (nI T) t2 t3 t4 t5 sb ss sw fd) [.ref (ad 0), .int (q), .int (o)]) (cPub D cy ad (some (.int (if rg 1 4 o then (if T + o.toNatClampNeg ≤ 120 then nI (T + o.toNatClampNeg) else -1000000002) else -1000000001))) p0 p2 ke (if rg 1 4 o then (if T + o.toNatClampNeg ≤ 120 then feedC q o.toNatClampNeg T tb else tb) else tb) (if rg 1 4 o then (if T + o.toNatClampNeg ≤ 120 then nI (T + o.toNatClampNeg) else nI T) else nI T) sb ss sw (if rg 1 4 o then (if T + o.toNatClampNeg ≤ 120 then fd else fnd fd 1) else fnd fd 0)) 0 0 (cA ad) := by
  refine wq_entry rfl rfl (Nat.le_of_ble_eq_true rfl) ?_
  intro p e s0 m args below meth c S hr hlocks hK hP ls hl
  have S : CallFix p m c cX4_feed 4 s0 args wsX4_feed RX4 := S
  obtain ⟨hx, hb, hml, hown, hts⟩ := id S
  have hin4 : ∀ w ∈ wsX40, w ∈ wsX4_feed := fun w h => List.mem_cons_of_mem _ (List.mem_append_left _ (List.mem_append_right _ h))
  have hin2 : ∀ w ∈ wsX20, w ∈ wsX4_feed := fun w h => List.mem_cons_of_mem _ (List.mem_append_right _ h)
  have hS : va_S (cA ad) s0.heap s0.heap [] := va_S.rf
  have hl : lv_has ls 4 [(0, .ref (ad 0)), (1, .int (q)), (2, .int (o))] := hl
  generalize hQ : MQ below (cPub D cy ad (some (.int (if rg 1 4 o then (if T + o.toNatClampNeg ≤ 120 then nI (T + o.toNatClampNeg) else -1000000002) else -1000000001))) p0 p2 ke (if rg 1 4 o then (if T + o.toNatClampNeg ≤ 120 then feedC q o.toNatClampNeg T tb else tb) else tb) (if rg 1 4 o then (if T + o.toNatClampNeg ≤ 120 then nI (T + o.toNatClampNeg) else nI T) else nI T) sb ss sw (if rg 1 4 o then (if T + o.toNatClampNeg ≤ 120 then fd else fnd fd 1) else fnd fd 0)) args s0 0 0 (cA ad) = Q
  refine lv_iload_n hx hb dX4_feed_0 rfl (lv_at hl 2 rfl) ?_
  refine lv_iconst (v := nI 1) hx hb dX4_feed_1 (by decide) ?_
  refine lv_iconst (v := nI 4) hx hb dX4_feed_2 (by decide) ?_
  refine sq_S S (c_X4_withinN (by decide) (by decide)) gX4_feed_X4_within i_X4_within ⟨Nat.le_of_ble_eq_true rfl, Nat.le_of_ble_eq_true rfl⟩ rfl hl.1 (As := [.int (o), .int (nI 1), .int (nI 4)]) (rest := []) (st1 := [.int (z (rg 1 4 (o)))]) rfl rfl (Nat.le_of_ble_eq_true rfl) ⟨Nat.le_of_ble_eq_true rfl, Nat.le_of_ble_eq_true rfl⟩ dX4_feed_3 ?_
  refine lvz_if_ne (tgt := 15) hx hb dX4_feed_6 (by decide) (fun c_6 => ?_) (fun c_6 => ?_)
  · skip
    obtain ⟨m_, h_m_, h_m_2, rfl⟩ := rg_ix (a := 1) (b := 4) (by decide) c_6
    have hcl_m_ : (nI m_).toNatClampNeg = m_ := nI_clamp (by omega)
    refine lv_aload_n hx hb dX4_feed_15 rfl (lv_at hl 0 rfl) ?_
    refine c_get (v := .ref (ad 31)) (C := RX4) (T := TX4) (N := 7) hx hb hts hin4 hown hK hP (0) (by decide) cE_0 rfl 4 (by decide) (Or.inl (hts (.fieldLink RX4 29 "PennyRoad" "tape" "LPennyRoad$Tape;") (by decide +kernel))) rfl dX4_feed_16 ?_
    refine c_get (v := .int (nI T)) (C := RX2) (T := TX2) (N := 6) hx hb hts hin2 hown hK hP (31) (by decide) cE_tp rfl 1 (by decide) (Or.inr (c_nest hK 27 rfl)) rfl dX4_feed_19 ?_
    refine lv_iload_n hx hb dX4_feed_22 rfl (lv_at hl 2 rfl) ?_
    refine lvn_iadd hx hb dX4_feed_23 ?_
    refine lv_bipush (v := nI 120) hx hb dX4_feed_24 (by decide) ?_
    refine lvn_icmp_le (tgt := 35) hx hb dX4_feed_26 (by decide) (by omega) (by omega) (fun c_26 => ?_) (fun c_26 => ?_)
    · skip
      refine lv_iload_n hx hb dX4_feed_35 rfl (lv_at hl 2 rfl) ?_
      refine lv_iconst (v := nI 1) hx hb dX4_feed_36 (by decide) ?_
      refine lv_isub hx hb dX4_feed_37 ?_
      refine lv_top (pm_pred (by omega)) ?_
      refine lv_istore_n (lv' := [(3, .int (pm m_)), (0, .ref (ad 0)), (1, .int (q)), (2, .int (nI m_))]) hx hb dX4_feed_38 rfl hl (by decide) rfl (fun ls hl => ?_)
      have L_39 : ∀ (n : Nat) (t : Nat) (pp : Nat → Int32) (H : Heap) (locs : List Loc) (ls : Array Slot), (t + n = T + m_) → (feedC q m_ T tb = feedC q n t pp) → va_P D vwCl (cw cy ad (rr p0 p1 p2) ke pp (nI t) t2 t3 t4 t5 sb ss sw fd) H → va_S (cA ad) s0.heap H locs → lv_has ls 4 [(3, .int (pm n)), (0, .ref (ad 0)), (1, .int (q)), (2, .int (nI m_))] → W p l e (rmz 1 22) s0 m args below meth c H locs 0 0 Q (F0 m 39 ls []) := by
        intro n
        induction n with
        | zero =>
          intro t pp H locs ls ht hF hP hS hl
          have hl : lv_has ls 4 [(3, .int ((-1))), (0, .ref (ad 0)), (1, .int (q)), (2, .int (nI m_))] := hl
          refine lv_iload_n hx hb dX4_feed_39 rfl (lv_at hl 0 rfl) ?_
          refine lv_if_lt (tgt := 63) hx hb dX4_feed_40 (by decide) (fun c_40 => ?_) (fun c_40 => ?_)
          · skip
            have hF : feedC q m_ T tb = pp := hF
            subst hF
            have ht9 : t = T + m_ := by omega
            subst ht9
            refine lv_aload_n hx hb dX4_feed_63 rfl (lv_at hl 1 rfl) ?_
            refine c_get (v := .ref (ad 31)) (C := RX4) (T := TX4) (N := 7) hx hb hts hin4 hown hK hP (0) (by decide) cE_0 rfl 4 (by decide) (Or.inl (hts (.fieldLink RX4 29 "PennyRoad" "tape" "LPennyRoad$Tape;") (by decide +kernel))) rfl dX4_feed_64 ?_
            refine c_get (v := .int (nI (T + m_))) (C := RX2) (T := TX2) (N := 6) hx hb hts hin2 hown hK hP (31) (by decide) cE_tp rfl 1 (by decide) (Or.inr (c_nest hK 27 rfl)) rfl dX4_feed_67 ?_
            subst hQ
            exact cp_ri hx hb hr hlocks hP hS dX4_feed_70 (by first | with_reducible rfl | (simp only [fnd, if_pos c_6, if_pos c_26, if_pos c_40]; done) | (simp only [fnd, hcl_m_, c_6, if_pos c_26, if_pos c_40, Bool.false_eq_true, Bool.true_eq_false, and_true, true_and, false_and, and_false, and_self, not_true_eq_false, not_false_eq_true, if_true, if_false, reduceIte, or_false, false_or, true_or, or_true]; done) | (subst_vars; first | with_reducible rfl | (simp only [fnd, if_pos c_6, if_pos c_26, if_pos c_40]; done) | (simp only [fnd, hcl_m_, c_6, if_pos c_26, if_pos c_40, Bool.false_eq_true, Bool.true_eq_false, and_true, true_and, false_and, and_false, and_self, not_true_eq_false, not_false_eq_true, if_true, if_false, reduceIte, or_false, false_or, true_or, or_true]; done)) | contradiction | rfl) (by first | with_reducible rfl | (simp only [fnd, if_pos c_6, if_pos c_26, if_pos c_40]; done) | (simp only [fnd, hcl_m_, c_6, if_pos c_26, if_pos c_40, Bool.false_eq_true, Bool.true_eq_false, and_true, true_and, false_and, and_false, and_self, not_true_eq_false, not_false_eq_true, if_true, if_false, reduceIte, or_false, false_or, true_or, or_true]; done) | (subst_vars; first | with_reducible rfl | (simp only [fnd, if_pos c_6, if_pos c_26, if_pos c_40]; done) | (simp only [fnd, hcl_m_, c_6, if_pos c_26, if_pos c_40, Bool.false_eq_true, Bool.true_eq_false, and_true, true_and, false_and, and_false, and_self, not_true_eq_false, not_false_eq_true, if_true, if_false, reduceIte, or_false, false_or, true_or, or_true]; done)) | contradiction | rfl)
          · skip
            exact absurd c_40 (by decide)
        | succ n ih_39 =>
          intro t pp H locs ls ht hF hP hS hl
          have hl : lv_has ls 4 [(3, .int (nI n)), (0, .ref (ad 0)), (1, .int (q)), (2, .int (nI m_))] := hl
          refine lv_iload_n hx hb dX4_feed_39 rfl (lv_at hl 0 rfl) ?_
          refine lv_if_lt (tgt := 63) hx hb dX4_feed_40 (by decide) (fun c_40 => ?_) (fun c_40 => ?_)
          · skip
            exact absurd c_40 (nI_pos (by omega))
          · skip
            refine lv_aload_n hx hb dX4_feed_43 rfl (lv_at hl 1 rfl) ?_
            refine c_get (v := .ref (ad 31)) (C := RX4) (T := TX4) (N := 7) hx hb hts hin4 hown hK hP (0) (by decide) cE_0 rfl 4 (by decide) (Or.inl (hts (.fieldLink RX4 29 "PennyRoad" "tape" "LPennyRoad$Tape;") (by decide +kernel))) rfl dX4_feed_44 ?_
            refine lv_iload_n hx hb dX4_feed_47 rfl (lv_at hl 2 rfl) ?_
            refine lv_bipush (v := nI 8) hx hb dX4_feed_48 (by decide) ?_
            refine lv_iload_n hx hb dX4_feed_50 rfl (lv_at hl 0 rfl) ?_
            refine lvn_imul hx hb dX4_feed_51 ?_
            refine lv_ishr hx hb dX4_feed_52 ?_
            refine lv_i2b (v := ((q) >>> ((nI (8 * n)) &&& 31)).toInt8.toInt32) hx hb dX4_feed_53 rfl ?_
            refine wq_VN (host := "PennyRoad") S cK_ok hK hP hS (c_X2_append (by omega)) gX4_feed_X2_append_n164 i_X2_append (c_nest hK 50 rfl) (hts (.initialized RX2) (by decide +kernel)) (hts (.instanceMethod yX2_append) (by decide +kernel)) (hts (.selects RX2 yX2_append yX2_append) (by decide +kernel)) (c_rec hK hP 31 (by decide) cE_tp rfl) ⟨Nat.le_of_ble_eq_true rfl, Nat.le_of_ble_eq_true rfl⟩ rfl hl.1 (As := [.int (((q) >>> ((nI (8 * n)) &&& 31)).toInt8.toInt32)]) (rest := []) (st1 := []) rfl rfl (Nat.le_of_ble_eq_true rfl) ⟨Nat.le_of_ble_eq_true rfl, Nat.le_of_ble_eq_true rfl⟩ dX4_feed_54 (fun H locs hP hS => ?_)
            refine lv_iinc (v := pm n) (lv' := [(3, .int (pm n)), (0, .ref (ad 0)), (1, .int (q)), (2, .int (nI m_))]) hx hb dX4_feed_57 hl (k := 0) rfl (pm_dec n) (by decide) rfl (fun ls hl => ?_)
            refine lv_goto (tgt := 39) hx hb dX4_feed_60 (by decide) ?_
            exact ih_39 (t + 1) _ _ _ ls (by omega) hF hP hS hl
      exact L_39 m_ T tb _ _ ls (by omega) rfl hP hS hl
    · skip
      refine lv_aload_n hx hb dX4_feed_29 rfl (lv_at hl 0 rfl) ?_
      refine lv_iconst (v := nI 1) hx hb dX4_feed_30 (by decide) ?_
      refine wq_V S cK_ok hK hP hS (c_X4_finding (t := 1) (by decide)) gX4_feed_X4_finding i_X4_finding rfl (c_rec hK hP 0 (by decide) cE_0 rfl) ⟨Nat.le_of_ble_eq_true rfl, Nat.le_of_ble_eq_true rfl⟩ rfl hl.1 (As := [.int (nI 1)]) (rest := []) (st1 := [.int ((-1000000002))]) rfl rfl (Nat.le_of_ble_eq_true rfl) ⟨Nat.le_of_ble_eq_true rfl, Nat.le_of_ble_eq_true rfl⟩ dX4_feed_31 (fun H locs hP hS => ?_)
      subst hQ
      exact cp_ri hx hb hr hlocks hP hS dX4_feed_34 (by first | with_reducible rfl | (simp only [fnd, if_pos c_6, if_neg c_26]; done) | (simp only [fnd, hcl_m_, c_6, if_neg c_26, Bool.false_eq_true, Bool.true_eq_false, and_true, true_and, false_and, and_false, and_self, not_true_eq_false, not_false_eq_true, if_true, if_false, reduceIte, or_false, false_or, true_or, or_true]; done) | (subst_vars; first | with_reducible rfl | (simp only [fnd, if_pos c_6, if_neg c_26]; done) | (simp only [fnd, hcl_m_, c_6, if_neg c_26, Bool.false_eq_true, Bool.true_eq_false, and_true, true_and, false_and, and_false, and_self, not_true_eq_false, not_false_eq_true, if_true, if_false, reduceIte, or_false, false_or, true_or, or_true]; done)) | contradiction | rfl) (by first | with_reducible rfl | (simp only [fnd, if_pos c_6, if_neg c_26]; done) | (simp only [fnd, hcl_m_, c_6, if_neg c_26, Bool.false_eq_true, Bool.true_eq_false, and_true, true_and, false_and, and_false, and_self, not_true_eq_false, not_false_eq_true, if_true, if_false, reduceIte, or_false, false_or, true_or, or_true]; done) | (subst_vars; first | with_reducible rfl | (simp only [fnd, if_pos c_6, if_neg c_26]; done) | (simp only [fnd, hcl_m_, c_6, if_neg c_26, Bool.false_eq_true, Bool.true_eq_false, and_true, true_and, false_and, and_false, and_self, not_true_eq_false, not_false_eq_true, if_true, if_false, reduceIte, or_false, false_or, true_or, or_true]; done)) | contradiction | rfl)
  · skip
    refine lv_aload_n hx hb dX4_feed_9 rfl (lv_at hl 0 rfl) ?_
    refine lv_iconst (v := nI 0) hx hb dX4_feed_10 (by decide) ?_
    refine wq_V S cK_ok hK hP hS (c_X4_finding (t := 0) (by decide)) gX4_feed_X4_finding i_X4_finding rfl (c_rec hK hP 0 (by decide) cE_0 rfl) ⟨Nat.le_of_ble_eq_true rfl, Nat.le_of_ble_eq_true rfl⟩ rfl hl.1 (As := [.int (nI 0)]) (rest := []) (st1 := [.int ((-1000000001))]) rfl rfl (Nat.le_of_ble_eq_true rfl) ⟨Nat.le_of_ble_eq_true rfl, Nat.le_of_ble_eq_true rfl⟩ dX4_feed_11 (fun H locs hP hS => ?_)
    subst hQ
    exact cp_ri hx hb hr hlocks hP hS dX4_feed_14 (by first | with_reducible rfl | (simp only [fnd, if_neg c_6]; done) | (simp only [fnd, c_6, Bool.false_eq_true, Bool.true_eq_false, and_true, true_and, false_and, and_false, and_self, not_true_eq_false, not_false_eq_true, if_true, if_false, reduceIte, or_false, false_or, true_or, or_true]; done) | (subst_vars; first | with_reducible rfl | (simp only [fnd, if_neg c_6]; done) | (simp only [fnd, c_6, Bool.false_eq_true, Bool.true_eq_false, and_true, true_and, false_and, and_false, and_self, not_true_eq_false, not_false_eq_true, if_true, if_false, reduceIte, or_false, false_or, true_or, or_true]; done)) | contradiction | rfl) (by first | with_reducible rfl | (simp only [fnd, if_neg c_6]; done) | (simp only [fnd, c_6, Bool.false_eq_true, Bool.true_eq_false, and_true, true_and, false_and, and_false, and_self, not_true_eq_false, not_false_eq_true, if_true, if_false, reduceIte, or_false, false_or, true_or, or_true]; done) | (subst_vars; first | with_reducible rfl | (simp only [fnd, if_neg c_6]; done) | (simp only [fnd, c_6, Bool.false_eq_true, Bool.true_eq_false, and_true, true_and, false_and, and_false, and_self, not_true_eq_false, not_false_eq_true, if_true, if_false, reduceIte, or_false, false_or, true_or, or_true]; done)) | contradiction | rfl)
theorem i_X4_feed : ciOk yX4_feed cX4_feed 4 (some .int) wsX4_feed 2 := ⟨⟨_, rfl⟩, by decide +kernel⟩
set_option maxHeartbeats 1000000 in
set_option maxRecDepth 100000 in
theorem c_X4_lastsWithout {l : Launch} {D : va_G} {cy : Nat → ClassId} {ad : Nat → Nat} {p0 : Nat → Int32} {p1 : Nat → Int32} {p2 : Nat → Int32} {ke : Int32} {tb : Nat → Int32} {t1 : Int32} {t2 : Int32} {t3 : Int32} {t4 : Int32} {t5 : Int32} {sb : Nat → Int32} {ss : Nat → Int32} {sw : Nat → Nat → Int64} {fd : Nat → Int32} {x : Nat} {h : Nat} {N : Nat} (hx0 : x < 2 ^ 31) (hh : h < 2 ^ 31) (hN : p0 0 = nI N) (h8 : N ≤ 8) : Met l yX4_lastsWithout wsX4_lastsWithout (rmz 4 88) (wPre D (cK D cy ad) (cw cy ad (rr p0 p1 p2) ke tb t1 t2 t3 t4 t5 sb ss sw fd) [.ref (ad 0), .int (nI x), .int (nI h)]) (wPost D (cw cy ad (rr p0 (lastC N h (stopC x N 0 (cpn (5 + 8 * N) p0 p1))) p2) ke tb t1 t2 t3 t4 t5 sb ss sw fd) (some (.int (z (0 < lastC N h (stopC x N 0 p0) 2)))) (cA ad)) 0 0 (cA ad) := by
  refine wq_entry rfl rfl (Nat.le_of_ble_eq_true rfl) ?_
  intro p e s0 m args below meth c S hr hlocks hK hP ls hl
  have S : CallFix p m c cX4_lastsWithout 4 s0 args wsX4_lastsWithout RX4 := S
  obtain ⟨hx, hb, hml, hown, hts⟩ := id S
  have hin4 : ∀ w ∈ wsX40, w ∈ wsX4_lastsWithout := fun w h => List.mem_cons_of_mem _ (List.mem_append_left _ (List.mem_append_left _ (List.mem_append_right _ h)))
  have hin0 : ∀ w ∈ wsX00, w ∈ wsX4_lastsWithout := fun w h => List.mem_cons_of_mem _ (List.mem_append_left _ (List.mem_append_right _ h))
  have hin3 : ∀ w ∈ wsX30, w ∈ wsX4_lastsWithout := fun w h => List.mem_cons_of_mem _ (List.mem_append_right _ h)
  have hS : va_S (cA ad) s0.heap s0.heap [] := va_S.rf
  have hl : lv_has ls 4 [(0, .ref (ad 0)), (1, .int (nI x)), (2, .int (nI h))] := hl
  generalize hQ : MQ below (wPost D (cw cy ad (rr p0 (lastC N h (stopC x N 0 (cpn (5 + 8 * N) p0 p1))) p2) ke tb t1 t2 t3 t4 t5 sb ss sw fd) (some (.int (z (0 < lastC N h (stopC x N 0 p0) 2)))) (cA ad)) args s0 0 0 (cA ad) = Q
  refine lv_aload_n hx hb dX4_lastsWithout_0 rfl (lv_at hl 0 rfl) ?_
  refine wq_V S cK_ok hK hP hS (c_X4_lookAhead hN h8) gX4_lastsWithout_X4_lookAhead i_X4_lookAhead rfl (c_rec hK hP 0 (by decide) cE_0 rfl) ⟨Nat.le_of_ble_eq_true rfl, Nat.le_of_ble_eq_true rfl⟩ rfl hl.1 (As := []) (rest := []) (st1 := []) rfl rfl (Nat.le_of_ble_eq_true rfl) ⟨Nat.le_of_ble_eq_true rfl, Nat.le_of_ble_eq_true rfl⟩ dX4_lastsWithout_1 (fun H locs hP hS => ?_)
  refine lv_iconst (v := nI 0) hx hb dX4_lastsWithout_4 (by decide) ?_
  refine lv_istore_n (lv' := [(3, .int (nI 0)), (0, .ref (ad 0)), (1, .int (nI x)), (2, .int (nI h))]) hx hb dX4_lastsWithout_5 rfl hl (by decide) rfl (fun ls hl => ?_)
  have L_6 : ∀ (n : Nat) (j : Nat) (sz : Nat → Int32) (H : Heap) (locs : List Loc) (ls : Array Slot), (j + n = N) → (sz 0 = nI N) → (stopC x N 0 (cpn (5 + 8 * N) p0 p1) = stopC x n j sz) → va_P D vwCl (cw cy ad (rr p0 sz p2) ke tb t1 t2 t3 t4 t5 sb ss sw fd) H → va_S (cA ad) s0.heap H locs → lv_has ls 4 [(3, .int (nI j)), (0, .ref (ad 0)), (1, .int (nI x)), (2, .int (nI h))] → W p l e (rmz 4 88) s0 m args below meth c H locs 0 0 Q (F0 m 6 ls []) := by
    intro n
    induction n with
    | zero =>
      intro j sz H locs ls hj hm hF hP hS hl
      refine lv_iload_n hx hb dX4_lastsWithout_6 rfl (lv_at hl 0 rfl) ?_
      refine lv_aload_n hx hb dX4_lastsWithout_7 rfl (lv_at hl 1 rfl) ?_
      refine c_get (v := .ref (ad (1 + 10 * 1))) (C := RX4) (T := TX4) (N := 7) hx hb hts hin4 hown hK hP (0) (by decide) cE_0 rfl 1 (by decide) (Or.inl (hts (.fieldLink RX4 16 "PennyRoad" "ahead" "LPennyRoad$Road;") (by decide +kernel))) rfl dX4_lastsWithout_8 ?_
      refine c_get (v := .int (sz 0)) (C := RX0) (T := TX0) (N := 6) hx hb hts hin0 hown hK hP (1 + 10 * 1) (by decide) (cE_rd (by decide)) rfl 4 (by decide) (Or.inr (c_nest hK 25 rfl)) rfl dX4_lastsWithout_11 ?_
      refine lv_top hm ?_
      refine lvn_icmp_ge (tgt := 45) hx hb dX4_lastsWithout_14 (by decide) (by omega) (by omega) (fun c_14 => ?_) (fun c_14 => ?_)
      · skip
        have hF : stopC x N 0 (cpn (5 + 8 * N) p0 p1) = sz := hF
        subst hF
        refine lv_iconst (v := nI 0) hx hb dX4_lastsWithout_45 (by decide) ?_
        refine lv_istore_n (lv' := [(3, .int (nI 0)), (0, .ref (ad 0)), (1, .int (nI x)), (2, .int (nI h))]) hx hb dX4_lastsWithout_46 rfl hl (by decide) rfl (fun ls hl => ?_)
        have L_47 : ∀ (n : Nat) (t : Nat) (sy : Nat → Int32) (H : Heap) (locs : List Loc) (ls : Array Slot), (t + n = h) → (sy 0 = nI N) → (lastC N h (stopC x N 0 (cpn (5 + 8 * N) p0 p1)) = lastC N n sy) → va_P D vwCl (cw cy ad (rr p0 sy p2) ke tb t1 t2 t3 t4 t5 sb ss sw fd) H → va_S (cA ad) s0.heap H locs → lv_has ls 4 [(3, .int (nI t)), (0, .ref (ad 0)), (1, .int (nI x)), (2, .int (nI h))] → W p l e (rmz 4 88) s0 m args below meth c H locs 0 0 Q (F0 m 47 ls []) := by
          intro n
          induction n with
          | zero =>
            intro t sy H locs ls hj2 hm2 hF2 hP hS hl
            refine lv_iload_n hx hb dX4_lastsWithout_47 rfl (lv_at hl 0 rfl) ?_
            refine lv_iload_n hx hb dX4_lastsWithout_48 rfl (lv_at hl 3 rfl) ?_
            refine lvn_icmp_ge (tgt := 75) hx hb dX4_lastsWithout_49 (by decide) (by omega) (by omega) (fun c_49 => ?_) (fun c_49 => ?_)
            · skip
              have hE : lastC N h (stopC x N 0 (cpn (5 + 8 * N) p0 p1)) = sy := by first | exact hF2.trans (if_pos c_59) | exact hF2
              refine lv_aload_n hx hb dX4_lastsWithout_75 rfl (lv_at hl 1 rfl) ?_
              refine c_get (v := .ref (ad (1 + 10 * 1))) (C := RX4) (T := TX4) (N := 7) hx hb hts hin4 hown hK hP (0) (by decide) cE_0 rfl 1 (by decide) (Or.inl (hts (.fieldLink RX4 16 "PennyRoad" "ahead" "LPennyRoad$Road;") (by decide +kernel))) rfl dX4_lastsWithout_76 ?_
              refine c_get (v := .int (sy 2)) (C := RX0) (T := TX0) (N := 6) hx hb hts hin0 hown hK hP (1 + 10 * 1) (by decide) (cE_rd (by decide)) rfl 1 (by decide) (Or.inr (c_nest hK 19 rfl)) rfl dX4_lastsWithout_79 ?_
              refine lv_if_le (tgt := 89) hx hb dX4_lastsWithout_82 (by decide) (fun c_82 => ?_) (fun c_82 => ?_)
              · skip
                refine lv_iconst (v := nI 0) hx hb dX4_lastsWithout_89 (by decide) ?_
                subst hQ
                exact wq_rz hx hb hr hlocks hP hS dX4_lastsWithout_90 (by subst_vars; first | (left; rfl) | (right; rfl) | (split <;> simp)) (by rw [← last_l (b := p1), hE]; first | exact rvI (z_f (Int32.not_lt.mpr c_82)) | exact rvI (z_t (Int32.not_le.mp c_82))) (by rw [hE])
              · skip
                refine lv_iconst (v := nI 1) hx hb dX4_lastsWithout_85 (by decide) ?_
                refine lv_goto (tgt := 90) hx hb dX4_lastsWithout_86 (by decide) ?_
                subst hQ
                exact wq_rz hx hb hr hlocks hP hS dX4_lastsWithout_90 (by subst_vars; first | (left; rfl) | (right; rfl) | (split <;> simp)) (by rw [← last_l (b := p1), hE]; first | exact rvI (z_f (Int32.not_lt.mpr c_82)) | exact rvI (z_t (Int32.not_le.mp c_82))) (by rw [hE])
            · skip
              exfalso; omega
          | succ n ih_47 =>
            intro t sy H locs ls hj2 hm2 hF2 hP hS hl
            refine lv_iload_n hx hb dX4_lastsWithout_47 rfl (lv_at hl 0 rfl) ?_
            refine lv_iload_n hx hb dX4_lastsWithout_48 rfl (lv_at hl 3 rfl) ?_
            refine lvn_icmp_ge (tgt := 75) hx hb dX4_lastsWithout_49 (by decide) (by omega) (by omega) (fun c_49 => ?_) (fun c_49 => ?_)
            · skip
              exfalso; omega
            · skip
              refine lv_aload_n hx hb dX4_lastsWithout_52 rfl (lv_at hl 1 rfl) ?_
              refine c_get (v := .ref (ad (1 + 10 * 1))) (C := RX4) (T := TX4) (N := 7) hx hb hts hin4 hown hK hP (0) (by decide) cE_0 rfl 1 (by decide) (Or.inl (hts (.fieldLink RX4 16 "PennyRoad" "ahead" "LPennyRoad$Road;") (by decide +kernel))) rfl dX4_lastsWithout_53 ?_
              refine c_get (v := .int (sy 2)) (C := RX0) (T := TX0) (N := 6) hx hb hts hin0 hown hK hP (1 + 10 * 1) (by decide) (cE_rd (by decide)) rfl 1 (by decide) (Or.inr (c_nest hK 19 rfl)) rfl dX4_lastsWithout_56 ?_
              refine lv_if_le (tgt := 75) hx hb dX4_lastsWithout_59 (by decide) (fun c_59 => ?_) (fun c_59 => ?_)
              · skip
                have hE : lastC N h (stopC x N 0 (cpn (5 + 8 * N) p0 p1)) = sy := by first | exact hF2.trans (if_pos c_59) | exact hF2
                refine lv_aload_n hx hb dX4_lastsWithout_75 rfl (lv_at hl 1 rfl) ?_
                refine c_get (v := .ref (ad (1 + 10 * 1))) (C := RX4) (T := TX4) (N := 7) hx hb hts hin4 hown hK hP (0) (by decide) cE_0 rfl 1 (by decide) (Or.inl (hts (.fieldLink RX4 16 "PennyRoad" "ahead" "LPennyRoad$Road;") (by decide +kernel))) rfl dX4_lastsWithout_76 ?_
                refine c_get (v := .int (sy 2)) (C := RX0) (T := TX0) (N := 6) hx hb hts hin0 hown hK hP (1 + 10 * 1) (by decide) (cE_rd (by decide)) rfl 1 (by decide) (Or.inr (c_nest hK 19 rfl)) rfl dX4_lastsWithout_79 ?_
                refine lv_if_le (tgt := 89) hx hb dX4_lastsWithout_82 (by decide) (fun c_82 => ?_) (fun c_82 => ?_)
                · skip
                  refine lv_iconst (v := nI 0) hx hb dX4_lastsWithout_89 (by decide) ?_
                  subst hQ
                  exact wq_rz hx hb hr hlocks hP hS dX4_lastsWithout_90 (by subst_vars; first | (left; rfl) | (right; rfl) | (split <;> simp)) (by rw [← last_l (b := p1), hE]; first | exact rvI (z_f (Int32.not_lt.mpr c_82)) | exact rvI (z_t (Int32.not_le.mp c_82))) (by rw [hE])
                · skip
                  refine lv_iconst (v := nI 1) hx hb dX4_lastsWithout_85 (by decide) ?_
                  refine lv_goto (tgt := 90) hx hb dX4_lastsWithout_86 (by decide) ?_
                  subst hQ
                  exact wq_rz hx hb hr hlocks hP hS dX4_lastsWithout_90 (by subst_vars; first | (left; rfl) | (right; rfl) | (split <;> simp)) (by rw [← last_l (b := p1), hE]; first | exact rvI (z_f (Int32.not_lt.mpr c_82)) | exact rvI (z_t (Int32.not_le.mp c_82))) (by rw [hE])
              · skip
                refine lv_aload_n hx hb dX4_lastsWithout_62 rfl (lv_at hl 1 rfl) ?_
                refine c_get (v := .ref (ad (1 + 10 * 1))) (C := RX4) (T := TX4) (N := 7) hx hb hts hin4 hown hK hP (0) (by decide) cE_0 rfl 1 (by decide) (Or.inl (hts (.fieldLink RX4 16 "PennyRoad" "ahead" "LPennyRoad$Road;") (by decide +kernel))) rfl dX4_lastsWithout_63 ?_
                refine wq_VN (host := "PennyRoad") S cK_ok hK hP hS (c_X0_passHour_r1 hm2 h8) gX4_lastsWithout_X0_passHour_n136 i_X0_passHour (c_nest hK 49 rfl) (hts (.initialized RX0) (by decide +kernel)) (hts (.instanceMethod yX0_passHour) (by decide +kernel)) (hts (.selects RX0 yX0_passHour yX0_passHour) (by decide +kernel)) (c_rec hK hP (1 + 10 * 1) (by decide) (cE_rd (by decide)) rfl) ⟨Nat.le_of_ble_eq_true rfl, Nat.le_of_ble_eq_true rfl⟩ rfl hl.1 (As := []) (rest := []) (st1 := []) rfl rfl (Nat.le_of_ble_eq_true rfl) ⟨Nat.le_of_ble_eq_true rfl, Nat.le_of_ble_eq_true rfl⟩ dX4_lastsWithout_66 (fun H locs hP hS => ?_)
                refine lv_iinc (v := nI (t + 1)) (lv' := [(3, .int (nI (t + 1))), (0, .ref (ad 0)), (1, .int (nI x)), (2, .int (nI h))]) hx hb dX4_lastsWithout_69 hl (k := 0) rfl (nI_add _ _) (by decide) rfl (fun ls hl => ?_)
                refine lv_goto (tgt := 47) hx hb dX4_lastsWithout_72 (by decide) ?_
                exact ih_47 (t + 1) _ _ _ ls (by omega) (hourF_0.trans hm2) (hF2.trans (if_neg c_59)) hP hS hl
        exact L_47 h 0 (stopC x N 0 (cpn (5 + 8 * N) p0 p1)) _ _ ls (by omega) hm rfl hP hS hl
      · skip
        exfalso; omega
    | succ n ih_6 =>
      intro j sz H locs ls hj hm hF hP hS hl
      refine lv_iload_n hx hb dX4_lastsWithout_6 rfl (lv_at hl 0 rfl) ?_
      refine lv_aload_n hx hb dX4_lastsWithout_7 rfl (lv_at hl 1 rfl) ?_
      refine c_get (v := .ref (ad (1 + 10 * 1))) (C := RX4) (T := TX4) (N := 7) hx hb hts hin4 hown hK hP (0) (by decide) cE_0 rfl 1 (by decide) (Or.inl (hts (.fieldLink RX4 16 "PennyRoad" "ahead" "LPennyRoad$Road;") (by decide +kernel))) rfl dX4_lastsWithout_8 ?_
      refine c_get (v := .int (sz 0)) (C := RX0) (T := TX0) (N := 6) hx hb hts hin0 hown hK hP (1 + 10 * 1) (by decide) (cE_rd (by decide)) rfl 4 (by decide) (Or.inr (c_nest hK 25 rfl)) rfl dX4_lastsWithout_11 ?_
      refine lv_top hm ?_
      refine lvn_icmp_ge (tgt := 45) hx hb dX4_lastsWithout_14 (by decide) (by omega) (by omega) (fun c_14 => ?_) (fun c_14 => ?_)
      · skip
        exfalso; omega
      · skip
        refine lv_iload_n hx hb dX4_lastsWithout_17 rfl (lv_at hl 2 rfl) ?_
        refine lv_iload_n hx hb dX4_lastsWithout_18 rfl (lv_at hl 0 rfl) ?_
        refine lv_ishr hx hb dX4_lastsWithout_19 ?_
        refine lv_iconst (v := nI 1) hx hb dX4_lastsWithout_20 (by decide) ?_
        refine lv_iand hx hb dX4_lastsWithout_21 ?_
        refine lv_iconst (v := nI 1) hx hb dX4_lastsWithout_22 (by decide) ?_
        refine lv_icmp_ne (tgt := 39) hx hb dX4_lastsWithout_23 (by decide) (fun c_23 => ?_) (fun c_23 => ?_)
        · skip
          refine lv_iinc (v := nI (j + 1)) (lv' := [(3, .int (nI (j + 1))), (0, .ref (ad 0)), (1, .int (nI x)), (2, .int (nI h))]) hx hb dX4_lastsWithout_39 hl (k := 0) rfl (nI_add _ _) (by decide) rfl (fun ls hl => ?_)
          refine lv_goto (tgt := 6) hx hb dX4_lastsWithout_42 (by decide) ?_
          exact ih_6 (j + 1) _ _ _ ls (by omega) hm (hF.trans (if_neg c_23)) hP hS hl
        · skip
          refine lv_aload_n hx hb dX4_lastsWithout_26 rfl (lv_at hl 1 rfl) ?_
          refine c_get (v := .ref (ad (1 + 10 * 1))) (C := RX4) (T := TX4) (N := 7) hx hb hts hin4 hown hK hP (0) (by decide) cE_0 rfl 1 (by decide) (Or.inl (hts (.fieldLink RX4 16 "PennyRoad" "ahead" "LPennyRoad$Road;") (by decide +kernel))) rfl dX4_lastsWithout_27 ?_
          refine c_get (v := .ref (ad (2 + 10 * 1))) (C := RX0) (T := TX0) (N := 6) hx hb hts hin0 hown hK hP (1 + 10 * 1) (by decide) (cE_rd (by decide)) rfl 5 (by decide) (Or.inr (c_nest hK 26 rfl)) rfl dX4_lastsWithout_30 ?_
          refine lv_iload_n hx hb dX4_lastsWithout_33 rfl (lv_at hl 0 rfl) ?_
          refine c_aldW hx hb hK hP 1 (by decide) (by omega) dX4_lastsWithout_34 ?_
          refine lv_iconst (v := nI 1) hx hb dX4_lastsWithout_35 (by decide) ?_
          refine c_put (w' := (cw cy ad (rr p0 (upd sz (5 + 8 * j + 7) (nI 1)) p2) ke tb t1 t2 t3 t4 t5 sb ss sw fd)) (ty := .int) (C := RX3) (T := TX3) (N := 8) hx hb hts hin3 tyX3 tyX3_ok nmX3 hown hK hP hS (3 + 10 * 1 + j) (by omega) (cE_wk (by decide) (by omega)) rfl 7 (by decide) (Or.inr (c_nest hK 17 rfl)) rfl (by decide +kernel) rfl rfl (by show _ < 8; decide) ((cs_W (by decide) (by omega) (by decide)).trans (by rw [rr_up1]; rfl)) dX4_lastsWithout_36 (fun H locs hP hS => ?_)
          refine lv_iinc (v := nI (j + 1)) (lv' := [(3, .int (nI (j + 1))), (0, .ref (ad 0)), (1, .int (nI x)), (2, .int (nI h))]) hx hb dX4_lastsWithout_39 hl (k := 0) rfl (nI_add _ _) (by decide) rfl (fun ls hl => ?_)
          refine lv_goto (tgt := 6) hx hb dX4_lastsWithout_42 (by decide) ?_
          exact ih_6 (j + 1) _ _ _ ls (by omega) ((upd_0 (by omega)).trans hm) (hF.trans (if_pos c_23)) hP hS hl
  exact L_6 N 0 (cpn (5 + 8 * N) p0 p1) _ _ ls (by omega) ((cpn_0' (j := N)).trans hN) rfl hP hS hl
theorem i_X4_lastsWithout : ciOk yX4_lastsWithout cX4_lastsWithout 4 (some .boolean) wsX4_lastsWithout 2 := ⟨⟨_, rfl⟩, by decide +kernel⟩
