set_option maxHeartbeats 1000000 in
set_option maxRecDepth 100000 in
theorem c_X4_road {l : Launch} {D : va_G} {cy : Nat → ClassId} {ad : Nat → Nat} {p0 : Nat → Int32} {p1 : Nat → Int32} {p2 : Nat → Int32} {ke : Int32} {tb : Nat → Int32} {t1 : Int32} {t2 : Int32} {t3 : Int32} {t4 : Int32} {t5 : Int32} {sb : Nat → Int32} {ss : Nat → Int32} {sw : Nat → Nat → Int64} {fd : Nat → Int32} {q : Int32} {v : Int32} : Met l yX4_road wsX4_road (rmz 1 22) (wPre D (cK D cy ad) (cw cy ad (rr p0 p1 p2) ke tb t1 t2 t3 t4 t5 sb ss sw fd) [.ref (ad 0), .int (q), .int (v)]) (cPub D cy ad (some (.int (if rg 0 2 q ∧ rg 0 (mostR q).toInt v then p0 (2 + q.toNatClampNeg) else -1000000001))) (if rg 0 2 q ∧ rg 0 (mostR q).toInt v then upd p0 (2 + q.toNatClampNeg) v else p0) p2 ke tb t1 sb ss sw (if rg 0 2 q ∧ rg 0 (mostR q).toInt v then fd else fnd fd 0)) 0 0 (cA ad) := by
  refine wq_entry rfl rfl (Nat.le_of_ble_eq_true rfl) ?_
  intro p e s0 m args below meth c S hr hlocks hK hP ls hl
  have S : CallFix p m c cX4_road 4 s0 args wsX4_road RX4 := S
  obtain ⟨hx, hb, hml, hown, hts⟩ := id S
  have hin4 : ∀ w ∈ wsX40, w ∈ wsX4_road := fun w h => List.mem_cons_of_mem _ (List.mem_append_left _ (List.mem_append_right _ h))
  have hin0 : ∀ w ∈ wsX00, w ∈ wsX4_road := fun w h => List.mem_cons_of_mem _ (List.mem_append_right _ h)
  have hS : va_S (cA ad) s0.heap s0.heap [] := va_S.rf
  have hl : lv_has ls 4 [(0, .ref (ad 0)), (1, .int (q)), (2, .int (v))] := hl
  generalize hQ : MQ below (cPub D cy ad (some (.int (if rg 0 2 q ∧ rg 0 (mostR q).toInt v then p0 (2 + q.toNatClampNeg) else -1000000001))) (if rg 0 2 q ∧ rg 0 (mostR q).toInt v then upd p0 (2 + q.toNatClampNeg) v else p0) p2 ke tb t1 sb ss sw (if rg 0 2 q ∧ rg 0 (mostR q).toInt v then fd else fnd fd 0)) args s0 0 0 (cA ad) = Q
  refine lv_iload_n hx hb dX4_road_0 rfl (lv_at hl 1 rfl) ?_
  refine lv_iconst (v := nI 0) hx hb dX4_road_1 (by decide) ?_
  refine lv_iconst (v := nI 2) hx hb dX4_road_2 (by decide) ?_
  refine sq_S S (c_X4_withinN (by decide) (by decide)) gX4_road_X4_within i_X4_within ⟨Nat.le_of_ble_eq_true rfl, Nat.le_of_ble_eq_true rfl⟩ rfl hl.1 (As := [.int (q), .int (nI 0), .int (nI 2)]) (rest := []) (st1 := [.int (z (rg 0 2 (q)))]) rfl rfl (Nat.le_of_ble_eq_true rfl) ⟨Nat.le_of_ble_eq_true rfl, Nat.le_of_ble_eq_true rfl⟩ dX4_road_3 ?_
  refine lvz_if_eq (tgt := 21) hx hb dX4_road_6 (by decide) (fun c_6 => ?_) (fun c_6 => ?_)
  · skip
    refine lv_aload_n hx hb dX4_road_21 rfl (lv_at hl 0 rfl) ?_
    refine lv_iconst (v := nI 0) hx hb dX4_road_22 (by decide) ?_
    refine wq_V S cK_ok hK hP hS (c_X4_finding (t := 0) (by decide)) gX4_road_X4_finding i_X4_finding rfl (c_rec hK hP 0 (by decide) cE_0 rfl) ⟨Nat.le_of_ble_eq_true rfl, Nat.le_of_ble_eq_true rfl⟩ rfl hl.1 (As := [.int (nI 0)]) (rest := []) (st1 := [.int ((-1000000001))]) rfl rfl (Nat.le_of_ble_eq_true rfl) ⟨Nat.le_of_ble_eq_true rfl, Nat.le_of_ble_eq_true rfl⟩ dX4_road_23 (fun H locs hP hS => ?_)
    subst hQ
    exact cp_ri hx hb hr hlocks hP hS dX4_road_26 (by first | (simp only [fnd, c_6, Bool.false_eq_true, Bool.true_eq_false, and_true, true_and, false_and, and_false, and_self, not_true_eq_false, not_false_eq_true, if_true, if_false, reduceIte, or_false, false_or, true_or, or_true]; done) | (have hc : q.toNatClampNeg = 0 := (by rw [c_28]; exact nI_clamp (by decide)); simp only [fnd, c_6, Bool.false_eq_true, Bool.true_eq_false, and_true, true_and, false_and, and_false, and_self, not_true_eq_false, not_false_eq_true, if_true, if_false, reduceIte, or_false, false_or, true_or, or_true, hc]; done) | (have hc : q.toNatClampNeg = 1 := (by rw [c_52]; exact nI_clamp (by decide)); simp only [fnd, c_6, Bool.false_eq_true, Bool.true_eq_false, and_true, true_and, false_and, and_false, and_self, not_true_eq_false, not_false_eq_true, if_true, if_false, reduceIte, or_false, false_or, true_or, or_true, hc]; done) | (have hc : q.toNatClampNeg = 2 := (by rw [rg_2 c_6 c_28 c_52]; exact nI_clamp (by decide)); simp only [fnd, c_6, Bool.false_eq_true, Bool.true_eq_false, and_true, true_and, false_and, and_false, and_self, not_true_eq_false, not_false_eq_true, if_true, if_false, reduceIte, or_false, false_or, true_or, or_true, hc]; done)) (by first | (simp only [fnd, c_6, Bool.false_eq_true, Bool.true_eq_false, and_true, true_and, false_and, and_false, and_self, not_true_eq_false, not_false_eq_true, if_true, if_false, reduceIte, or_false, false_or, true_or, or_true]; done) | (have hc : q.toNatClampNeg = 0 := (by rw [c_28]; exact nI_clamp (by decide)); simp only [fnd, c_6, Bool.false_eq_true, Bool.true_eq_false, and_true, true_and, false_and, and_false, and_self, not_true_eq_false, not_false_eq_true, if_true, if_false, reduceIte, or_false, false_or, true_or, or_true, hc]; done) | (have hc : q.toNatClampNeg = 1 := (by rw [c_52]; exact nI_clamp (by decide)); simp only [fnd, c_6, Bool.false_eq_true, Bool.true_eq_false, and_true, true_and, false_and, and_false, and_self, not_true_eq_false, not_false_eq_true, if_true, if_false, reduceIte, or_false, false_or, true_or, or_true, hc]; done) | (have hc : q.toNatClampNeg = 2 := (by rw [rg_2 c_6 c_28 c_52]; exact nI_clamp (by decide)); simp only [fnd, c_6, Bool.false_eq_true, Bool.true_eq_false, and_true, true_and, false_and, and_false, and_self, not_true_eq_false, not_false_eq_true, if_true, if_false, reduceIte, or_false, false_or, true_or, or_true, hc]; done))
  · skip
    refine lv_iload_n hx hb dX4_road_9 rfl (lv_at hl 2 rfl) ?_
    refine lv_iconst (v := nI 0) hx hb dX4_road_10 (by decide) ?_
    refine lv_iload_n hx hb dX4_road_11 rfl (lv_at hl 1 rfl) ?_
    refine sq_S S (c_X4_mostOfRoad) gX4_road_X4_mostOfRoad i_X4_mostOfRoad ⟨Nat.le_of_ble_eq_true rfl, Nat.le_of_ble_eq_true rfl⟩ rfl hl.1 (As := [.int (q)]) (rest := [.int (nI 0), .int (v)]) (st1 := [.int (mostR (q)), .int (nI 0), .int (v)]) rfl rfl (Nat.le_of_ble_eq_true rfl) ⟨Nat.le_of_ble_eq_true rfl, Nat.le_of_ble_eq_true rfl⟩ dX4_road_12 ?_
    refine sq_S S (c_X4_withinA (by decide)) gX4_road_X4_within i_X4_within ⟨Nat.le_of_ble_eq_true rfl, Nat.le_of_ble_eq_true rfl⟩ rfl hl.1 (As := [.int (v), .int (nI 0), .int (mostR (q))]) (rest := []) (st1 := [.int (z (rg 0 (mostR (q)).toInt (v)))]) rfl rfl (Nat.le_of_ble_eq_true rfl) ⟨Nat.le_of_ble_eq_true rfl, Nat.le_of_ble_eq_true rfl⟩ dX4_road_15 ?_
    refine lvz_if_ne (tgt := 27) hx hb dX4_road_18 (by decide) (fun c_18 => ?_) (fun c_18 => ?_)
    · skip
      refine lv_iload_n hx hb dX4_road_27 rfl (lv_at hl 1 rfl) ?_
      refine lv_if_ne (tgt := 50) hx hb dX4_road_28 (by decide) (fun c_28 => ?_) (fun c_28 => ?_)
      · skip
        refine lv_iload_n hx hb dX4_road_50 rfl (lv_at hl 1 rfl) ?_
        refine lv_iconst (v := nI 1) hx hb dX4_road_51 (by decide) ?_
        refine lv_icmp_ne (tgt := 74) hx hb dX4_road_52 (by decide) (fun c_52 => ?_) (fun c_52 => ?_)
        · skip
          refine lv_aload_n hx hb dX4_road_74 rfl (lv_at hl 0 rfl) ?_
          refine c_get (v := .ref (ad (1 + 10 * 0))) (C := RX4) (T := TX4) (N := 7) hx hb hts hin4 hown hK hP (0) (by decide) cE_0 rfl 0 (by decide) (Or.inl (hts (.fieldLink RX4 10 "PennyRoad" "present" "LPennyRoad$Road;") (by decide +kernel))) rfl dX4_road_75 ?_
          refine c_get (v := .int (p0 4)) (C := RX0) (T := TX0) (N := 6) hx hb hts hin0 hown hK hP (1 + 10 * 0) (by decide) (cE_rd (by decide)) rfl 3 (by decide) (Or.inr (c_nest hK 23 rfl)) rfl dX4_road_78 ?_
          refine lv_istore_n (lv' := [(3, .int (p0 4)), (0, .ref (ad 0)), (1, .int (q)), (2, .int (v))]) hx hb dX4_road_81 rfl hl (by decide) rfl (fun ls hl => ?_)
          refine lv_aload_n hx hb dX4_road_82 rfl (lv_at hl 1 rfl) ?_
          refine c_get (v := .ref (ad (1 + 10 * 0))) (C := RX4) (T := TX4) (N := 7) hx hb hts hin4 hown hK hP (0) (by decide) cE_0 rfl 0 (by decide) (Or.inl (hts (.fieldLink RX4 10 "PennyRoad" "present" "LPennyRoad$Road;") (by decide +kernel))) rfl dX4_road_83 ?_
          refine lv_iload_n hx hb dX4_road_86 rfl (lv_at hl 3 rfl) ?_
          refine c_put (w' := (cw cy ad (rr (upd p0 4 v) p1 p2) ke tb t1 t2 t3 t4 t5 sb ss sw fd)) (ty := .int) (C := RX0) (T := TX0) (N := 6) hx hb hts hin0 tyX0 tyX0_ok nmX0 hown hK hP hS (1 + 10 * 0) (by decide) (cE_rd (by decide)) rfl 3 (by decide) (Or.inr (c_nest hK 23 rfl)) rfl (by decide +kernel) rfl rfl (by show _ < 6; decide) ((cs_R (by decide) (by decide)).trans (by rw [rr_up0]; rfl)) dX4_road_87 (fun H locs hP hS => ?_)
          refine lv_iload_n hx hb dX4_road_90 rfl (lv_at hl 0 rfl) ?_
          subst hQ
          exact cp_ri hx hb hr hlocks hP hS dX4_road_91 (by first | (simp only [fnd, c_6, c_18, if_neg c_28, if_neg c_52, Bool.false_eq_true, Bool.true_eq_false, and_true, true_and, false_and, and_false, and_self, not_true_eq_false, not_false_eq_true, if_true, if_false, reduceIte, or_false, false_or, true_or, or_true]; done) | (have hc : q.toNatClampNeg = 0 := (by rw [c_28]; exact nI_clamp (by decide)); simp only [fnd, c_6, c_18, if_neg c_28, if_neg c_52, Bool.false_eq_true, Bool.true_eq_false, and_true, true_and, false_and, and_false, and_self, not_true_eq_false, not_false_eq_true, if_true, if_false, reduceIte, or_false, false_or, true_or, or_true, hc]; done) | (have hc : q.toNatClampNeg = 1 := (by rw [c_52]; exact nI_clamp (by decide)); simp only [fnd, c_6, c_18, if_neg c_28, if_neg c_52, Bool.false_eq_true, Bool.true_eq_false, and_true, true_and, false_and, and_false, and_self, not_true_eq_false, not_false_eq_true, if_true, if_false, reduceIte, or_false, false_or, true_or, or_true, hc]; done) | (have hc : q.toNatClampNeg = 2 := (by rw [rg_2 c_6 c_28 c_52]; exact nI_clamp (by decide)); simp only [fnd, c_6, c_18, if_neg c_28, if_neg c_52, Bool.false_eq_true, Bool.true_eq_false, and_true, true_and, false_and, and_false, and_self, not_true_eq_false, not_false_eq_true, if_true, if_false, reduceIte, or_false, false_or, true_or, or_true, hc]; done)) (by first | (simp only [fnd, c_6, c_18, if_neg c_28, if_neg c_52, Bool.false_eq_true, Bool.true_eq_false, and_true, true_and, false_and, and_false, and_self, not_true_eq_false, not_false_eq_true, if_true, if_false, reduceIte, or_false, false_or, true_or, or_true]; done) | (have hc : q.toNatClampNeg = 0 := (by rw [c_28]; exact nI_clamp (by decide)); simp only [fnd, c_6, c_18, if_neg c_28, if_neg c_52, Bool.false_eq_true, Bool.true_eq_false, and_true, true_and, false_and, and_false, and_self, not_true_eq_false, not_false_eq_true, if_true, if_false, reduceIte, or_false, false_or, true_or, or_true, hc]; done) | (have hc : q.toNatClampNeg = 1 := (by rw [c_52]; exact nI_clamp (by decide)); simp only [fnd, c_6, c_18, if_neg c_28, if_neg c_52, Bool.false_eq_true, Bool.true_eq_false, and_true, true_and, false_and, and_false, and_self, not_true_eq_false, not_false_eq_true, if_true, if_false, reduceIte, or_false, false_or, true_or, or_true, hc]; done) | (have hc : q.toNatClampNeg = 2 := (by rw [rg_2 c_6 c_28 c_52]; exact nI_clamp (by decide)); simp only [fnd, c_6, c_18, if_neg c_28, if_neg c_52, Bool.false_eq_true, Bool.true_eq_false, and_true, true_and, false_and, and_false, and_self, not_true_eq_false, not_false_eq_true, if_true, if_false, reduceIte, or_false, false_or, true_or, or_true, hc]; done))
        · skip
          refine lv_aload_n hx hb dX4_road_55 rfl (lv_at hl 0 rfl) ?_
          refine c_get (v := .ref (ad (1 + 10 * 0))) (C := RX4) (T := TX4) (N := 7) hx hb hts hin4 hown hK hP (0) (by decide) cE_0 rfl 0 (by decide) (Or.inl (hts (.fieldLink RX4 10 "PennyRoad" "present" "LPennyRoad$Road;") (by decide +kernel))) rfl dX4_road_56 ?_
          refine c_get (v := .int (p0 3)) (C := RX0) (T := TX0) (N := 6) hx hb hts hin0 hown hK hP (1 + 10 * 0) (by decide) (cE_rd (by decide)) rfl 2 (by decide) (Or.inr (c_nest hK 21 rfl)) rfl dX4_road_59 ?_
          refine lv_istore_n (lv' := [(3, .int (p0 3)), (0, .ref (ad 0)), (1, .int (q)), (2, .int (v))]) hx hb dX4_road_62 rfl hl (by decide) rfl (fun ls hl => ?_)
          refine lv_aload_n hx hb dX4_road_63 rfl (lv_at hl 1 rfl) ?_
          refine c_get (v := .ref (ad (1 + 10 * 0))) (C := RX4) (T := TX4) (N := 7) hx hb hts hin4 hown hK hP (0) (by decide) cE_0 rfl 0 (by decide) (Or.inl (hts (.fieldLink RX4 10 "PennyRoad" "present" "LPennyRoad$Road;") (by decide +kernel))) rfl dX4_road_64 ?_
          refine lv_iload_n hx hb dX4_road_67 rfl (lv_at hl 3 rfl) ?_
          refine c_put (w' := (cw cy ad (rr (upd p0 3 v) p1 p2) ke tb t1 t2 t3 t4 t5 sb ss sw fd)) (ty := .int) (C := RX0) (T := TX0) (N := 6) hx hb hts hin0 tyX0 tyX0_ok nmX0 hown hK hP hS (1 + 10 * 0) (by decide) (cE_rd (by decide)) rfl 2 (by decide) (Or.inr (c_nest hK 21 rfl)) rfl (by decide +kernel) rfl rfl (by show _ < 6; decide) ((cs_R (by decide) (by decide)).trans (by rw [rr_up0]; rfl)) dX4_road_68 (fun H locs hP hS => ?_)
          refine lv_goto (tgt := 90) hx hb dX4_road_71 (by decide) ?_
          refine lv_iload_n hx hb dX4_road_90 rfl (lv_at hl 0 rfl) ?_
          subst hQ
          exact cp_ri hx hb hr hlocks hP hS dX4_road_91 (by first | (simp only [fnd, c_6, c_18, if_neg c_28, if_pos c_52, Bool.false_eq_true, Bool.true_eq_false, and_true, true_and, false_and, and_false, and_self, not_true_eq_false, not_false_eq_true, if_true, if_false, reduceIte, or_false, false_or, true_or, or_true]; done) | (have hc : q.toNatClampNeg = 0 := (by rw [c_28]; exact nI_clamp (by decide)); simp only [fnd, c_6, c_18, if_neg c_28, if_pos c_52, Bool.false_eq_true, Bool.true_eq_false, and_true, true_and, false_and, and_false, and_self, not_true_eq_false, not_false_eq_true, if_true, if_false, reduceIte, or_false, false_or, true_or, or_true, hc]; done) | (have hc : q.toNatClampNeg = 1 := (by rw [c_52]; exact nI_clamp (by decide)); simp only [fnd, c_6, c_18, if_neg c_28, if_pos c_52, Bool.false_eq_true, Bool.true_eq_false, and_true, true_and, false_and, and_false, and_self, not_true_eq_false, not_false_eq_true, if_true, if_false, reduceIte, or_false, false_or, true_or, or_true, hc]; done) | (have hc : q.toNatClampNeg = 2 := (by rw [rg_2 c_6 c_28 c_52]; exact nI_clamp (by decide)); simp only [fnd, c_6, c_18, if_neg c_28, if_pos c_52, Bool.false_eq_true, Bool.true_eq_false, and_true, true_and, false_and, and_false, and_self, not_true_eq_false, not_false_eq_true, if_true, if_false, reduceIte, or_false, false_or, true_or, or_true, hc]; done)) (by first | (simp only [fnd, c_6, c_18, if_neg c_28, if_pos c_52, Bool.false_eq_true, Bool.true_eq_false, and_true, true_and, false_and, and_false, and_self, not_true_eq_false, not_false_eq_true, if_true, if_false, reduceIte, or_false, false_or, true_or, or_true]; done) | (have hc : q.toNatClampNeg = 0 := (by rw [c_28]; exact nI_clamp (by decide)); simp only [fnd, c_6, c_18, if_neg c_28, if_pos c_52, Bool.false_eq_true, Bool.true_eq_false, and_true, true_and, false_and, and_false, and_self, not_true_eq_false, not_false_eq_true, if_true, if_false, reduceIte, or_false, false_or, true_or, or_true, hc]; done) | (have hc : q.toNatClampNeg = 1 := (by rw [c_52]; exact nI_clamp (by decide)); simp only [fnd, c_6, c_18, if_neg c_28, if_pos c_52, Bool.false_eq_true, Bool.true_eq_false, and_true, true_and, false_and, and_false, and_self, not_true_eq_false, not_false_eq_true, if_true, if_false, reduceIte, or_false, false_or, true_or, or_true, hc]; done) | (have hc : q.toNatClampNeg = 2 := (by rw [rg_2 c_6 c_28 c_52]; exact nI_clamp (by decide)); simp only [fnd, c_6, c_18, if_neg c_28, if_pos c_52, Bool.false_eq_true, Bool.true_eq_false, and_true, true_and, false_and, and_false, and_self, not_true_eq_false, not_false_eq_true, if_true, if_false, reduceIte, or_false, false_or, true_or, or_true, hc]; done))
      · skip
        refine lv_aload_n hx hb dX4_road_31 rfl (lv_at hl 0 rfl) ?_
        refine c_get (v := .ref (ad (1 + 10 * 0))) (C := RX4) (T := TX4) (N := 7) hx hb hts hin4 hown hK hP (0) (by decide) cE_0 rfl 0 (by decide) (Or.inl (hts (.fieldLink RX4 10 "PennyRoad" "present" "LPennyRoad$Road;") (by decide +kernel))) rfl dX4_road_32 ?_
        refine c_get (v := .int (p0 2)) (C := RX0) (T := TX0) (N := 6) hx hb hts hin0 hown hK hP (1 + 10 * 0) (by decide) (cE_rd (by decide)) rfl 1 (by decide) (Or.inr (c_nest hK 19 rfl)) rfl dX4_road_35 ?_
        refine lv_istore_n (lv' := [(3, .int (p0 2)), (0, .ref (ad 0)), (1, .int (q)), (2, .int (v))]) hx hb dX4_road_38 rfl hl (by decide) rfl (fun ls hl => ?_)
        refine lv_aload_n hx hb dX4_road_39 rfl (lv_at hl 1 rfl) ?_
        refine c_get (v := .ref (ad (1 + 10 * 0))) (C := RX4) (T := TX4) (N := 7) hx hb hts hin4 hown hK hP (0) (by decide) cE_0 rfl 0 (by decide) (Or.inl (hts (.fieldLink RX4 10 "PennyRoad" "present" "LPennyRoad$Road;") (by decide +kernel))) rfl dX4_road_40 ?_
        refine lv_iload_n hx hb dX4_road_43 rfl (lv_at hl 3 rfl) ?_
        refine c_put (w' := (cw cy ad (rr (upd p0 2 v) p1 p2) ke tb t1 t2 t3 t4 t5 sb ss sw fd)) (ty := .int) (C := RX0) (T := TX0) (N := 6) hx hb hts hin0 tyX0 tyX0_ok nmX0 hown hK hP hS (1 + 10 * 0) (by decide) (cE_rd (by decide)) rfl 1 (by decide) (Or.inr (c_nest hK 19 rfl)) rfl (by decide +kernel) rfl rfl (by show _ < 6; decide) ((cs_R (by decide) (by decide)).trans (by rw [rr_up0]; rfl)) dX4_road_44 (fun H locs hP hS => ?_)
        refine lv_goto (tgt := 90) hx hb dX4_road_47 (by decide) ?_
        refine lv_iload_n hx hb dX4_road_90 rfl (lv_at hl 0 rfl) ?_
        subst hQ
        exact cp_ri hx hb hr hlocks hP hS dX4_road_91 (by first | (simp only [fnd, c_6, c_18, if_pos c_28, Bool.false_eq_true, Bool.true_eq_false, and_true, true_and, false_and, and_false, and_self, not_true_eq_false, not_false_eq_true, if_true, if_false, reduceIte, or_false, false_or, true_or, or_true]; done) | (have hc : q.toNatClampNeg = 0 := (by rw [c_28]; exact nI_clamp (by decide)); simp only [fnd, c_6, c_18, if_pos c_28, Bool.false_eq_true, Bool.true_eq_false, and_true, true_and, false_and, and_false, and_self, not_true_eq_false, not_false_eq_true, if_true, if_false, reduceIte, or_false, false_or, true_or, or_true, hc]; done) | (have hc : q.toNatClampNeg = 1 := (by rw [c_52]; exact nI_clamp (by decide)); simp only [fnd, c_6, c_18, if_pos c_28, Bool.false_eq_true, Bool.true_eq_false, and_true, true_and, false_and, and_false, and_self, not_true_eq_false, not_false_eq_true, if_true, if_false, reduceIte, or_false, false_or, true_or, or_true, hc]; done) | (have hc : q.toNatClampNeg = 2 := (by rw [rg_2 c_6 c_28 c_52]; exact nI_clamp (by decide)); simp only [fnd, c_6, c_18, if_pos c_28, Bool.false_eq_true, Bool.true_eq_false, and_true, true_and, false_and, and_false, and_self, not_true_eq_false, not_false_eq_true, if_true, if_false, reduceIte, or_false, false_or, true_or, or_true, hc]; done)) (by first | (simp only [fnd, c_6, c_18, if_pos c_28, Bool.false_eq_true, Bool.true_eq_false, and_true, true_and, false_and, and_false, and_self, not_true_eq_false, not_false_eq_true, if_true, if_false, reduceIte, or_false, false_or, true_or, or_true]; done) | (have hc : q.toNatClampNeg = 0 := (by rw [c_28]; exact nI_clamp (by decide)); simp only [fnd, c_6, c_18, if_pos c_28, Bool.false_eq_true, Bool.true_eq_false, and_true, true_and, false_and, and_false, and_self, not_true_eq_false, not_false_eq_true, if_true, if_false, reduceIte, or_false, false_or, true_or, or_true, hc]; done) | (have hc : q.toNatClampNeg = 1 := (by rw [c_52]; exact nI_clamp (by decide)); simp only [fnd, c_6, c_18, if_pos c_28, Bool.false_eq_true, Bool.true_eq_false, and_true, true_and, false_and, and_false, and_self, not_true_eq_false, not_false_eq_true, if_true, if_false, reduceIte, or_false, false_or, true_or, or_true, hc]; done) | (have hc : q.toNatClampNeg = 2 := (by rw [rg_2 c_6 c_28 c_52]; exact nI_clamp (by decide)); simp only [fnd, c_6, c_18, if_pos c_28, Bool.false_eq_true, Bool.true_eq_false, and_true, true_and, false_and, and_false, and_self, not_true_eq_false, not_false_eq_true, if_true, if_false, reduceIte, or_false, false_or, true_or, or_true, hc]; done))
    · skip
      refine lv_aload_n hx hb dX4_road_21 rfl (lv_at hl 0 rfl) ?_
      refine lv_iconst (v := nI 0) hx hb dX4_road_22 (by decide) ?_
      refine wq_V S cK_ok hK hP hS (c_X4_finding (t := 0) (by decide)) gX4_road_X4_finding i_X4_finding rfl (c_rec hK hP 0 (by decide) cE_0 rfl) ⟨Nat.le_of_ble_eq_true rfl, Nat.le_of_ble_eq_true rfl⟩ rfl hl.1 (As := [.int (nI 0)]) (rest := []) (st1 := [.int ((-1000000001))]) rfl rfl (Nat.le_of_ble_eq_true rfl) ⟨Nat.le_of_ble_eq_true rfl, Nat.le_of_ble_eq_true rfl⟩ dX4_road_23 (fun H locs hP hS => ?_)
      subst hQ
      exact cp_ri hx hb hr hlocks hP hS dX4_road_26 (by first | (simp only [fnd, c_6, c_18, Bool.false_eq_true, Bool.true_eq_false, and_true, true_and, false_and, and_false, and_self, not_true_eq_false, not_false_eq_true, if_true, if_false, reduceIte, or_false, false_or, true_or, or_true]; done) | (have hc : q.toNatClampNeg = 0 := (by rw [c_28]; exact nI_clamp (by decide)); simp only [fnd, c_6, c_18, Bool.false_eq_true, Bool.true_eq_false, and_true, true_and, false_and, and_false, and_self, not_true_eq_false, not_false_eq_true, if_true, if_false, reduceIte, or_false, false_or, true_or, or_true, hc]; done) | (have hc : q.toNatClampNeg = 1 := (by rw [c_52]; exact nI_clamp (by decide)); simp only [fnd, c_6, c_18, Bool.false_eq_true, Bool.true_eq_false, and_true, true_and, false_and, and_false, and_self, not_true_eq_false, not_false_eq_true, if_true, if_false, reduceIte, or_false, false_or, true_or, or_true, hc]; done) | (have hc : q.toNatClampNeg = 2 := (by rw [rg_2 c_6 c_28 c_52]; exact nI_clamp (by decide)); simp only [fnd, c_6, c_18, Bool.false_eq_true, Bool.true_eq_false, and_true, true_and, false_and, and_false, and_self, not_true_eq_false, not_false_eq_true, if_true, if_false, reduceIte, or_false, false_or, true_or, or_true, hc]; done)) (by first | (simp only [fnd, c_6, c_18, Bool.false_eq_true, Bool.true_eq_false, and_true, true_and, false_and, and_false, and_self, not_true_eq_false, not_false_eq_true, if_true, if_false, reduceIte, or_false, false_or, true_or, or_true]; done) | (have hc : q.toNatClampNeg = 0 := (by rw [c_28]; exact nI_clamp (by decide)); simp only [fnd, c_6, c_18, Bool.false_eq_true, Bool.true_eq_false, and_true, true_and, false_and, and_false, and_self, not_true_eq_false, not_false_eq_true, if_true, if_false, reduceIte, or_false, false_or, true_or, or_true, hc]; done) | (have hc : q.toNatClampNeg = 1 := (by rw [c_52]; exact nI_clamp (by decide)); simp only [fnd, c_6, c_18, Bool.false_eq_true, Bool.true_eq_false, and_true, true_and, false_and, and_false, and_self, not_true_eq_false, not_false_eq_true, if_true, if_false, reduceIte, or_false, false_or, true_or, or_true, hc]; done) | (have hc : q.toNatClampNeg = 2 := (by rw [rg_2 c_6 c_28 c_52]; exact nI_clamp (by decide)); simp only [fnd, c_6, c_18, Bool.false_eq_true, Bool.true_eq_false, and_true, true_and, false_and, and_false, and_self, not_true_eq_false, not_false_eq_true, if_true, if_false, reduceIte, or_false, false_or, true_or, or_true, hc]; done))
theorem i_X4_road : ciOk yX4_road cX4_road 4 (some .int) wsX4_road 2 := ⟨⟨_, rfl⟩, by decide +kernel⟩
set_option maxHeartbeats 1000000 in
set_option maxRecDepth 100000 in
theorem c_X4_at {l : Launch} {D : va_G} {cy : Nat → ClassId} {ad : Nat → Nat} {p0 : Nat → Int32} {p1 : Nat → Int32} {p2 : Nat → Int32} {ke : Int32} {tb : Nat → Int32} {t1 : Int32} {t2 : Int32} {t3 : Int32} {t4 : Int32} {t5 : Int32} {sb : Nat → Int32} {ss : Nat → Int32} {sw : Nat → Nat → Int64} {fd : Nat → Int32} {q : Int32} {N : Nat} (hN : p0 0 = nI N) (h8 : N ≤ 8) : Met l yX4_at wsX4_at (rmz 1 22) (wPre D (cK D cy ad) (cw cy ad (rr p0 p1 p2) ke tb t1 t2 t3 t4 t5 sb ss sw fd) [.ref (ad 0), .int (q)]) (cPub D cy ad (some (.int (if rg 0 12 q then thoseL p0 q N 0 (nI 0) else -1000000001))) p0 p2 ke tb t1 sb ss sw (if rg 0 12 q then fd else fnd fd 0)) 0 0 (cA ad) := by
  refine wq_entry rfl rfl (Nat.le_of_ble_eq_true rfl) ?_
  intro p e s0 m args below meth c S hr hlocks hK hP ls hl
  have S : CallFix p m c cX4_at 4 s0 args wsX4_at RX4 := S
  obtain ⟨hx, hb, hml, hown, hts⟩ := id S
  have hin4 : ∀ w ∈ wsX40, w ∈ wsX4_at := fun w h => List.mem_cons_of_mem _ (List.mem_append_left _ (List.mem_append_left _ (List.mem_append_right _ h)))
  have hin0 : ∀ w ∈ wsX00, w ∈ wsX4_at := fun w h => List.mem_cons_of_mem _ (List.mem_append_left _ (List.mem_append_right _ h))
  have hin3 : ∀ w ∈ wsX30, w ∈ wsX4_at := fun w h => List.mem_cons_of_mem _ (List.mem_append_right _ h)
  have hS : va_S (cA ad) s0.heap s0.heap [] := va_S.rf
  have hl : lv_has ls 4 [(0, .ref (ad 0)), (1, .int (q))] := hl
  generalize hQ : MQ below (cPub D cy ad (some (.int (if rg 0 12 q then thoseL p0 q N 0 (nI 0) else -1000000001))) p0 p2 ke tb t1 sb ss sw (if rg 0 12 q then fd else fnd fd 0)) args s0 0 0 (cA ad) = Q
  refine lv_iload_n hx hb dX4_at_0 rfl (lv_at hl 1 rfl) ?_
  refine lv_iconst (v := nI 0) hx hb dX4_at_1 (by decide) ?_
  refine lv_bipush (v := nI 12) hx hb dX4_at_2 (by decide) ?_
  refine sq_S S (c_X4_withinN (by decide) (by decide)) gX4_at_X4_within i_X4_within ⟨Nat.le_of_ble_eq_true rfl, Nat.le_of_ble_eq_true rfl⟩ rfl hl.1 (As := [.int (q), .int (nI 0), .int (nI 12)]) (rest := []) (st1 := [.int (z (rg 0 12 (q)))]) rfl rfl (Nat.le_of_ble_eq_true rfl) ⟨Nat.le_of_ble_eq_true rfl, Nat.le_of_ble_eq_true rfl⟩ dX4_at_4 ?_
  refine lvz_if_ne (tgt := 16) hx hb dX4_at_7 (by decide) (fun c_7 => ?_) (fun c_7 => ?_)
  · skip
    refine lv_iconst (v := nI 0) hx hb dX4_at_16 (by decide) ?_
    refine lv_istore_n (lv' := [(2, .int (nI 0)), (0, .ref (ad 0)), (1, .int (q))]) hx hb dX4_at_17 rfl hl (by decide) rfl (fun ls hl => ?_)
    refine lv_iconst (v := nI 0) hx hb dX4_at_18 (by decide) ?_
    refine lv_istore_n (lv' := [(3, .int (nI 0)), (2, .int (nI 0)), (0, .ref (ad 0)), (1, .int (q))]) hx hb dX4_at_19 rfl hl (by decide) rfl (fun ls hl => ?_)
    have L_20 : ∀ (n : Nat) (j : Nat) (acc : Int32) (H : Heap) (locs : List Loc) (ls : Array Slot), (j + n = N) → (thoseL p0 q N 0 (nI 0) = thoseL p0 q n j acc) → va_P D vwCl (cw cy ad (rr p0 p1 p2) ke tb t1 t2 t3 t4 t5 sb ss sw fd) H → va_S (cA ad) s0.heap H locs → lv_has ls 4 [(3, .int (nI j)), (2, .int (acc)), (0, .ref (ad 0)), (1, .int (q))] → W p l e (rmz 1 22) s0 m args below meth c H locs 0 0 Q (F0 m 20 ls []) := by
      intro n
      induction n with
      | zero =>
        intro j acc H locs ls hj hF hP hS hl
        refine lv_iload_n hx hb dX4_at_20 rfl (lv_at hl 0 rfl) ?_
        refine lv_aload_n hx hb dX4_at_21 rfl (lv_at hl 2 rfl) ?_
        refine c_get (v := .ref (ad (1 + 10 * 0))) (C := RX4) (T := TX4) (N := 7) hx hb hts hin4 hown hK hP (0) (by decide) cE_0 rfl 0 (by decide) (Or.inl (hts (.fieldLink RX4 10 "PennyRoad" "present" "LPennyRoad$Road;") (by decide +kernel))) rfl dX4_at_22 ?_
        refine c_get (v := .int (p0 0)) (C := RX0) (T := TX0) (N := 6) hx hb hts hin0 hown hK hP (1 + 10 * 0) (by decide) (cE_rd (by decide)) rfl 4 (by decide) (Or.inr (c_nest hK 25 rfl)) rfl dX4_at_25 ?_
        refine lv_top hN ?_
        refine lvn_icmp_ge (tgt := 59) hx hb dX4_at_28 (by decide) (by omega) (by omega) (fun c_28 => ?_) (fun c_28 => ?_)
        · skip
          have hE : thoseL p0 q N 0 (nI 0) = acc := hF
          refine lv_iload_n hx hb dX4_at_59 rfl (lv_at hl 1 rfl) ?_
          subst hQ
          exact cp_ri hx hb hr hlocks hP hS dX4_at_60 (by first | with_reducible rfl | (simp only [fnd, if_pos c_7, if_pos c_28]; done) | (simp only [fnd, hE, c_7, if_pos c_28, Bool.false_eq_true, Bool.true_eq_false, and_true, true_and, false_and, and_false, and_self, not_true_eq_false, not_false_eq_true, if_true, if_false, reduceIte, or_false, false_or, true_or, or_true]; done) | (subst_vars; first | with_reducible rfl | (simp only [fnd, if_pos c_7, if_pos c_28]; done) | (simp only [fnd, hE, c_7, if_pos c_28, Bool.false_eq_true, Bool.true_eq_false, and_true, true_and, false_and, and_false, and_self, not_true_eq_false, not_false_eq_true, if_true, if_false, reduceIte, or_false, false_or, true_or, or_true]; done)) | contradiction | rfl) (by first | with_reducible rfl | (simp only [fnd, if_pos c_7, if_pos c_28]; done) | (simp only [fnd, hE, c_7, if_pos c_28, Bool.false_eq_true, Bool.true_eq_false, and_true, true_and, false_and, and_false, and_self, not_true_eq_false, not_false_eq_true, if_true, if_false, reduceIte, or_false, false_or, true_or, or_true]; done) | (subst_vars; first | with_reducible rfl | (simp only [fnd, if_pos c_7, if_pos c_28]; done) | (simp only [fnd, hE, c_7, if_pos c_28, Bool.false_eq_true, Bool.true_eq_false, and_true, true_and, false_and, and_false, and_self, not_true_eq_false, not_false_eq_true, if_true, if_false, reduceIte, or_false, false_or, true_or, or_true]; done)) | contradiction | rfl)
        · skip
          exfalso; omega
      | succ n ih_20 =>
        intro j acc H locs ls hj hF hP hS hl
        refine lv_iload_n hx hb dX4_at_20 rfl (lv_at hl 0 rfl) ?_
        refine lv_aload_n hx hb dX4_at_21 rfl (lv_at hl 2 rfl) ?_
        refine c_get (v := .ref (ad (1 + 10 * 0))) (C := RX4) (T := TX4) (N := 7) hx hb hts hin4 hown hK hP (0) (by decide) cE_0 rfl 0 (by decide) (Or.inl (hts (.fieldLink RX4 10 "PennyRoad" "present" "LPennyRoad$Road;") (by decide +kernel))) rfl dX4_at_22 ?_
        refine c_get (v := .int (p0 0)) (C := RX0) (T := TX0) (N := 6) hx hb hts hin0 hown hK hP (1 + 10 * 0) (by decide) (cE_rd (by decide)) rfl 4 (by decide) (Or.inr (c_nest hK 25 rfl)) rfl dX4_at_25 ?_
        refine lv_top hN ?_
        refine lvn_icmp_ge (tgt := 59) hx hb dX4_at_28 (by decide) (by omega) (by omega) (fun c_28 => ?_) (fun c_28 => ?_)
        · skip
          exfalso; omega
        · skip
          refine lv_aload_n hx hb dX4_at_31 rfl (lv_at hl 2 rfl) ?_
          refine c_get (v := .ref (ad (1 + 10 * 0))) (C := RX4) (T := TX4) (N := 7) hx hb hts hin4 hown hK hP (0) (by decide) cE_0 rfl 0 (by decide) (Or.inl (hts (.fieldLink RX4 10 "PennyRoad" "present" "LPennyRoad$Road;") (by decide +kernel))) rfl dX4_at_32 ?_
          refine c_get (v := .ref (ad (2 + 10 * 0))) (C := RX0) (T := TX0) (N := 6) hx hb hts hin0 hown hK hP (1 + 10 * 0) (by decide) (cE_rd (by decide)) rfl 5 (by decide) (Or.inr (c_nest hK 26 rfl)) rfl dX4_at_35 ?_
          refine lv_iload_n hx hb dX4_at_38 rfl (lv_at hl 0 rfl) ?_
          refine c_aldW hx hb hK hP 0 (by decide) (by omega) dX4_at_39 ?_
          refine c_get (v := .int (p0 (5 + 8 * j + 1))) (C := RX3) (T := TX3) (N := 8) hx hb hts hin3 hown hK hP (3 + 10 * 0 + j) (by omega) (cE_wk (by decide) (by omega)) rfl 1 (by decide) (Or.inr (c_nest hK 2 rfl)) rfl dX4_at_40 ?_
          refine lv_iload_n hx hb dX4_at_43 rfl (lv_at hl 3 rfl) ?_
          have K_1 : ∀ (x_2 : Int32) (H : Heap) (locs : List Loc) (ls : Array Slot), x_2 = (if (p0 (5 + 8 * j + 1)) = (q) then ((acc) ||| ((nI 1) <<< ((nI j) &&& 31))) else acc) → va_P D vwCl (cw cy ad (rr p0 p1 p2) ke tb t1 t2 t3 t4 t5 sb ss sw fd) H → va_S (cA ad) s0.heap H locs → lv_has ls 4 [(3, .int (nI j)), (2, .int (x_2)), (0, .ref (ad 0)), (1, .int (q))] → W p l e (rmz 1 22) s0 m args below meth c H locs 0 0 Q (F0 m 53 ls []) := by
            intro x_2 H locs ls ex_2 hP hS hl
            refine lv_iinc (v := nI (j + 1)) (lv' := [(3, .int (nI (j + 1))), (2, .int (x_2)), (0, .ref (ad 0)), (1, .int (q))]) hx hb dX4_at_53 hl (k := 0) rfl (nI_add _ _) (by decide) rfl (fun ls hl => ?_)
            refine lv_goto (tgt := 20) hx hb dX4_at_56 (by decide) ?_
            exact ih_20 (j + 1) _ _ _ ls (by omega) (by subst ex_2; rw [or_if2]; exact hF) hP hS hl
          refine lv_icmp_ne (tgt := 53) hx hb dX4_at_44 (by decide) (fun c_44 => ?_) (fun c_44 => ?_)
          · skip
            exact K_1 (acc) _ _ ls (by simp only [if_neg c_44]) hP hS hl
          · skip
            refine lv_iload_n hx hb dX4_at_47 rfl (lv_at hl 1 rfl) ?_
            refine lv_iconst (v := nI 1) hx hb dX4_at_48 (by decide) ?_
            refine lv_iload_n hx hb dX4_at_49 rfl (lv_at hl 0 rfl) ?_
            refine lv_ishl hx hb dX4_at_50 ?_
            refine lv_ior hx hb dX4_at_51 ?_
            refine lv_istore_n (lv' := [(2, .int ((acc) ||| ((nI 1) <<< ((nI j) &&& 31)))), (3, .int (nI j)), (0, .ref (ad 0)), (1, .int (q))]) hx hb dX4_at_52 rfl hl (by decide) rfl (fun ls hl => ?_)
            exact K_1 ((acc) ||| ((nI 1) <<< ((nI j) &&& 31))) _ _ ls (by simp only [if_pos c_44]) hP hS (lv_sub hl [1, 0, 2, 3] rfl)
    exact L_20 N 0 (nI 0) _ _ ls (by omega) rfl hP hS hl
  · skip
    refine lv_aload_n hx hb dX4_at_10 rfl (lv_at hl 0 rfl) ?_
    refine lv_iconst (v := nI 0) hx hb dX4_at_11 (by decide) ?_
    refine wq_V S cK_ok hK hP hS (c_X4_finding (t := 0) (by decide)) gX4_at_X4_finding i_X4_finding rfl (c_rec hK hP 0 (by decide) cE_0 rfl) ⟨Nat.le_of_ble_eq_true rfl, Nat.le_of_ble_eq_true rfl⟩ rfl hl.1 (As := [.int (nI 0)]) (rest := []) (st1 := [.int ((-1000000001))]) rfl rfl (Nat.le_of_ble_eq_true rfl) ⟨Nat.le_of_ble_eq_true rfl, Nat.le_of_ble_eq_true rfl⟩ dX4_at_12 (fun H locs hP hS => ?_)
    subst hQ
    exact cp_ri hx hb hr hlocks hP hS dX4_at_15 (by first | with_reducible rfl | (simp only [fnd, if_neg c_7]; done) | (simp only [fnd, c_7, Bool.false_eq_true, Bool.true_eq_false, and_true, true_and, false_and, and_false, and_self, not_true_eq_false, not_false_eq_true, if_true, if_false, reduceIte, or_false, false_or, true_or, or_true]; done) | (subst_vars; first | with_reducible rfl | (simp only [fnd, if_neg c_7]; done) | (simp only [fnd, c_7, Bool.false_eq_true, Bool.true_eq_false, and_true, true_and, false_and, and_false, and_self, not_true_eq_false, not_false_eq_true, if_true, if_false, reduceIte, or_false, false_or, true_or, or_true]; done)) | contradiction | rfl) (by first | with_reducible rfl | (simp only [fnd, if_neg c_7]; done) | (simp only [fnd, c_7, Bool.false_eq_true, Bool.true_eq_false, and_true, true_and, false_and, and_false, and_self, not_true_eq_false, not_false_eq_true, if_true, if_false, reduceIte, or_false, false_or, true_or, or_true]; done) | (subst_vars; first | with_reducible rfl | (simp only [fnd, if_neg c_7]; done) | (simp only [fnd, c_7, Bool.false_eq_true, Bool.true_eq_false, and_true, true_and, false_and, and_false, and_self, not_true_eq_false, not_false_eq_true, if_true, if_false, reduceIte, or_false, false_or, true_or, or_true]; done)) | contradiction | rfl)
theorem i_X4_at : ciOk yX4_at cX4_at 4 (some .int) wsX4_at 1 := ⟨⟨_, rfl⟩, by decide +kernel⟩
set_option maxHeartbeats 1000000 in
set_option maxRecDepth 100000 in
theorem c_X4_empty {l : Launch} {D : va_G} {cy : Nat → ClassId} {ad : Nat → Nat} {p0 : Nat → Int32} {p1 : Nat → Int32} {p2 : Nat → Int32} {ke : Int32} {tb : Nat → Int32} {t1 : Int32} {t2 : Int32} {t3 : Int32} {t4 : Int32} {t5 : Int32} {sb : Nat → Int32} {ss : Nat → Int32} {sw : Nat → Nat → Int64} {fd : Nat → Int32} {N : Nat} (hN : p0 0 = nI N) (h8 : N ≤ 8) : Met l yX4_empty wsX4_empty (rmz 4 88) (wPre D (cK D cy ad) (cw cy ad (rr p0 p1 p2) ke tb t1 t2 t3 t4 t5 sb ss sw fd) [.ref (ad 0)]) (cPub D cy ad (some (.int (if firstL N 2 (nI 0) 201 0 p0 ≤ 200 then nI (firstL N 2 (nI 0) 201 0 p0) else -1000000004))) p0 p2 ke tb t1 sb ss sw (if firstL N 2 (nI 0) 201 0 p0 ≤ 200 then fd else fnd fd 3)) 0 0 (cA ad) := by
  refine wq_entry rfl rfl (Nat.le_of_ble_eq_true rfl) ?_
  intro p e s0 m args below meth c S hr hlocks hK hP ls hl
  have S : CallFix p m c cX4_empty 2 s0 args wsX4_empty RX4 := S
  obtain ⟨hx, hb, hml, hown, hts⟩ := id S
  have hin4 : ∀ w ∈ wsX40, w ∈ wsX4_empty := fun w h => List.mem_cons_of_mem _ (List.mem_append_left _ (List.mem_append_left _ (List.mem_append_right _ h)))
  have hin0 : ∀ w ∈ wsX00, w ∈ wsX4_empty := fun w h => List.mem_cons_of_mem _ (List.mem_append_left _ (List.mem_append_right _ h))
  have hin3 : ∀ w ∈ wsX30, w ∈ wsX4_empty := fun w h => List.mem_cons_of_mem _ (List.mem_append_right _ h)
  have hS : va_S (cA ad) s0.heap s0.heap [] := va_S.rf
  have hl : lv_has ls 2 [(0, .ref (ad 0))] := hl
  generalize hQ : MQ below (cPub D cy ad (some (.int (if firstL N 2 (nI 0) 201 0 p0 ≤ 200 then nI (firstL N 2 (nI 0) 201 0 p0) else -1000000004))) p0 p2 ke tb t1 sb ss sw (if firstL N 2 (nI 0) 201 0 p0 ≤ 200 then fd else fnd fd 3)) args s0 0 0 (cA ad) = Q
  refine lv_aload_n hx hb dX4_empty_0 rfl (lv_at hl 0 rfl) ?_
  refine wq_V S cK_ok hK hP hS (c_X4_lookAhead hN h8) gX4_empty_X4_lookAhead i_X4_lookAhead rfl (c_rec hK hP 0 (by decide) cE_0 rfl) ⟨Nat.le_of_ble_eq_true rfl, Nat.le_of_ble_eq_true rfl⟩ rfl hl.1 (As := []) (rest := []) (st1 := []) rfl rfl (Nat.le_of_ble_eq_true rfl) ⟨Nat.le_of_ble_eq_true rfl, Nat.le_of_ble_eq_true rfl⟩ dX4_empty_1 (fun H locs hP hS => ?_)
  refine lv_iconst (v := nI 0) hx hb dX4_empty_4 (by decide) ?_
  refine lv_istore_n (lv' := [(1, .int (nI 0)), (0, .ref (ad 0))]) hx hb dX4_empty_5 rfl hl (by decide) rfl (fun ls hl => ?_)
  have L_6 : ∀ (n : Nat) (j : Nat) (sz : Nat → Int32) (H : Heap) (locs : List Loc) (ls : Array Slot), (j + n = 201) → (sz 0 = nI N) → (firstL N 2 (nI 0) 201 0 p0 = firstL N 2 (nI 0) n j sz) → va_P D vwCl (cw cy ad (rr p0 sz p2) ke tb t1 t2 t3 t4 t5 sb ss sw fd) H → va_S (cA ad) s0.heap H locs → lv_has ls 2 [(1, .int (nI j)), (0, .ref (ad 0))] → W p l e (rmz 4 88) s0 m args below meth c H locs 0 0 Q (F0 m 6 ls []) := by
    intro n
    induction n with
    | zero =>
      intro j sz H locs ls hj hm hF hP hS hl
      refine lv_iload_n hx hb dX4_empty_6 rfl (lv_at hl 0 rfl) ?_
      refine lv_sipush (v := nI 200) hx hb dX4_empty_7 (by decide) ?_
      refine lvn_icmp_gt (tgt := 38) hx hb dX4_empty_10 (by decide) (by omega) (by omega) (fun c_10 => ?_) (fun c_10 => ?_)
      · skip
        have hE : firstL N 2 (nI 0) 201 0 p0 = 201 := by
          have hF : firstL N 2 (nI 0) 201 0 p0 = j := hF
          omega
        refine lv_aload_n hx hb dX4_empty_38 rfl (lv_at hl 1 rfl) ?_
        refine lv_iconst (v := nI 3) hx hb dX4_empty_39 (by decide) ?_
        refine wq_V S cK_ok hK hP hS (c_X4_finding (t := 3) (by decide)) gX4_empty_X4_finding i_X4_finding rfl (c_rec hK hP 0 (by decide) cE_0 rfl) ⟨Nat.le_of_ble_eq_true rfl, Nat.le_of_ble_eq_true rfl⟩ rfl hl.1 (As := [.int (nI 3)]) (rest := []) (st1 := [.int ((-1000000004))]) rfl rfl (Nat.le_of_ble_eq_true rfl) ⟨Nat.le_of_ble_eq_true rfl, Nat.le_of_ble_eq_true rfl⟩ dX4_empty_40 (fun H locs hP hS => ?_)
        subst hQ
        exact cp_ri hx hb hr hlocks hP hS dX4_empty_43 (by first | (simp only [fnd, hE, if_pos c_10, Bool.false_eq_true, Bool.true_eq_false, and_true, true_and, false_and, and_false, and_self, not_true_eq_false, not_false_eq_true, if_true, if_false, reduceIte, or_false, false_or, true_or, or_true]; done) | (subst_vars; simp only [fnd, hE, if_pos c_10, Bool.false_eq_true, Bool.true_eq_false, and_true, true_and, false_and, and_false, and_self, not_true_eq_false, not_false_eq_true, if_true, if_false, reduceIte, or_false, false_or, true_or, or_true]; done) | (simp only [fnd, hE, if_pos c_10, Bool.false_eq_true, Bool.true_eq_false, and_true, true_and, false_and, and_false, and_self, not_true_eq_false, not_false_eq_true, if_true, if_false, reduceIte, or_false, false_or, true_or, or_true, if_pos (show j ≤ 200 by omega)]; done) | (simp only [fnd, hE, if_pos c_10, Bool.false_eq_true, Bool.true_eq_false, and_true, true_and, false_and, and_false, and_self, not_true_eq_false, not_false_eq_true, if_true, if_false, reduceIte, or_false, false_or, true_or, or_true, if_neg (show ¬ 201 ≤ 200 by decide)]; done)) (by first | (simp only [fnd, hE, if_pos c_10, Bool.false_eq_true, Bool.true_eq_false, and_true, true_and, false_and, and_false, and_self, not_true_eq_false, not_false_eq_true, if_true, if_false, reduceIte, or_false, false_or, true_or, or_true]; done) | (subst_vars; simp only [fnd, hE, if_pos c_10, Bool.false_eq_true, Bool.true_eq_false, and_true, true_and, false_and, and_false, and_self, not_true_eq_false, not_false_eq_true, if_true, if_false, reduceIte, or_false, false_or, true_or, or_true]; done) | (simp only [fnd, hE, if_pos c_10, Bool.false_eq_true, Bool.true_eq_false, and_true, true_and, false_and, and_false, and_self, not_true_eq_false, not_false_eq_true, if_true, if_false, reduceIte, or_false, false_or, true_or, or_true, if_pos (show j ≤ 200 by omega)]; done) | (simp only [fnd, hE, if_pos c_10, Bool.false_eq_true, Bool.true_eq_false, and_true, true_and, false_and, and_false, and_self, not_true_eq_false, not_false_eq_true, if_true, if_false, reduceIte, or_false, false_or, true_or, or_true, if_neg (show ¬ 201 ≤ 200 by decide)]; done))
      · skip
        exfalso; omega
    | succ n ih_6 =>
      intro j sz H locs ls hj hm hF hP hS hl
      refine lv_iload_n hx hb dX4_empty_6 rfl (lv_at hl 0 rfl) ?_
      refine lv_sipush (v := nI 200) hx hb dX4_empty_7 (by decide) ?_
      refine lvn_icmp_gt (tgt := 38) hx hb dX4_empty_10 (by decide) (by omega) (by omega) (fun c_10 => ?_) (fun c_10 => ?_)
      · skip
        exfalso; omega
      · skip
        refine lv_aload_n hx hb dX4_empty_13 rfl (lv_at hl 1 rfl) ?_
        refine c_get (v := .ref (ad (1 + 10 * 1))) (C := RX4) (T := TX4) (N := 7) hx hb hts hin4 hown hK hP (0) (by decide) cE_0 rfl 1 (by decide) (Or.inl (hts (.fieldLink RX4 16 "PennyRoad" "ahead" "LPennyRoad$Road;") (by decide +kernel))) rfl dX4_empty_14 ?_
        refine c_get (v := .int (sz 2)) (C := RX0) (T := TX0) (N := 6) hx hb hts hin0 hown hK hP (1 + 10 * 1) (by decide) (cE_rd (by decide)) rfl 1 (by decide) (Or.inr (c_nest hK 19 rfl)) rfl dX4_empty_17 ?_
        refine lv_if_ne (tgt := 25) hx hb dX4_empty_20 (by decide) (fun c_20 => ?_) (fun c_20 => ?_)
        · skip
          refine lv_aload_n hx hb dX4_empty_25 rfl (lv_at hl 1 rfl) ?_
          refine c_get (v := .ref (ad (1 + 10 * 1))) (C := RX4) (T := TX4) (N := 7) hx hb hts hin4 hown hK hP (0) (by decide) cE_0 rfl 1 (by decide) (Or.inl (hts (.fieldLink RX4 16 "PennyRoad" "ahead" "LPennyRoad$Road;") (by decide +kernel))) rfl dX4_empty_26 ?_
          refine wq_VN (host := "PennyRoad") S cK_ok hK hP hS (c_X0_passHour_r1 hm h8) gX4_empty_X0_passHour_n136 i_X0_passHour (c_nest hK 49 rfl) (hts (.initialized RX0) (by decide +kernel)) (hts (.instanceMethod yX0_passHour) (by decide +kernel)) (hts (.selects RX0 yX0_passHour yX0_passHour) (by decide +kernel)) (c_rec hK hP (1 + 10 * 1) (by decide) (cE_rd (by decide)) rfl) ⟨Nat.le_of_ble_eq_true rfl, Nat.le_of_ble_eq_true rfl⟩ rfl hl.1 (As := []) (rest := []) (st1 := []) rfl rfl (Nat.le_of_ble_eq_true rfl) ⟨Nat.le_of_ble_eq_true rfl, Nat.le_of_ble_eq_true rfl⟩ dX4_empty_29 (fun H locs hP hS => ?_)
          refine lv_iinc (v := nI (j + 1)) (lv' := [(1, .int (nI (j + 1))), (0, .ref (ad 0))]) hx hb dX4_empty_32 hl (k := 0) rfl (nI_add _ _) (by decide) rfl (fun ls hl => ?_)
          refine lv_goto (tgt := 6) hx hb dX4_empty_35 (by decide) ?_
          exact ih_6 (j + 1) _ _ _ ls (by omega) (hourF_0.trans hm) (hF.trans (if_neg c_20)) hP hS hl
        · skip
          have hE : firstL N 2 (nI 0) 201 0 p0 = j := hF.trans (if_pos c_20)
          refine lv_iload_n hx hb dX4_empty_23 rfl (lv_at hl 0 rfl) ?_
          subst hQ
          exact cp_ri hx hb hr hlocks hP hS dX4_empty_24 (by first | (simp only [fnd, hE, if_neg c_10, if_pos c_20, Bool.false_eq_true, Bool.true_eq_false, and_true, true_and, false_and, and_false, and_self, not_true_eq_false, not_false_eq_true, if_true, if_false, reduceIte, or_false, false_or, true_or, or_true]; done) | (subst_vars; simp only [fnd, hE, if_neg c_10, if_pos c_20, Bool.false_eq_true, Bool.true_eq_false, and_true, true_and, false_and, and_false, and_self, not_true_eq_false, not_false_eq_true, if_true, if_false, reduceIte, or_false, false_or, true_or, or_true]; done) | (simp only [fnd, hE, if_neg c_10, if_pos c_20, Bool.false_eq_true, Bool.true_eq_false, and_true, true_and, false_and, and_false, and_self, not_true_eq_false, not_false_eq_true, if_true, if_false, reduceIte, or_false, false_or, true_or, or_true, if_pos (show j ≤ 200 by omega)]; done) | (simp only [fnd, hE, if_neg c_10, if_pos c_20, Bool.false_eq_true, Bool.true_eq_false, and_true, true_and, false_and, and_false, and_self, not_true_eq_false, not_false_eq_true, if_true, if_false, reduceIte, or_false, false_or, true_or, or_true, if_neg (show ¬ 201 ≤ 200 by decide)]; done)) (by first | (simp only [fnd, hE, if_neg c_10, if_pos c_20, Bool.false_eq_true, Bool.true_eq_false, and_true, true_and, false_and, and_false, and_self, not_true_eq_false, not_false_eq_true, if_true, if_false, reduceIte, or_false, false_or, true_or, or_true]; done) | (subst_vars; simp only [fnd, hE, if_neg c_10, if_pos c_20, Bool.false_eq_true, Bool.true_eq_false, and_true, true_and, false_and, and_false, and_self, not_true_eq_false, not_false_eq_true, if_true, if_false, reduceIte, or_false, false_or, true_or, or_true]; done) | (simp only [fnd, hE, if_neg c_10, if_pos c_20, Bool.false_eq_true, Bool.true_eq_false, and_true, true_and, false_and, and_false, and_self, not_true_eq_false, not_false_eq_true, if_true, if_false, reduceIte, or_false, false_or, true_or, or_true, if_pos (show j ≤ 200 by omega)]; done) | (simp only [fnd, hE, if_neg c_10, if_pos c_20, Bool.false_eq_true, Bool.true_eq_false, and_true, true_and, false_and, and_false, and_self, not_true_eq_false, not_false_eq_true, if_true, if_false, reduceIte, or_false, false_or, true_or, or_true, if_neg (show ¬ 201 ≤ 200 by decide)]; done))
  exact L_6 201 0 (cpn (5 + 8 * N) p0 p1) _ _ ls (by omega) ((cpn_0' (j := N)).trans hN) (first_l (by omega)).symm hP hS hl
theorem i_X4_empty : ciOk yX4_empty cX4_empty 2 (some .int) wsX4_empty 0 := ⟨⟨_, rfl⟩, by decide +kernel⟩
set_option maxHeartbeats 1000000 in
set_option maxRecDepth 100000 in
theorem c_X4_comes {l : Launch} {D : va_G} {cy : Nat → ClassId} {ad : Nat → Nat} {p0 : Nat → Int32} {p1 : Nat → Int32} {p2 : Nat → Int32} {ke : Int32} {tb : Nat → Int32} {t1 : Int32} {t2 : Int32} {t3 : Int32} {t4 : Int32} {t5 : Int32} {sb : Nat → Int32} {ss : Nat → Int32} {sw : Nat → Nat → Int64} {fd : Nat → Int32} {q : Int32} {o : Int32} {N : Nat} (hN : p0 0 = nI N) (h8 : N ≤ 8) : Met l yX4_comes wsX4_comes (rmz 4 88) (wPre D (cK D cy ad) (cw cy ad (rr p0 p1 p2) ke tb t1 t2 t3 t4 t5 sb ss sw fd) [.ref (ad 0), .int (q), .int (o)]) (cPub D cy ad (some (.int (if isN N q ∧ rg 0 12 o then (if firstL N (5 + 8 * q.toNatClampNeg + 1) o 201 0 p0 ≤ 200 then nI (firstL N (5 + 8 * q.toNatClampNeg + 1) o 201 0 p0) else -1000000004) else -1000000001))) p0 p2 ke tb t1 sb ss sw (if isN N q ∧ rg 0 12 o then (if firstL N (5 + 8 * q.toNatClampNeg + 1) o 201 0 p0 ≤ 200 then fd else fnd fd 3) else fnd fd 0)) 0 0 (cA ad) := by
  refine wq_entry rfl rfl (Nat.le_of_ble_eq_true rfl) ?_
  intro p e s0 m args below meth c S hr hlocks hK hP ls hl
  have S : CallFix p m c cX4_comes 5 s0 args wsX4_comes RX4 := S
  obtain ⟨hx, hb, hml, hown, hts⟩ := id S
  have hin4 : ∀ w ∈ wsX40, w ∈ wsX4_comes := fun w h => List.mem_cons_of_mem _ (List.mem_append_left _ (List.mem_append_left _ (List.mem_append_right _ h)))
  have hin0 : ∀ w ∈ wsX00, w ∈ wsX4_comes := fun w h => List.mem_cons_of_mem _ (List.mem_append_left _ (List.mem_append_right _ h))
  have hin3 : ∀ w ∈ wsX30, w ∈ wsX4_comes := fun w h => List.mem_cons_of_mem _ (List.mem_append_right _ h)
  have hS : va_S (cA ad) s0.heap s0.heap [] := va_S.rf
  have hl : lv_has ls 5 [(0, .ref (ad 0)), (1, .int (q)), (2, .int (o))] := hl
  generalize hQ : MQ below (cPub D cy ad (some (.int (if isN N q ∧ rg 0 12 o then (if firstL N (5 + 8 * q.toNatClampNeg + 1) o 201 0 p0 ≤ 200 then nI (firstL N (5 + 8 * q.toNatClampNeg + 1) o 201 0 p0) else -1000000004) else -1000000001))) p0 p2 ke tb t1 sb ss sw (if isN N q ∧ rg 0 12 o then (if firstL N (5 + 8 * q.toNatClampNeg + 1) o 201 0 p0 ≤ 200 then fd else fnd fd 3) else fnd fd 0)) args s0 0 0 (cA ad) = Q
  refine lv_aload_n hx hb dX4_comes_0 rfl (lv_at hl 0 rfl) ?_
  refine lv_iload_n hx hb dX4_comes_1 rfl (lv_at hl 1 rfl) ?_
  refine wq_V S cK_ok hK hP hS (c_X4_isThere hN h8) gX4_comes_X4_isThere i_X4_isThere rfl (c_rec hK hP 0 (by decide) cE_0 rfl) ⟨Nat.le_of_ble_eq_true rfl, Nat.le_of_ble_eq_true rfl⟩ rfl hl.1 (As := [.int (q)]) (rest := []) (st1 := [.int (z (isN N (q)))]) rfl rfl (Nat.le_of_ble_eq_true rfl) ⟨Nat.le_of_ble_eq_true rfl, Nat.le_of_ble_eq_true rfl⟩ dX4_comes_2 (fun H locs hP hS => ?_)
  refine lvz_if_eq (tgt := 18) hx hb dX4_comes_5 (by decide) (fun c_5 => ?_) (fun c_5 => ?_)
  · skip
    refine lv_aload_n hx hb dX4_comes_18 rfl (lv_at hl 0 rfl) ?_
    refine lv_iconst (v := nI 0) hx hb dX4_comes_19 (by decide) ?_
    refine wq_V S cK_ok hK hP hS (c_X4_finding (t := 0) (by decide)) gX4_comes_X4_finding i_X4_finding rfl (c_rec hK hP 0 (by decide) cE_0 rfl) ⟨Nat.le_of_ble_eq_true rfl, Nat.le_of_ble_eq_true rfl⟩ rfl hl.1 (As := [.int (nI 0)]) (rest := []) (st1 := [.int ((-1000000001))]) rfl rfl (Nat.le_of_ble_eq_true rfl) ⟨Nat.le_of_ble_eq_true rfl, Nat.le_of_ble_eq_true rfl⟩ dX4_comes_20 (fun H locs hP hS => ?_)
    subst hQ
    exact cp_ri hx hb hr hlocks hP hS dX4_comes_23 (by first | (simp only [fnd, c_5, Bool.false_eq_true, Bool.true_eq_false, and_true, true_and, false_and, and_false, and_self, not_true_eq_false, not_false_eq_true, if_true, if_false, reduceIte, or_false, false_or, true_or, or_true]; done) | (subst_vars; simp only [fnd, c_5, Bool.false_eq_true, Bool.true_eq_false, and_true, true_and, false_and, and_false, and_self, not_true_eq_false, not_false_eq_true, if_true, if_false, reduceIte, or_false, false_or, true_or, or_true]; done) | (simp only [fnd, c_5, Bool.false_eq_true, Bool.true_eq_false, and_true, true_and, false_and, and_false, and_self, not_true_eq_false, not_false_eq_true, if_true, if_false, reduceIte, or_false, false_or, true_or, or_true, if_pos (show j ≤ 200 by omega)]; done) | (simp only [fnd, c_5, Bool.false_eq_true, Bool.true_eq_false, and_true, true_and, false_and, and_false, and_self, not_true_eq_false, not_false_eq_true, if_true, if_false, reduceIte, or_false, false_or, true_or, or_true, if_neg (show ¬ 201 ≤ 200 by decide)]; done)) (by first | (simp only [fnd, c_5, Bool.false_eq_true, Bool.true_eq_false, and_true, true_and, false_and, and_false, and_self, not_true_eq_false, not_false_eq_true, if_true, if_false, reduceIte, or_false, false_or, true_or, or_true]; done) | (subst_vars; simp only [fnd, c_5, Bool.false_eq_true, Bool.true_eq_false, and_true, true_and, false_and, and_false, and_self, not_true_eq_false, not_false_eq_true, if_true, if_false, reduceIte, or_false, false_or, true_or, or_true]; done) | (simp only [fnd, c_5, Bool.false_eq_true, Bool.true_eq_false, and_true, true_and, false_and, and_false, and_self, not_true_eq_false, not_false_eq_true, if_true, if_false, reduceIte, or_false, false_or, true_or, or_true, if_pos (show j ≤ 200 by omega)]; done) | (simp only [fnd, c_5, Bool.false_eq_true, Bool.true_eq_false, and_true, true_and, false_and, and_false, and_self, not_true_eq_false, not_false_eq_true, if_true, if_false, reduceIte, or_false, false_or, true_or, or_true, if_neg (show ¬ 201 ≤ 200 by decide)]; done))
  · skip
    refine lv_iload_n hx hb dX4_comes_8 rfl (lv_at hl 2 rfl) ?_
    refine lv_iconst (v := nI 0) hx hb dX4_comes_9 (by decide) ?_
    refine lv_bipush (v := nI 12) hx hb dX4_comes_10 (by decide) ?_
    refine sq_S S (c_X4_withinN (by decide) (by decide)) gX4_comes_X4_within i_X4_within ⟨Nat.le_of_ble_eq_true rfl, Nat.le_of_ble_eq_true rfl⟩ rfl hl.1 (As := [.int (o), .int (nI 0), .int (nI 12)]) (rest := []) (st1 := [.int (z (rg 0 12 (o)))]) rfl rfl (Nat.le_of_ble_eq_true rfl) ⟨Nat.le_of_ble_eq_true rfl, Nat.le_of_ble_eq_true rfl⟩ dX4_comes_12 ?_
    refine lvz_if_ne (tgt := 24) hx hb dX4_comes_15 (by decide) (fun c_15 => ?_) (fun c_15 => ?_)
    · skip
      obtain ⟨i, h_i, rfl⟩ := isN_ix h8 c_5
      have hcl_i : (nI i).toNatClampNeg = i := nI_clamp (by omega)
      refine lv_aload_n hx hb dX4_comes_24 rfl (lv_at hl 0 rfl) ?_
      refine wq_V S cK_ok hK hP hS (c_X4_lookAhead hN h8) gX4_comes_X4_lookAhead i_X4_lookAhead rfl (c_rec hK hP 0 (by decide) cE_0 rfl) ⟨Nat.le_of_ble_eq_true rfl, Nat.le_of_ble_eq_true rfl⟩ rfl hl.1 (As := []) (rest := []) (st1 := []) rfl rfl (Nat.le_of_ble_eq_true rfl) ⟨Nat.le_of_ble_eq_true rfl, Nat.le_of_ble_eq_true rfl⟩ dX4_comes_25 (fun H locs hP hS => ?_)
      refine lv_aload_n hx hb dX4_comes_28 rfl (lv_at hl 0 rfl) ?_
      refine c_get (v := .ref (ad (1 + 10 * 1))) (C := RX4) (T := TX4) (N := 7) hx hb hts hin4 hown hK hP (0) (by decide) cE_0 rfl 1 (by decide) (Or.inl (hts (.fieldLink RX4 16 "PennyRoad" "ahead" "LPennyRoad$Road;") (by decide +kernel))) rfl dX4_comes_29 ?_
      refine c_get (v := .ref (ad (2 + 10 * 1))) (C := RX0) (T := TX0) (N := 6) hx hb hts hin0 hown hK hP (1 + 10 * 1) (by decide) (cE_rd (by decide)) rfl 5 (by decide) (Or.inr (c_nest hK 26 rfl)) rfl dX4_comes_32 ?_
      refine lv_iload_n hx hb dX4_comes_35 rfl (lv_at hl 1 rfl) ?_
      refine c_aldW hx hb hK hP 1 (by decide) (by omega) dX4_comes_36 ?_
      refine lv_astore_n (lv' := [(3, .ref (ad (3 + 10 * 1 + i))), (0, .ref (ad 0)), (1, .int (nI i)), (2, .int (o))]) hx hb dX4_comes_37 rfl hl (by decide) rfl (fun ls hl => ?_)
      refine lv_iconst (v := nI 0) hx hb dX4_comes_38 (by decide) ?_
      refine lv_istore (lv' := [(4, .int (nI 0)), (3, .ref (ad (3 + 10 * 1 + i))), (0, .ref (ad 0)), (1, .int (nI i)), (2, .int (o))]) hx hb dX4_comes_39 hl (by decide) rfl (fun ls hl => ?_)
      have L_41 : ∀ (n : Nat) (j : Nat) (sz : Nat → Int32) (H : Heap) (locs : List Loc) (ls : Array Slot), (j + n = 201) → (sz 0 = nI N) → (firstL N (5 + 8 * i + 1) o 201 0 p0 = firstL N (5 + 8 * i + 1) o n j sz) → va_P D vwCl (cw cy ad (rr p0 sz p2) ke tb t1 t2 t3 t4 t5 sb ss sw fd) H → va_S (cA ad) s0.heap H locs → lv_has ls 5 [(4, .int (nI j)), (3, .ref (ad (3 + 10 * 1 + i))), (0, .ref (ad 0)), (1, .int (nI i)), (2, .int (o))] → W p l e (rmz 4 88) s0 m args below meth c H locs 0 0 Q (F0 m 41 ls []) := by
        intro n
        induction n with
        | zero =>
          intro j sz H locs ls hj hm hF hP hS hl
          refine lv_iload hx hb dX4_comes_41 (lv_at hl 0 rfl) ?_
          refine lv_sipush (v := nI 200) hx hb dX4_comes_43 (by decide) ?_
          refine lvn_icmp_gt (tgt := 73) hx hb dX4_comes_46 (by decide) (by omega) (by omega) (fun c_46 => ?_) (fun c_46 => ?_)
          · skip
            have hE : firstL N (5 + 8 * i + 1) o 201 0 p0 = 201 := by
              have hF : firstL N (5 + 8 * i + 1) o 201 0 p0 = j := hF
              omega
            refine lv_aload_n hx hb dX4_comes_73 rfl (lv_at hl 2 rfl) ?_
            refine lv_iconst (v := nI 3) hx hb dX4_comes_74 (by decide) ?_
            refine wq_V S cK_ok hK hP hS (c_X4_finding (t := 3) (by decide)) gX4_comes_X4_finding i_X4_finding rfl (c_rec hK hP 0 (by decide) cE_0 rfl) ⟨Nat.le_of_ble_eq_true rfl, Nat.le_of_ble_eq_true rfl⟩ rfl hl.1 (As := [.int (nI 3)]) (rest := []) (st1 := [.int ((-1000000004))]) rfl rfl (Nat.le_of_ble_eq_true rfl) ⟨Nat.le_of_ble_eq_true rfl, Nat.le_of_ble_eq_true rfl⟩ dX4_comes_75 (fun H locs hP hS => ?_)
            subst hQ
            exact cp_ri hx hb hr hlocks hP hS dX4_comes_78 (by first | (simp only [fnd, hcl_i, hE, c_5, c_15, if_pos c_46, Bool.false_eq_true, Bool.true_eq_false, and_true, true_and, false_and, and_false, and_self, not_true_eq_false, not_false_eq_true, if_true, if_false, reduceIte, or_false, false_or, true_or, or_true]; done) | (subst_vars; simp only [fnd, hcl_i, hE, c_5, c_15, if_pos c_46, Bool.false_eq_true, Bool.true_eq_false, and_true, true_and, false_and, and_false, and_self, not_true_eq_false, not_false_eq_true, if_true, if_false, reduceIte, or_false, false_or, true_or, or_true]; done) | (simp only [fnd, hcl_i, hE, c_5, c_15, if_pos c_46, Bool.false_eq_true, Bool.true_eq_false, and_true, true_and, false_and, and_false, and_self, not_true_eq_false, not_false_eq_true, if_true, if_false, reduceIte, or_false, false_or, true_or, or_true, if_pos (show j ≤ 200 by omega)]; done) | (simp only [fnd, hcl_i, hE, c_5, c_15, if_pos c_46, Bool.false_eq_true, Bool.true_eq_false, and_true, true_and, false_and, and_false, and_self, not_true_eq_false, not_false_eq_true, if_true, if_false, reduceIte, or_false, false_or, true_or, or_true, if_neg (show ¬ 201 ≤ 200 by decide)]; done)) (by first | (simp only [fnd, hcl_i, hE, c_5, c_15, if_pos c_46, Bool.false_eq_true, Bool.true_eq_false, and_true, true_and, false_and, and_false, and_self, not_true_eq_false, not_false_eq_true, if_true, if_false, reduceIte, or_false, false_or, true_or, or_true]; done) | (subst_vars; simp only [fnd, hcl_i, hE, c_5, c_15, if_pos c_46, Bool.false_eq_true, Bool.true_eq_false, and_true, true_and, false_and, and_false, and_self, not_true_eq_false, not_false_eq_true, if_true, if_false, reduceIte, or_false, false_or, true_or, or_true]; done) | (simp only [fnd, hcl_i, hE, c_5, c_15, if_pos c_46, Bool.false_eq_true, Bool.true_eq_false, and_true, true_and, false_and, and_false, and_self, not_true_eq_false, not_false_eq_true, if_true, if_false, reduceIte, or_false, false_or, true_or, or_true, if_pos (show j ≤ 200 by omega)]; done) | (simp only [fnd, hcl_i, hE, c_5, c_15, if_pos c_46, Bool.false_eq_true, Bool.true_eq_false, and_true, true_and, false_and, and_false, and_self, not_true_eq_false, not_false_eq_true, if_true, if_false, reduceIte, or_false, false_or, true_or, or_true, if_neg (show ¬ 201 ≤ 200 by decide)]; done))
          · skip
            exfalso; omega
        | succ n ih_41 =>
          intro j sz H locs ls hj hm hF hP hS hl
          refine lv_iload hx hb dX4_comes_41 (lv_at hl 0 rfl) ?_
          refine lv_sipush (v := nI 200) hx hb dX4_comes_43 (by decide) ?_
          refine lvn_icmp_gt (tgt := 73) hx hb dX4_comes_46 (by decide) (by omega) (by omega) (fun c_46 => ?_) (fun c_46 => ?_)
          · skip
            exfalso; omega
          · skip
            refine lv_aload_n hx hb dX4_comes_49 rfl (lv_at hl 1 rfl) ?_
            refine c_get (v := .int (sz (5 + 8 * i + 1))) (C := RX3) (T := TX3) (N := 8) hx hb hts hin3 hown hK hP (3 + 10 * 1 + i) (by omega) (cE_wk (by decide) (by omega)) rfl 1 (by decide) (Or.inr (c_nest hK 2 rfl)) rfl dX4_comes_50 ?_
            refine lv_iload_n hx hb dX4_comes_53 rfl (lv_at hl 4 rfl) ?_
            refine lv_icmp_ne (tgt := 60) hx hb dX4_comes_54 (by decide) (fun c_54 => ?_) (fun c_54 => ?_)
            · skip
              refine lv_aload_n hx hb dX4_comes_60 rfl (lv_at hl 2 rfl) ?_
              refine c_get (v := .ref (ad (1 + 10 * 1))) (C := RX4) (T := TX4) (N := 7) hx hb hts hin4 hown hK hP (0) (by decide) cE_0 rfl 1 (by decide) (Or.inl (hts (.fieldLink RX4 16 "PennyRoad" "ahead" "LPennyRoad$Road;") (by decide +kernel))) rfl dX4_comes_61 ?_
              refine wq_VN (host := "PennyRoad") S cK_ok hK hP hS (c_X0_passHour_r1 hm h8) gX4_comes_X0_passHour_n136 i_X0_passHour (c_nest hK 49 rfl) (hts (.initialized RX0) (by decide +kernel)) (hts (.instanceMethod yX0_passHour) (by decide +kernel)) (hts (.selects RX0 yX0_passHour yX0_passHour) (by decide +kernel)) (c_rec hK hP (1 + 10 * 1) (by decide) (cE_rd (by decide)) rfl) ⟨Nat.le_of_ble_eq_true rfl, Nat.le_of_ble_eq_true rfl⟩ rfl hl.1 (As := []) (rest := []) (st1 := []) rfl rfl (Nat.le_of_ble_eq_true rfl) ⟨Nat.le_of_ble_eq_true rfl, Nat.le_of_ble_eq_true rfl⟩ dX4_comes_64 (fun H locs hP hS => ?_)
              refine lv_iinc (v := nI (j + 1)) (lv' := [(4, .int (nI (j + 1))), (3, .ref (ad (3 + 10 * 1 + i))), (0, .ref (ad 0)), (1, .int (nI i)), (2, .int (o))]) hx hb dX4_comes_67 hl (k := 0) rfl (nI_add _ _) (by decide) rfl (fun ls hl => ?_)
              refine lv_goto (tgt := 41) hx hb dX4_comes_70 (by decide) ?_
              exact ih_41 (j + 1) _ _ _ ls (by omega) (hourF_0.trans hm) (hF.trans (if_neg c_54)) hP hS hl
            · skip
              have hE : firstL N (5 + 8 * i + 1) o 201 0 p0 = j := hF.trans (if_pos c_54)
              refine lv_iload hx hb dX4_comes_57 (lv_at hl 0 rfl) ?_
              subst hQ
              exact cp_ri hx hb hr hlocks hP hS dX4_comes_59 (by first | (simp only [fnd, hcl_i, hE, c_5, c_15, if_neg c_46, if_pos c_54, Bool.false_eq_true, Bool.true_eq_false, and_true, true_and, false_and, and_false, and_self, not_true_eq_false, not_false_eq_true, if_true, if_false, reduceIte, or_false, false_or, true_or, or_true]; done) | (subst_vars; simp only [fnd, hcl_i, hE, c_5, c_15, if_neg c_46, if_pos c_54, Bool.false_eq_true, Bool.true_eq_false, and_true, true_and, false_and, and_false, and_self, not_true_eq_false, not_false_eq_true, if_true, if_false, reduceIte, or_false, false_or, true_or, or_true]; done) | (simp only [fnd, hcl_i, hE, c_5, c_15, if_neg c_46, if_pos c_54, Bool.false_eq_true, Bool.true_eq_false, and_true, true_and, false_and, and_false, and_self, not_true_eq_false, not_false_eq_true, if_true, if_false, reduceIte, or_false, false_or, true_or, or_true, if_pos (show j ≤ 200 by omega)]; done) | (simp only [fnd, hcl_i, hE, c_5, c_15, if_neg c_46, if_pos c_54, Bool.false_eq_true, Bool.true_eq_false, and_true, true_and, false_and, and_false, and_self, not_true_eq_false, not_false_eq_true, if_true, if_false, reduceIte, or_false, false_or, true_or, or_true, if_neg (show ¬ 201 ≤ 200 by decide)]; done)) (by first | (simp only [fnd, hcl_i, hE, c_5, c_15, if_neg c_46, if_pos c_54, Bool.false_eq_true, Bool.true_eq_false, and_true, true_and, false_and, and_false, and_self, not_true_eq_false, not_false_eq_true, if_true, if_false, reduceIte, or_false, false_or, true_or, or_true]; done) | (subst_vars; simp only [fnd, hcl_i, hE, c_5, c_15, if_neg c_46, if_pos c_54, Bool.false_eq_true, Bool.true_eq_false, and_true, true_and, false_and, and_false, and_self, not_true_eq_false, not_false_eq_true, if_true, if_false, reduceIte, or_false, false_or, true_or, or_true]; done) | (simp only [fnd, hcl_i, hE, c_5, c_15, if_neg c_46, if_pos c_54, Bool.false_eq_true, Bool.true_eq_false, and_true, true_and, false_and, and_false, and_self, not_true_eq_false, not_false_eq_true, if_true, if_false, reduceIte, or_false, false_or, true_or, or_true, if_pos (show j ≤ 200 by omega)]; done) | (simp only [fnd, hcl_i, hE, c_5, c_15, if_neg c_46, if_pos c_54, Bool.false_eq_true, Bool.true_eq_false, and_true, true_and, false_and, and_false, and_self, not_true_eq_false, not_false_eq_true, if_true, if_false, reduceIte, or_false, false_or, true_or, or_true, if_neg (show ¬ 201 ≤ 200 by decide)]; done))
      exact L_41 201 0 (cpn (5 + 8 * N) p0 p1) _ _ ls (by omega) ((cpn_0' (j := N)).trans hN) (first_l (by omega)).symm hP hS hl
    · skip
      refine lv_aload_n hx hb dX4_comes_18 rfl (lv_at hl 0 rfl) ?_
      refine lv_iconst (v := nI 0) hx hb dX4_comes_19 (by decide) ?_
      refine wq_V S cK_ok hK hP hS (c_X4_finding (t := 0) (by decide)) gX4_comes_X4_finding i_X4_finding rfl (c_rec hK hP 0 (by decide) cE_0 rfl) ⟨Nat.le_of_ble_eq_true rfl, Nat.le_of_ble_eq_true rfl⟩ rfl hl.1 (As := [.int (nI 0)]) (rest := []) (st1 := [.int ((-1000000001))]) rfl rfl (Nat.le_of_ble_eq_true rfl) ⟨Nat.le_of_ble_eq_true rfl, Nat.le_of_ble_eq_true rfl⟩ dX4_comes_20 (fun H locs hP hS => ?_)
      subst hQ
      exact cp_ri hx hb hr hlocks hP hS dX4_comes_23 (by first | (simp only [fnd, c_5, c_15, Bool.false_eq_true, Bool.true_eq_false, and_true, true_and, false_and, and_false, and_self, not_true_eq_false, not_false_eq_true, if_true, if_false, reduceIte, or_false, false_or, true_or, or_true]; done) | (subst_vars; simp only [fnd, c_5, c_15, Bool.false_eq_true, Bool.true_eq_false, and_true, true_and, false_and, and_false, and_self, not_true_eq_false, not_false_eq_true, if_true, if_false, reduceIte, or_false, false_or, true_or, or_true]; done) | (simp only [fnd, c_5, c_15, Bool.false_eq_true, Bool.true_eq_false, and_true, true_and, false_and, and_false, and_self, not_true_eq_false, not_false_eq_true, if_true, if_false, reduceIte, or_false, false_or, true_or, or_true, if_pos (show j ≤ 200 by omega)]; done) | (simp only [fnd, c_5, c_15, Bool.false_eq_true, Bool.true_eq_false, and_true, true_and, false_and, and_false, and_self, not_true_eq_false, not_false_eq_true, if_true, if_false, reduceIte, or_false, false_or, true_or, or_true, if_neg (show ¬ 201 ≤ 200 by decide)]; done)) (by first | (simp only [fnd, c_5, c_15, Bool.false_eq_true, Bool.true_eq_false, and_true, true_and, false_and, and_false, and_self, not_true_eq_false, not_false_eq_true, if_true, if_false, reduceIte, or_false, false_or, true_or, or_true]; done) | (subst_vars; simp only [fnd, c_5, c_15, Bool.false_eq_true, Bool.true_eq_false, and_true, true_and, false_and, and_false, and_self, not_true_eq_false, not_false_eq_true, if_true, if_false, reduceIte, or_false, false_or, true_or, or_true]; done) | (simp only [fnd, c_5, c_15, Bool.false_eq_true, Bool.true_eq_false, and_true, true_and, false_and, and_false, and_self, not_true_eq_false, not_false_eq_true, if_true, if_false, reduceIte, or_false, false_or, true_or, or_true, if_pos (show j ≤ 200 by omega)]; done) | (simp only [fnd, c_5, c_15, Bool.false_eq_true, Bool.true_eq_false, and_true, true_and, false_and, and_false, and_self, not_true_eq_false, not_false_eq_true, if_true, if_false, reduceIte, or_false, false_or, true_or, or_true, if_neg (show ¬ 201 ≤ 200 by decide)]; done))
theorem i_X4_comes : ciOk yX4_comes cX4_comes 5 (some .int) wsX4_comes 2 := ⟨⟨_, rfl⟩, by decide +kernel⟩
set_option maxHeartbeats 1000000 in
set_option maxRecDepth 100000 in
theorem c_X4_worn {l : Launch} {D : va_G} {cy : Nat → ClassId} {ad : Nat → Nat} {p0 : Nat → Int32} {p1 : Nat → Int32} {p2 : Nat → Int32} {ke : Int32} {tb : Nat → Int32} {t1 : Int32} {t2 : Int32} {t3 : Int32} {t4 : Int32} {t5 : Int32} {sb : Nat → Int32} {ss : Nat → Int32} {sw : Nat → Nat → Int64} {fd : Nat → Int32} {q : Int32} {N : Nat} (hN : p0 0 = nI N) (h8 : N ≤ 8) : Met l yX4_worn wsX4_worn (rmz 4 88) (wPre D (cK D cy ad) (cw cy ad (rr p0 p1 p2) ke tb t1 t2 t3 t4 t5 sb ss sw fd) [.ref (ad 0), .int (q)]) (cPub D cy ad (some (.int (if isN N q then (if firstL N (5 + 8 * q.toNatClampNeg + 3) (nI 0) 201 0 p0 ≤ 200 then nI (firstL N (5 + 8 * q.toNatClampNeg + 3) (nI 0) 201 0 p0) else -1000000004) else -1000000001))) p0 p2 ke tb t1 sb ss sw (if isN N q then (if firstL N (5 + 8 * q.toNatClampNeg + 3) (nI 0) 201 0 p0 ≤ 200 then fd else fnd fd 3) else fnd fd 0)) 0 0 (cA ad) := by
  refine wq_entry rfl rfl (Nat.le_of_ble_eq_true rfl) ?_
  intro p e s0 m args below meth c S hr hlocks hK hP ls hl
  have S : CallFix p m c cX4_worn 4 s0 args wsX4_worn RX4 := S
  obtain ⟨hx, hb, hml, hown, hts⟩ := id S
  have hin4 : ∀ w ∈ wsX40, w ∈ wsX4_worn := fun w h => List.mem_cons_of_mem _ (List.mem_append_left _ (List.mem_append_left _ (List.mem_append_right _ h)))
  have hin0 : ∀ w ∈ wsX00, w ∈ wsX4_worn := fun w h => List.mem_cons_of_mem _ (List.mem_append_left _ (List.mem_append_right _ h))
  have hin3 : ∀ w ∈ wsX30, w ∈ wsX4_worn := fun w h => List.mem_cons_of_mem _ (List.mem_append_right _ h)
  have hS : va_S (cA ad) s0.heap s0.heap [] := va_S.rf
  have hl : lv_has ls 4 [(0, .ref (ad 0)), (1, .int (q))] := hl
  generalize hQ : MQ below (cPub D cy ad (some (.int (if isN N q then (if firstL N (5 + 8 * q.toNatClampNeg + 3) (nI 0) 201 0 p0 ≤ 200 then nI (firstL N (5 + 8 * q.toNatClampNeg + 3) (nI 0) 201 0 p0) else -1000000004) else -1000000001))) p0 p2 ke tb t1 sb ss sw (if isN N q then (if firstL N (5 + 8 * q.toNatClampNeg + 3) (nI 0) 201 0 p0 ≤ 200 then fd else fnd fd 3) else fnd fd 0)) args s0 0 0 (cA ad) = Q
  refine lv_aload_n hx hb dX4_worn_0 rfl (lv_at hl 0 rfl) ?_
  refine lv_iload_n hx hb dX4_worn_1 rfl (lv_at hl 1 rfl) ?_
  refine wq_V S cK_ok hK hP hS (c_X4_isThere hN h8) gX4_worn_X4_isThere i_X4_isThere rfl (c_rec hK hP 0 (by decide) cE_0 rfl) ⟨Nat.le_of_ble_eq_true rfl, Nat.le_of_ble_eq_true rfl⟩ rfl hl.1 (As := [.int (q)]) (rest := []) (st1 := [.int (z (isN N (q)))]) rfl rfl (Nat.le_of_ble_eq_true rfl) ⟨Nat.le_of_ble_eq_true rfl, Nat.le_of_ble_eq_true rfl⟩ dX4_worn_2 (fun H locs hP hS => ?_)
  refine lvz_if_ne (tgt := 14) hx hb dX4_worn_5 (by decide) (fun c_5 => ?_) (fun c_5 => ?_)
  · skip
    obtain ⟨i, h_i, rfl⟩ := isN_ix h8 c_5
    have hcl_i : (nI i).toNatClampNeg = i := nI_clamp (by omega)
    refine lv_aload_n hx hb dX4_worn_14 rfl (lv_at hl 0 rfl) ?_
    refine wq_V S cK_ok hK hP hS (c_X4_lookAhead hN h8) gX4_worn_X4_lookAhead i_X4_lookAhead rfl (c_rec hK hP 0 (by decide) cE_0 rfl) ⟨Nat.le_of_ble_eq_true rfl, Nat.le_of_ble_eq_true rfl⟩ rfl hl.1 (As := []) (rest := []) (st1 := []) rfl rfl (Nat.le_of_ble_eq_true rfl) ⟨Nat.le_of_ble_eq_true rfl, Nat.le_of_ble_eq_true rfl⟩ dX4_worn_15 (fun H locs hP hS => ?_)
    refine lv_aload_n hx hb dX4_worn_18 rfl (lv_at hl 0 rfl) ?_
    refine c_get (v := .ref (ad (1 + 10 * 1))) (C := RX4) (T := TX4) (N := 7) hx hb hts hin4 hown hK hP (0) (by decide) cE_0 rfl 1 (by decide) (Or.inl (hts (.fieldLink RX4 16 "PennyRoad" "ahead" "LPennyRoad$Road;") (by decide +kernel))) rfl dX4_worn_19 ?_
    refine c_get (v := .ref (ad (2 + 10 * 1))) (C := RX0) (T := TX0) (N := 6) hx hb hts hin0 hown hK hP (1 + 10 * 1) (by decide) (cE_rd (by decide)) rfl 5 (by decide) (Or.inr (c_nest hK 26 rfl)) rfl dX4_worn_22 ?_
    refine lv_iload_n hx hb dX4_worn_25 rfl (lv_at hl 1 rfl) ?_
    refine c_aldW hx hb hK hP 1 (by decide) (by omega) dX4_worn_26 ?_
    refine lv_astore_n (lv' := [(2, .ref (ad (3 + 10 * 1 + i))), (0, .ref (ad 0)), (1, .int (nI i))]) hx hb dX4_worn_27 rfl hl (by decide) rfl (fun ls hl => ?_)
    refine lv_iconst (v := nI 0) hx hb dX4_worn_28 (by decide) ?_
    refine lv_istore_n (lv' := [(3, .int (nI 0)), (2, .ref (ad (3 + 10 * 1 + i))), (0, .ref (ad 0)), (1, .int (nI i))]) hx hb dX4_worn_29 rfl hl (by decide) rfl (fun ls hl => ?_)
    have L_30 : ∀ (n : Nat) (j : Nat) (sz : Nat → Int32) (H : Heap) (locs : List Loc) (ls : Array Slot), (j + n = 201) → (sz 0 = nI N) → (firstL N (5 + 8 * i + 3) (nI 0) 201 0 p0 = firstL N (5 + 8 * i + 3) (nI 0) n j sz) → va_P D vwCl (cw cy ad (rr p0 sz p2) ke tb t1 t2 t3 t4 t5 sb ss sw fd) H → va_S (cA ad) s0.heap H locs → lv_has ls 4 [(3, .int (nI j)), (2, .ref (ad (3 + 10 * 1 + i))), (0, .ref (ad 0)), (1, .int (nI i))] → W p l e (rmz 4 88) s0 m args below meth c H locs 0 0 Q (F0 m 30 ls []) := by
      intro n
      induction n with
      | zero =>
        intro j sz H locs ls hj hm hF hP hS hl
        refine lv_iload_n hx hb dX4_worn_30 rfl (lv_at hl 0 rfl) ?_
        refine lv_sipush (v := nI 200) hx hb dX4_worn_31 (by decide) ?_
        refine lvn_icmp_gt (tgt := 59) hx hb dX4_worn_34 (by decide) (by omega) (by omega) (fun c_34 => ?_) (fun c_34 => ?_)
        · skip
          have hE : firstL N (5 + 8 * i + 3) (nI 0) 201 0 p0 = 201 := by
            have hF : firstL N (5 + 8 * i + 3) (nI 0) 201 0 p0 = j := hF
            omega
          refine lv_aload_n hx hb dX4_worn_59 rfl (lv_at hl 2 rfl) ?_
          refine lv_iconst (v := nI 3) hx hb dX4_worn_60 (by decide) ?_
          refine wq_V S cK_ok hK hP hS (c_X4_finding (t := 3) (by decide)) gX4_worn_X4_finding i_X4_finding rfl (c_rec hK hP 0 (by decide) cE_0 rfl) ⟨Nat.le_of_ble_eq_true rfl, Nat.le_of_ble_eq_true rfl⟩ rfl hl.1 (As := [.int (nI 3)]) (rest := []) (st1 := [.int ((-1000000004))]) rfl rfl (Nat.le_of_ble_eq_true rfl) ⟨Nat.le_of_ble_eq_true rfl, Nat.le_of_ble_eq_true rfl⟩ dX4_worn_61 (fun H locs hP hS => ?_)
          subst hQ
          exact cp_ri hx hb hr hlocks hP hS dX4_worn_64 (by first | (simp only [fnd, hcl_i, hE, c_5, if_pos c_34, Bool.false_eq_true, Bool.true_eq_false, and_true, true_and, false_and, and_false, and_self, not_true_eq_false, not_false_eq_true, if_true, if_false, reduceIte, or_false, false_or, true_or, or_true]; done) | (subst_vars; simp only [fnd, hcl_i, hE, c_5, if_pos c_34, Bool.false_eq_true, Bool.true_eq_false, and_true, true_and, false_and, and_false, and_self, not_true_eq_false, not_false_eq_true, if_true, if_false, reduceIte, or_false, false_or, true_or, or_true]; done) | (simp only [fnd, hcl_i, hE, c_5, if_pos c_34, Bool.false_eq_true, Bool.true_eq_false, and_true, true_and, false_and, and_false, and_self, not_true_eq_false, not_false_eq_true, if_true, if_false, reduceIte, or_false, false_or, true_or, or_true, if_pos (show j ≤ 200 by omega)]; done) | (simp only [fnd, hcl_i, hE, c_5, if_pos c_34, Bool.false_eq_true, Bool.true_eq_false, and_true, true_and, false_and, and_false, and_self, not_true_eq_false, not_false_eq_true, if_true, if_false, reduceIte, or_false, false_or, true_or, or_true, if_neg (show ¬ 201 ≤ 200 by decide)]; done)) (by first | (simp only [fnd, hcl_i, hE, c_5, if_pos c_34, Bool.false_eq_true, Bool.true_eq_false, and_true, true_and, false_and, and_false, and_self, not_true_eq_false, not_false_eq_true, if_true, if_false, reduceIte, or_false, false_or, true_or, or_true]; done) | (subst_vars; simp only [fnd, hcl_i, hE, c_5, if_pos c_34, Bool.false_eq_true, Bool.true_eq_false, and_true, true_and, false_and, and_false, and_self, not_true_eq_false, not_false_eq_true, if_true, if_false, reduceIte, or_false, false_or, true_or, or_true]; done) | (simp only [fnd, hcl_i, hE, c_5, if_pos c_34, Bool.false_eq_true, Bool.true_eq_false, and_true, true_and, false_and, and_false, and_self, not_true_eq_false, not_false_eq_true, if_true, if_false, reduceIte, or_false, false_or, true_or, or_true, if_pos (show j ≤ 200 by omega)]; done) | (simp only [fnd, hcl_i, hE, c_5, if_pos c_34, Bool.false_eq_true, Bool.true_eq_false, and_true, true_and, false_and, and_false, and_self, not_true_eq_false, not_false_eq_true, if_true, if_false, reduceIte, or_false, false_or, true_or, or_true, if_neg (show ¬ 201 ≤ 200 by decide)]; done))
        · skip
          exfalso; omega
      | succ n ih_30 =>
        intro j sz H locs ls hj hm hF hP hS hl
        refine lv_iload_n hx hb dX4_worn_30 rfl (lv_at hl 0 rfl) ?_
        refine lv_sipush (v := nI 200) hx hb dX4_worn_31 (by decide) ?_
        refine lvn_icmp_gt (tgt := 59) hx hb dX4_worn_34 (by decide) (by omega) (by omega) (fun c_34 => ?_) (fun c_34 => ?_)
        · skip
          exfalso; omega
        · skip
          refine lv_aload_n hx hb dX4_worn_37 rfl (lv_at hl 1 rfl) ?_
          refine c_get (v := .int (sz (5 + 8 * i + 3))) (C := RX3) (T := TX3) (N := 8) hx hb hts hin3 hown hK hP (3 + 10 * 1 + i) (by omega) (cE_wk (by decide) (by omega)) rfl 3 (by decide) (Or.inr (c_nest hK 8 rfl)) rfl dX4_worn_38 ?_
          refine lv_if_ne (tgt := 46) hx hb dX4_worn_41 (by decide) (fun c_41 => ?_) (fun c_41 => ?_)
          · skip
            refine lv_aload_n hx hb dX4_worn_46 rfl (lv_at hl 2 rfl) ?_
            refine c_get (v := .ref (ad (1 + 10 * 1))) (C := RX4) (T := TX4) (N := 7) hx hb hts hin4 hown hK hP (0) (by decide) cE_0 rfl 1 (by decide) (Or.inl (hts (.fieldLink RX4 16 "PennyRoad" "ahead" "LPennyRoad$Road;") (by decide +kernel))) rfl dX4_worn_47 ?_
            refine wq_VN (host := "PennyRoad") S cK_ok hK hP hS (c_X0_passHour_r1 hm h8) gX4_worn_X0_passHour_n136 i_X0_passHour (c_nest hK 49 rfl) (hts (.initialized RX0) (by decide +kernel)) (hts (.instanceMethod yX0_passHour) (by decide +kernel)) (hts (.selects RX0 yX0_passHour yX0_passHour) (by decide +kernel)) (c_rec hK hP (1 + 10 * 1) (by decide) (cE_rd (by decide)) rfl) ⟨Nat.le_of_ble_eq_true rfl, Nat.le_of_ble_eq_true rfl⟩ rfl hl.1 (As := []) (rest := []) (st1 := []) rfl rfl (Nat.le_of_ble_eq_true rfl) ⟨Nat.le_of_ble_eq_true rfl, Nat.le_of_ble_eq_true rfl⟩ dX4_worn_50 (fun H locs hP hS => ?_)
            refine lv_iinc (v := nI (j + 1)) (lv' := [(3, .int (nI (j + 1))), (2, .ref (ad (3 + 10 * 1 + i))), (0, .ref (ad 0)), (1, .int (nI i))]) hx hb dX4_worn_53 hl (k := 0) rfl (nI_add _ _) (by decide) rfl (fun ls hl => ?_)
            refine lv_goto (tgt := 30) hx hb dX4_worn_56 (by decide) ?_
            exact ih_30 (j + 1) _ _ _ ls (by omega) (hourF_0.trans hm) (hF.trans (if_neg c_41)) hP hS hl
          · skip
            have hE : firstL N (5 + 8 * i + 3) (nI 0) 201 0 p0 = j := hF.trans (if_pos c_41)
            refine lv_iload_n hx hb dX4_worn_44 rfl (lv_at hl 0 rfl) ?_
            subst hQ
            exact cp_ri hx hb hr hlocks hP hS dX4_worn_45 (by first | (simp only [fnd, hcl_i, hE, c_5, if_neg c_34, if_pos c_41, Bool.false_eq_true, Bool.true_eq_false, and_true, true_and, false_and, and_false, and_self, not_true_eq_false, not_false_eq_true, if_true, if_false, reduceIte, or_false, false_or, true_or, or_true]; done) | (subst_vars; simp only [fnd, hcl_i, hE, c_5, if_neg c_34, if_pos c_41, Bool.false_eq_true, Bool.true_eq_false, and_true, true_and, false_and, and_false, and_self, not_true_eq_false, not_false_eq_true, if_true, if_false, reduceIte, or_false, false_or, true_or, or_true]; done) | (simp only [fnd, hcl_i, hE, c_5, if_neg c_34, if_pos c_41, Bool.false_eq_true, Bool.true_eq_false, and_true, true_and, false_and, and_false, and_self, not_true_eq_false, not_false_eq_true, if_true, if_false, reduceIte, or_false, false_or, true_or, or_true, if_pos (show j ≤ 200 by omega)]; done) | (simp only [fnd, hcl_i, hE, c_5, if_neg c_34, if_pos c_41, Bool.false_eq_true, Bool.true_eq_false, and_true, true_and, false_and, and_false, and_self, not_true_eq_false, not_false_eq_true, if_true, if_false, reduceIte, or_false, false_or, true_or, or_true, if_neg (show ¬ 201 ≤ 200 by decide)]; done)) (by first | (simp only [fnd, hcl_i, hE, c_5, if_neg c_34, if_pos c_41, Bool.false_eq_true, Bool.true_eq_false, and_true, true_and, false_and, and_false, and_self, not_true_eq_false, not_false_eq_true, if_true, if_false, reduceIte, or_false, false_or, true_or, or_true]; done) | (subst_vars; simp only [fnd, hcl_i, hE, c_5, if_neg c_34, if_pos c_41, Bool.false_eq_true, Bool.true_eq_false, and_true, true_and, false_and, and_false, and_self, not_true_eq_false, not_false_eq_true, if_true, if_false, reduceIte, or_false, false_or, true_or, or_true]; done) | (simp only [fnd, hcl_i, hE, c_5, if_neg c_34, if_pos c_41, Bool.false_eq_true, Bool.true_eq_false, and_true, true_and, false_and, and_false, and_self, not_true_eq_false, not_false_eq_true, if_true, if_false, reduceIte, or_false, false_or, true_or, or_true, if_pos (show j ≤ 200 by omega)]; done) | (simp only [fnd, hcl_i, hE, c_5, if_neg c_34, if_pos c_41, Bool.false_eq_true, Bool.true_eq_false, and_true, true_and, false_and, and_false, and_self, not_true_eq_false, not_false_eq_true, if_true, if_false, reduceIte, or_false, false_or, true_or, or_true, if_neg (show ¬ 201 ≤ 200 by decide)]; done))
    exact L_30 201 0 (cpn (5 + 8 * N) p0 p1) _ _ ls (by omega) ((cpn_0' (j := N)).trans hN) (first_l (by omega)).symm hP hS hl
  · skip
    refine lv_aload_n hx hb dX4_worn_8 rfl (lv_at hl 0 rfl) ?_
    refine lv_iconst (v := nI 0) hx hb dX4_worn_9 (by decide) ?_
    refine wq_V S cK_ok hK hP hS (c_X4_finding (t := 0) (by decide)) gX4_worn_X4_finding i_X4_finding rfl (c_rec hK hP 0 (by decide) cE_0 rfl) ⟨Nat.le_of_ble_eq_true rfl, Nat.le_of_ble_eq_true rfl⟩ rfl hl.1 (As := [.int (nI 0)]) (rest := []) (st1 := [.int ((-1000000001))]) rfl rfl (Nat.le_of_ble_eq_true rfl) ⟨Nat.le_of_ble_eq_true rfl, Nat.le_of_ble_eq_true rfl⟩ dX4_worn_10 (fun H locs hP hS => ?_)
    subst hQ
    exact cp_ri hx hb hr hlocks hP hS dX4_worn_13 (by first | (simp only [fnd, c_5, Bool.false_eq_true, Bool.true_eq_false, and_true, true_and, false_and, and_false, and_self, not_true_eq_false, not_false_eq_true, if_true, if_false, reduceIte, or_false, false_or, true_or, or_true]; done) | (subst_vars; simp only [fnd, c_5, Bool.false_eq_true, Bool.true_eq_false, and_true, true_and, false_and, and_false, and_self, not_true_eq_false, not_false_eq_true, if_true, if_false, reduceIte, or_false, false_or, true_or, or_true]; done) | (simp only [fnd, c_5, Bool.false_eq_true, Bool.true_eq_false, and_true, true_and, false_and, and_false, and_self, not_true_eq_false, not_false_eq_true, if_true, if_false, reduceIte, or_false, false_or, true_or, or_true, if_pos (show j ≤ 200 by omega)]; done) | (simp only [fnd, c_5, Bool.false_eq_true, Bool.true_eq_false, and_true, true_and, false_and, and_false, and_self, not_true_eq_false, not_false_eq_true, if_true, if_false, reduceIte, or_false, false_or, true_or, or_true, if_neg (show ¬ 201 ≤ 200 by decide)]; done)) (by first | (simp only [fnd, c_5, Bool.false_eq_true, Bool.true_eq_false, and_true, true_and, false_and, and_false, and_self, not_true_eq_false, not_false_eq_true, if_true, if_false, reduceIte, or_false, false_or, true_or, or_true]; done) | (subst_vars; simp only [fnd, c_5, Bool.false_eq_true, Bool.true_eq_false, and_true, true_and, false_and, and_false, and_self, not_true_eq_false, not_false_eq_true, if_true, if_false, reduceIte, or_false, false_or, true_or, or_true]; done) | (simp only [fnd, c_5, Bool.false_eq_true, Bool.true_eq_false, and_true, true_and, false_and, and_false, and_self, not_true_eq_false, not_false_eq_true, if_true, if_false, reduceIte, or_false, false_or, true_or, or_true, if_pos (show j ≤ 200 by omega)]; done) | (simp only [fnd, c_5, Bool.false_eq_true, Bool.true_eq_false, and_true, true_and, false_and, and_false, and_self, not_true_eq_false, not_false_eq_true, if_true, if_false, reduceIte, or_false, false_or, true_or, or_true, if_neg (show ¬ 201 ≤ 200 by decide)]; done))
theorem i_X4_worn : ciOk yX4_worn cX4_worn 4 (some .int) wsX4_worn 1 := ⟨⟨_, rfl⟩, by decide +kernel⟩
set_option maxHeartbeats 1000000 in
set_option maxRecDepth 100000 in
theorem c_X4_meet {l : Launch} {D : va_G} {cy : Nat → ClassId} {ad : Nat → Nat} {p0 : Nat → Int32} {p1 : Nat → Int32} {p2 : Nat → Int32} {ke : Int32} {tb : Nat → Int32} {t1 : Int32} {t2 : Int32} {t3 : Int32} {t4 : Int32} {t5 : Int32} {sb : Nat → Int32} {ss : Nat → Int32} {sw : Nat → Nat → Int64} {fd : Nat → Int32} {q : Int32} {o : Int32} {N : Nat} (hN : p0 0 = nI N) (h8 : N ≤ 8) : Met l yX4_meet wsX4_meet (rmz 4 88) (wPre D (cK D cy ad) (cw cy ad (rr p0 p1 p2) ke tb t1 t2 t3 t4 t5 sb ss sw fd) [.ref (ad 0), .int (q), .int (o)]) (cPub D cy ad (some (.int (if twoP N q o then (if meetL N q.toNatClampNeg o.toNatClampNeg 201 0 p0 ≤ 200 then nI (meetL N q.toNatClampNeg o.toNatClampNeg 201 0 p0) else -1000000004) else -1000000001))) p0 p2 ke tb t1 sb ss sw (if twoP N q o then (if meetL N q.toNatClampNeg o.toNatClampNeg 201 0 p0 ≤ 200 then fd else fnd fd 3) else fnd fd 0)) 0 0 (cA ad) := by
  refine wq_entry rfl rfl (Nat.le_of_ble_eq_true rfl) ?_
  intro p e s0 m args below meth c S hr hlocks hK hP ls hl
  have S : CallFix p m c cX4_meet 6 s0 args wsX4_meet RX4 := S
  obtain ⟨hx, hb, hml, hown, hts⟩ := id S
  have hin4 : ∀ w ∈ wsX40, w ∈ wsX4_meet := fun w h => List.mem_cons_of_mem _ (List.mem_append_left _ (List.mem_append_left _ (List.mem_append_right _ h)))
  have hin0 : ∀ w ∈ wsX00, w ∈ wsX4_meet := fun w h => List.mem_cons_of_mem _ (List.mem_append_left _ (List.mem_append_right _ h))
  have hin3 : ∀ w ∈ wsX30, w ∈ wsX4_meet := fun w h => List.mem_cons_of_mem _ (List.mem_append_right _ h)
  have hS : va_S (cA ad) s0.heap s0.heap [] := va_S.rf
  have hl : lv_has ls 6 [(0, .ref (ad 0)), (1, .int (q)), (2, .int (o))] := hl
  generalize hQ : MQ below (cPub D cy ad (some (.int (if twoP N q o then (if meetL N q.toNatClampNeg o.toNatClampNeg 201 0 p0 ≤ 200 then nI (meetL N q.toNatClampNeg o.toNatClampNeg 201 0 p0) else -1000000004) else -1000000001))) p0 p2 ke tb t1 sb ss sw (if twoP N q o then (if meetL N q.toNatClampNeg o.toNatClampNeg 201 0 p0 ≤ 200 then fd else fnd fd 3) else fnd fd 0)) args s0 0 0 (cA ad) = Q
  refine lv_aload_n hx hb dX4_meet_0 rfl (lv_at hl 0 rfl) ?_
  refine lv_iload_n hx hb dX4_meet_1 rfl (lv_at hl 1 rfl) ?_
  refine lv_iload_n hx hb dX4_meet_2 rfl (lv_at hl 2 rfl) ?_
  refine wq_V S cK_ok hK hP hS (c_X4_areTwo hN h8) gX4_meet_X4_areTwo i_X4_areTwo rfl (c_rec hK hP 0 (by decide) cE_0 rfl) ⟨Nat.le_of_ble_eq_true rfl, Nat.le_of_ble_eq_true rfl⟩ rfl hl.1 (As := [.int (q), .int (o)]) (rest := []) (st1 := [.int (z (twoP N (q) (o)))]) rfl rfl (Nat.le_of_ble_eq_true rfl) ⟨Nat.le_of_ble_eq_true rfl, Nat.le_of_ble_eq_true rfl⟩ dX4_meet_3 (fun H locs hP hS => ?_)
  refine lvz_if_ne (tgt := 15) hx hb dX4_meet_6 (by decide) (fun c_6 => ?_) (fun c_6 => ?_)
  · skip
    have hcq : isN N q = true := (twoP_sp c_6).1
    have hco : isN N o = true := (twoP_sp c_6).2.1
    have hne : ¬ q = o := (twoP_sp c_6).2.2
    obtain ⟨i, h_i, rfl⟩ := isN_ix h8 hcq
    have hcl_i : (nI i).toNatClampNeg = i := nI_clamp (by omega)
    obtain ⟨k, h_k, rfl⟩ := isN_ix h8 hco
    have hcl_k : (nI k).toNatClampNeg = k := nI_clamp (by omega)
    refine lv_aload_n hx hb dX4_meet_15 rfl (lv_at hl 0 rfl) ?_
    refine wq_V S cK_ok hK hP hS (c_X4_lookAhead hN h8) gX4_meet_X4_lookAhead i_X4_lookAhead rfl (c_rec hK hP 0 (by decide) cE_0 rfl) ⟨Nat.le_of_ble_eq_true rfl, Nat.le_of_ble_eq_true rfl⟩ rfl hl.1 (As := []) (rest := []) (st1 := []) rfl rfl (Nat.le_of_ble_eq_true rfl) ⟨Nat.le_of_ble_eq_true rfl, Nat.le_of_ble_eq_true rfl⟩ dX4_meet_16 (fun H locs hP hS => ?_)
    refine lv_aload_n hx hb dX4_meet_19 rfl (lv_at hl 0 rfl) ?_
    refine c_get (v := .ref (ad (1 + 10 * 1))) (C := RX4) (T := TX4) (N := 7) hx hb hts hin4 hown hK hP (0) (by decide) cE_0 rfl 1 (by decide) (Or.inl (hts (.fieldLink RX4 16 "PennyRoad" "ahead" "LPennyRoad$Road;") (by decide +kernel))) rfl dX4_meet_20 ?_
    refine c_get (v := .ref (ad (2 + 10 * 1))) (C := RX0) (T := TX0) (N := 6) hx hb hts hin0 hown hK hP (1 + 10 * 1) (by decide) (cE_rd (by decide)) rfl 5 (by decide) (Or.inr (c_nest hK 26 rfl)) rfl dX4_meet_23 ?_
    refine lv_iload_n hx hb dX4_meet_26 rfl (lv_at hl 1 rfl) ?_
    refine c_aldW hx hb hK hP 1 (by decide) (by omega) dX4_meet_27 ?_
    refine lv_astore_n (lv' := [(3, .ref (ad (3 + 10 * 1 + i))), (0, .ref (ad 0)), (1, .int (nI i)), (2, .int (nI k))]) hx hb dX4_meet_28 rfl hl (by decide) rfl (fun ls hl => ?_)
    refine lv_aload_n hx hb dX4_meet_29 rfl (lv_at hl 1 rfl) ?_
    refine c_get (v := .ref (ad (1 + 10 * 1))) (C := RX4) (T := TX4) (N := 7) hx hb hts hin4 hown hK hP (0) (by decide) cE_0 rfl 1 (by decide) (Or.inl (hts (.fieldLink RX4 16 "PennyRoad" "ahead" "LPennyRoad$Road;") (by decide +kernel))) rfl dX4_meet_30 ?_
    refine c_get (v := .ref (ad (2 + 10 * 1))) (C := RX0) (T := TX0) (N := 6) hx hb hts hin0 hown hK hP (1 + 10 * 1) (by decide) (cE_rd (by decide)) rfl 5 (by decide) (Or.inr (c_nest hK 26 rfl)) rfl dX4_meet_33 ?_
    refine lv_iload_n hx hb dX4_meet_36 rfl (lv_at hl 3 rfl) ?_
    refine c_aldW hx hb hK hP 1 (by decide) (by omega) dX4_meet_37 ?_
    refine lv_astore (lv' := [(4, .ref (ad (3 + 10 * 1 + k))), (3, .ref (ad (3 + 10 * 1 + i))), (0, .ref (ad 0)), (1, .int (nI i)), (2, .int (nI k))]) hx hb dX4_meet_38 hl (by decide) rfl (fun ls hl => ?_)
    refine lv_iconst (v := nI 0) hx hb dX4_meet_40 (by decide) ?_
    refine lv_istore (lv' := [(5, .int (nI 0)), (4, .ref (ad (3 + 10 * 1 + k))), (3, .ref (ad (3 + 10 * 1 + i))), (0, .ref (ad 0)), (1, .int (nI i)), (2, .int (nI k))]) hx hb dX4_meet_41 hl (by decide) rfl (fun ls hl => ?_)
    have L_43 : ∀ (n : Nat) (j : Nat) (sz : Nat → Int32) (H : Heap) (locs : List Loc) (ls : Array Slot), (j + n = 201) → (sz 0 = nI N) → (meetL N i k 201 0 p0 = meetL N i k n j sz) → va_P D vwCl (cw cy ad (rr p0 sz p2) ke tb t1 t2 t3 t4 t5 sb ss sw fd) H → va_S (cA ad) s0.heap H locs → lv_has ls 6 [(5, .int (nI j)), (4, .ref (ad (3 + 10 * 1 + k))), (3, .ref (ad (3 + 10 * 1 + i))), (0, .ref (ad 0)), (1, .int (nI i)), (2, .int (nI k))] → W p l e (rmz 4 88) s0 m args below meth c H locs 0 0 Q (F0 m 43 ls []) := by
      intro n
      induction n with
      | zero =>
        intro j sz H locs ls hj hm hF hP hS hl
        refine lv_iload hx hb dX4_meet_43 (lv_at hl 0 rfl) ?_
        refine lv_sipush (v := nI 200) hx hb dX4_meet_45 (by decide) ?_
        refine lvn_icmp_gt (tgt := 79) hx hb dX4_meet_48 (by decide) (by omega) (by omega) (fun c_48 => ?_) (fun c_48 => ?_)
        · skip
          have hE : meetL N i k 201 0 p0 = 201 := by
            have hF : meetL N i k 201 0 p0 = j := hF
            omega
          refine lv_aload_n hx hb dX4_meet_79 rfl (lv_at hl 3 rfl) ?_
          refine lv_iconst (v := nI 3) hx hb dX4_meet_80 (by decide) ?_
          refine wq_V S cK_ok hK hP hS (c_X4_finding (t := 3) (by decide)) gX4_meet_X4_finding i_X4_finding rfl (c_rec hK hP 0 (by decide) cE_0 rfl) ⟨Nat.le_of_ble_eq_true rfl, Nat.le_of_ble_eq_true rfl⟩ rfl hl.1 (As := [.int (nI 3)]) (rest := []) (st1 := [.int ((-1000000004))]) rfl rfl (Nat.le_of_ble_eq_true rfl) ⟨Nat.le_of_ble_eq_true rfl, Nat.le_of_ble_eq_true rfl⟩ dX4_meet_81 (fun H locs hP hS => ?_)
          subst hQ
          exact cp_ri hx hb hr hlocks hP hS dX4_meet_84 (by first | (simp only [fnd, hcl_i, hcl_k, hE, c_6, if_pos c_48, Bool.false_eq_true, Bool.true_eq_false, and_true, true_and, false_and, and_false, and_self, not_true_eq_false, not_false_eq_true, if_true, if_false, reduceIte, or_false, false_or, true_or, or_true]; done) | (subst_vars; simp only [fnd, hcl_i, hcl_k, hE, c_6, if_pos c_48, Bool.false_eq_true, Bool.true_eq_false, and_true, true_and, false_and, and_false, and_self, not_true_eq_false, not_false_eq_true, if_true, if_false, reduceIte, or_false, false_or, true_or, or_true]; done) | (simp only [fnd, hcl_i, hcl_k, hE, c_6, if_pos c_48, Bool.false_eq_true, Bool.true_eq_false, and_true, true_and, false_and, and_false, and_self, not_true_eq_false, not_false_eq_true, if_true, if_false, reduceIte, or_false, false_or, true_or, or_true, if_pos (show j ≤ 200 by omega)]; done) | (simp only [fnd, hcl_i, hcl_k, hE, c_6, if_pos c_48, Bool.false_eq_true, Bool.true_eq_false, and_true, true_and, false_and, and_false, and_self, not_true_eq_false, not_false_eq_true, if_true, if_false, reduceIte, or_false, false_or, true_or, or_true, if_neg (show ¬ 201 ≤ 200 by decide)]; done)) (by first | (simp only [fnd, hcl_i, hcl_k, hE, c_6, if_pos c_48, Bool.false_eq_true, Bool.true_eq_false, and_true, true_and, false_and, and_false, and_self, not_true_eq_false, not_false_eq_true, if_true, if_false, reduceIte, or_false, false_or, true_or, or_true]; done) | (subst_vars; simp only [fnd, hcl_i, hcl_k, hE, c_6, if_pos c_48, Bool.false_eq_true, Bool.true_eq_false, and_true, true_and, false_and, and_false, and_self, not_true_eq_false, not_false_eq_true, if_true, if_false, reduceIte, or_false, false_or, true_or, or_true]; done) | (simp only [fnd, hcl_i, hcl_k, hE, c_6, if_pos c_48, Bool.false_eq_true, Bool.true_eq_false, and_true, true_and, false_and, and_false, and_self, not_true_eq_false, not_false_eq_true, if_true, if_false, reduceIte, or_false, false_or, true_or, or_true, if_pos (show j ≤ 200 by omega)]; done) | (simp only [fnd, hcl_i, hcl_k, hE, c_6, if_pos c_48, Bool.false_eq_true, Bool.true_eq_false, and_true, true_and, false_and, and_false, and_self, not_true_eq_false, not_false_eq_true, if_true, if_false, reduceIte, or_false, false_or, true_or, or_true, if_neg (show ¬ 201 ≤ 200 by decide)]; done))
        · skip
          exfalso; omega
      | succ n ih_43 =>
        intro j sz H locs ls hj hm hF hP hS hl
        refine lv_iload hx hb dX4_meet_43 (lv_at hl 0 rfl) ?_
        refine lv_sipush (v := nI 200) hx hb dX4_meet_45 (by decide) ?_
        refine lvn_icmp_gt (tgt := 79) hx hb dX4_meet_48 (by decide) (by omega) (by omega) (fun c_48 => ?_) (fun c_48 => ?_)
        · skip
          exfalso; omega
        · skip
          refine lv_aload_n hx hb dX4_meet_51 rfl (lv_at hl 2 rfl) ?_
          refine c_get (v := .int (sz (5 + 8 * i + 1))) (C := RX3) (T := TX3) (N := 8) hx hb hts hin3 hown hK hP (3 + 10 * 1 + i) (by omega) (cE_wk (by decide) (by omega)) rfl 1 (by decide) (Or.inr (c_nest hK 2 rfl)) rfl dX4_meet_52 ?_
          refine lv_aload hx hb dX4_meet_55 (lv_at hl 1 rfl) ?_
          refine c_get (v := .int (sz (5 + 8 * k + 1))) (C := RX3) (T := TX3) (N := 8) hx hb hts hin3 hown hK hP (3 + 10 * 1 + k) (by omega) (cE_wk (by decide) (by omega)) rfl 1 (by decide) (Or.inr (c_nest hK 2 rfl)) rfl dX4_meet_57 ?_
          refine lv_icmp_ne (tgt := 66) hx hb dX4_meet_60 (by decide) (fun c_60 => ?_) (fun c_60 => ?_)
          · skip
            refine lv_aload_n hx hb dX4_meet_66 rfl (lv_at hl 3 rfl) ?_
            refine c_get (v := .ref (ad (1 + 10 * 1))) (C := RX4) (T := TX4) (N := 7) hx hb hts hin4 hown hK hP (0) (by decide) cE_0 rfl 1 (by decide) (Or.inl (hts (.fieldLink RX4 16 "PennyRoad" "ahead" "LPennyRoad$Road;") (by decide +kernel))) rfl dX4_meet_67 ?_
            refine wq_VN (host := "PennyRoad") S cK_ok hK hP hS (c_X0_passHour_r1 hm h8) gX4_meet_X0_passHour_n136 i_X0_passHour (c_nest hK 49 rfl) (hts (.initialized RX0) (by decide +kernel)) (hts (.instanceMethod yX0_passHour) (by decide +kernel)) (hts (.selects RX0 yX0_passHour yX0_passHour) (by decide +kernel)) (c_rec hK hP (1 + 10 * 1) (by decide) (cE_rd (by decide)) rfl) ⟨Nat.le_of_ble_eq_true rfl, Nat.le_of_ble_eq_true rfl⟩ rfl hl.1 (As := []) (rest := []) (st1 := []) rfl rfl (Nat.le_of_ble_eq_true rfl) ⟨Nat.le_of_ble_eq_true rfl, Nat.le_of_ble_eq_true rfl⟩ dX4_meet_70 (fun H locs hP hS => ?_)
            refine lv_iinc (v := nI (j + 1)) (lv' := [(5, .int (nI (j + 1))), (4, .ref (ad (3 + 10 * 1 + k))), (3, .ref (ad (3 + 10 * 1 + i))), (0, .ref (ad 0)), (1, .int (nI i)), (2, .int (nI k))]) hx hb dX4_meet_73 hl (k := 0) rfl (nI_add _ _) (by decide) rfl (fun ls hl => ?_)
            refine lv_goto (tgt := 43) hx hb dX4_meet_76 (by decide) ?_
            exact ih_43 (j + 1) _ _ _ ls (by omega) (hourF_0.trans hm) (hF.trans (if_neg c_60)) hP hS hl
          · skip
            have hE : meetL N i k 201 0 p0 = j := hF.trans (if_pos c_60)
            refine lv_iload hx hb dX4_meet_63 (lv_at hl 0 rfl) ?_
            subst hQ
            exact cp_ri hx hb hr hlocks hP hS dX4_meet_65 (by first | (simp only [fnd, hcl_i, hcl_k, hE, c_6, if_neg c_48, if_pos c_60, Bool.false_eq_true, Bool.true_eq_false, and_true, true_and, false_and, and_false, and_self, not_true_eq_false, not_false_eq_true, if_true, if_false, reduceIte, or_false, false_or, true_or, or_true]; done) | (subst_vars; simp only [fnd, hcl_i, hcl_k, hE, c_6, if_neg c_48, if_pos c_60, Bool.false_eq_true, Bool.true_eq_false, and_true, true_and, false_and, and_false, and_self, not_true_eq_false, not_false_eq_true, if_true, if_false, reduceIte, or_false, false_or, true_or, or_true]; done) | (simp only [fnd, hcl_i, hcl_k, hE, c_6, if_neg c_48, if_pos c_60, Bool.false_eq_true, Bool.true_eq_false, and_true, true_and, false_and, and_false, and_self, not_true_eq_false, not_false_eq_true, if_true, if_false, reduceIte, or_false, false_or, true_or, or_true, if_pos (show j ≤ 200 by omega)]; done) | (simp only [fnd, hcl_i, hcl_k, hE, c_6, if_neg c_48, if_pos c_60, Bool.false_eq_true, Bool.true_eq_false, and_true, true_and, false_and, and_false, and_self, not_true_eq_false, not_false_eq_true, if_true, if_false, reduceIte, or_false, false_or, true_or, or_true, if_neg (show ¬ 201 ≤ 200 by decide)]; done)) (by first | (simp only [fnd, hcl_i, hcl_k, hE, c_6, if_neg c_48, if_pos c_60, Bool.false_eq_true, Bool.true_eq_false, and_true, true_and, false_and, and_false, and_self, not_true_eq_false, not_false_eq_true, if_true, if_false, reduceIte, or_false, false_or, true_or, or_true]; done) | (subst_vars; simp only [fnd, hcl_i, hcl_k, hE, c_6, if_neg c_48, if_pos c_60, Bool.false_eq_true, Bool.true_eq_false, and_true, true_and, false_and, and_false, and_self, not_true_eq_false, not_false_eq_true, if_true, if_false, reduceIte, or_false, false_or, true_or, or_true]; done) | (simp only [fnd, hcl_i, hcl_k, hE, c_6, if_neg c_48, if_pos c_60, Bool.false_eq_true, Bool.true_eq_false, and_true, true_and, false_and, and_false, and_self, not_true_eq_false, not_false_eq_true, if_true, if_false, reduceIte, or_false, false_or, true_or, or_true, if_pos (show j ≤ 200 by omega)]; done) | (simp only [fnd, hcl_i, hcl_k, hE, c_6, if_neg c_48, if_pos c_60, Bool.false_eq_true, Bool.true_eq_false, and_true, true_and, false_and, and_false, and_self, not_true_eq_false, not_false_eq_true, if_true, if_false, reduceIte, or_false, false_or, true_or, or_true, if_neg (show ¬ 201 ≤ 200 by decide)]; done))
    exact L_43 201 0 (cpn (5 + 8 * N) p0 p1) _ _ ls (by omega) ((cpn_0' (j := N)).trans hN) (meet_l (by omega) (by omega)).symm hP hS hl
  · skip
    refine lv_aload_n hx hb dX4_meet_9 rfl (lv_at hl 0 rfl) ?_
    refine lv_iconst (v := nI 0) hx hb dX4_meet_10 (by decide) ?_
    refine wq_V S cK_ok hK hP hS (c_X4_finding (t := 0) (by decide)) gX4_meet_X4_finding i_X4_finding rfl (c_rec hK hP 0 (by decide) cE_0 rfl) ⟨Nat.le_of_ble_eq_true rfl, Nat.le_of_ble_eq_true rfl⟩ rfl hl.1 (As := [.int (nI 0)]) (rest := []) (st1 := [.int ((-1000000001))]) rfl rfl (Nat.le_of_ble_eq_true rfl) ⟨Nat.le_of_ble_eq_true rfl, Nat.le_of_ble_eq_true rfl⟩ dX4_meet_11 (fun H locs hP hS => ?_)
    subst hQ
    exact cp_ri hx hb hr hlocks hP hS dX4_meet_14 (by first | (simp only [fnd, c_6, Bool.false_eq_true, Bool.true_eq_false, and_true, true_and, false_and, and_false, and_self, not_true_eq_false, not_false_eq_true, if_true, if_false, reduceIte, or_false, false_or, true_or, or_true]; done) | (subst_vars; simp only [fnd, c_6, Bool.false_eq_true, Bool.true_eq_false, and_true, true_and, false_and, and_false, and_self, not_true_eq_false, not_false_eq_true, if_true, if_false, reduceIte, or_false, false_or, true_or, or_true]; done) | (simp only [fnd, c_6, Bool.false_eq_true, Bool.true_eq_false, and_true, true_and, false_and, and_false, and_self, not_true_eq_false, not_false_eq_true, if_true, if_false, reduceIte, or_false, false_or, true_or, or_true, if_pos (show j ≤ 200 by omega)]; done) | (simp only [fnd, c_6, Bool.false_eq_true, Bool.true_eq_false, and_true, true_and, false_and, and_false, and_self, not_true_eq_false, not_false_eq_true, if_true, if_false, reduceIte, or_false, false_or, true_or, or_true, if_neg (show ¬ 201 ≤ 200 by decide)]; done)) (by first | (simp only [fnd, c_6, Bool.false_eq_true, Bool.true_eq_false, and_true, true_and, false_and, and_false, and_self, not_true_eq_false, not_false_eq_true, if_true, if_false, reduceIte, or_false, false_or, true_or, or_true]; done) | (subst_vars; simp only [fnd, c_6, Bool.false_eq_true, Bool.true_eq_false, and_true, true_and, false_and, and_false, and_self, not_true_eq_false, not_false_eq_true, if_true, if_false, reduceIte, or_false, false_or, true_or, or_true]; done) | (simp only [fnd, c_6, Bool.false_eq_true, Bool.true_eq_false, and_true, true_and, false_and, and_false, and_self, not_true_eq_false, not_false_eq_true, if_true, if_false, reduceIte, or_false, false_or, true_or, or_true, if_pos (show j ≤ 200 by omega)]; done) | (simp only [fnd, c_6, Bool.false_eq_true, Bool.true_eq_false, and_true, true_and, false_and, and_false, and_self, not_true_eq_false, not_false_eq_true, if_true, if_false, reduceIte, or_false, false_or, true_or, or_true, if_neg (show ¬ 201 ≤ 200 by decide)]; done))
theorem i_X4_meet : ciOk yX4_meet cX4_meet 6 (some .int) wsX4_meet 2 := ⟨⟨_, rfl⟩, by decide +kernel⟩
set_option maxHeartbeats 1000000 in
set_option maxRecDepth 100000 in
theorem c_X4_penny {l : Launch} {D : va_G} {cy : Nat → ClassId} {ad : Nat → Nat} {p0 : Nat → Int32} {p1 : Nat → Int32} {p2 : Nat → Int32} {ke : Int32} {tb : Nat → Int32} {t1 : Int32} {t2 : Int32} {t3 : Int32} {t4 : Int32} {t5 : Int32} {sb : Nat → Int32} {ss : Nat → Int32} {sw : Nat → Nat → Int64} {fd : Nat → Int32} {q : Int32} {v : Int32} {N : Nat} (hN : p0 0 = nI N) (h8 : N ≤ 8) : Met l yX4_penny wsX4_penny (rmz 5 110) (wPre D (cK D cy ad) (cw cy ad (rr p0 p1 p2) ke tb t1 t2 t3 t4 t5 sb ss sw fd) [.ref (ad 0), .int (q), .int (v)]) (cPub D cy ad (some (.int (if rg 1 100 q ∧ rg 0 999999 v then (if 0 ≤ pennyL N q.toNatClampNeg v p0 21 then pennyL N q.toNatClampNeg v p0 21 else -1000000004) else -1000000001))) p0 p2 ke tb t1 sb ss sw (if rg 1 100 q ∧ rg 0 999999 v then (if 0 ≤ pennyL N q.toNatClampNeg v p0 21 then fd else fnd fd 3) else fnd fd 0)) 0 0 (cA ad) := by
  refine wq_entry rfl rfl (Nat.le_of_ble_eq_true rfl) ?_
  intro p e s0 m args below meth c S hr hlocks hK hP ls hl
  have S : CallFix p m c cX4_penny 4 s0 args wsX4_penny RX4 := S
  obtain ⟨hx, hb, hml, hown, hts⟩ := id S
  have hin4 : ∀ w ∈ wsX40, w ∈ wsX4_penny := fun w h => List.mem_cons_of_mem _ (List.mem_append_left _ (List.mem_append_left _ (List.mem_append_right _ h)))
  have hin0 : ∀ w ∈ wsX00, w ∈ wsX4_penny := fun w h => List.mem_cons_of_mem _ (List.mem_append_left _ (List.mem_append_right _ h))
  have hin3 : ∀ w ∈ wsX30, w ∈ wsX4_penny := fun w h => List.mem_cons_of_mem _ (List.mem_append_right _ h)
  have hS : va_S (cA ad) s0.heap s0.heap [] := va_S.rf
  have hl : lv_has ls 4 [(0, .ref (ad 0)), (1, .int (q)), (2, .int (v))] := hl
  generalize hQ : MQ below (cPub D cy ad (some (.int (if rg 1 100 q ∧ rg 0 999999 v then (if 0 ≤ pennyL N q.toNatClampNeg v p0 21 then pennyL N q.toNatClampNeg v p0 21 else -1000000004) else -1000000001))) p0 p2 ke tb t1 sb ss sw (if rg 1 100 q ∧ rg 0 999999 v then (if 0 ≤ pennyL N q.toNatClampNeg v p0 21 then fd else fnd fd 3) else fnd fd 0)) args s0 0 0 (cA ad) = Q
  refine lv_iload_n hx hb dX4_penny_0 rfl (lv_at hl 1 rfl) ?_
  refine lv_iconst (v := nI 1) hx hb dX4_penny_1 (by decide) ?_
  refine lv_bipush (v := nI 100) hx hb dX4_penny_2 (by decide) ?_
  refine sq_S S (c_X4_withinN (by decide) (by decide)) gX4_penny_X4_within i_X4_within ⟨Nat.le_of_ble_eq_true rfl, Nat.le_of_ble_eq_true rfl⟩ rfl hl.1 (As := [.int (q), .int (nI 1), .int (nI 100)]) (rest := []) (st1 := [.int (z (rg 1 100 (q)))]) rfl rfl (Nat.le_of_ble_eq_true rfl) ⟨Nat.le_of_ble_eq_true rfl, Nat.le_of_ble_eq_true rfl⟩ dX4_penny_4 ?_
  refine lvz_if_eq (tgt := 20) hx hb dX4_penny_7 (by decide) (fun c_7 => ?_) (fun c_7 => ?_)
  · skip
    refine lv_aload_n hx hb dX4_penny_20 rfl (lv_at hl 0 rfl) ?_
    refine lv_iconst (v := nI 0) hx hb dX4_penny_21 (by decide) ?_
    refine wq_V S cK_ok hK hP hS (c_X4_finding (t := 0) (by decide)) gX4_penny_X4_finding i_X4_finding rfl (c_rec hK hP 0 (by decide) cE_0 rfl) ⟨Nat.le_of_ble_eq_true rfl, Nat.le_of_ble_eq_true rfl⟩ rfl hl.1 (As := [.int (nI 0)]) (rest := []) (st1 := [.int ((-1000000001))]) rfl rfl (Nat.le_of_ble_eq_true rfl) ⟨Nat.le_of_ble_eq_true rfl, Nat.le_of_ble_eq_true rfl⟩ dX4_penny_22 (fun H locs hP hS => ?_)
    subst hQ
    exact cp_ri hx hb hr hlocks hP hS dX4_penny_25 (by first | (simp only [fnd, c_7, Bool.false_eq_true, Bool.true_eq_false, and_true, true_and, false_and, and_false, and_self, not_true_eq_false, not_false_eq_true, if_true, if_false, reduceIte, or_false, false_or, true_or, or_true]; done) | (subst_vars; simp only [fnd, c_7, Bool.false_eq_true, Bool.true_eq_false, and_true, true_and, false_and, and_false, and_self, not_true_eq_false, not_false_eq_true, if_true, if_false, reduceIte, or_false, false_or, true_or, or_true]; done) | (simp only [fnd, c_7, Bool.false_eq_true, Bool.true_eq_false, and_true, true_and, false_and, and_false, and_self, not_true_eq_false, not_false_eq_true, if_true, if_false, reduceIte, or_false, false_or, true_or, or_true, if_pos (pos_le (show n < 2 ^ 31 by omega))]; done) | (simp only [fnd, c_7, Bool.false_eq_true, Bool.true_eq_false, and_true, true_and, false_and, and_false, and_self, not_true_eq_false, not_false_eq_true, if_true, if_false, reduceIte, or_false, false_or, true_or, or_true, if_pos (pos_le (show j < 2 ^ 31 by omega))]; done) | (simp only [fnd, c_7, Bool.false_eq_true, Bool.true_eq_false, and_true, true_and, false_and, and_false, and_self, not_true_eq_false, not_false_eq_true, if_true, if_false, reduceIte, or_false, false_or, true_or, or_true, if_neg (show ¬ (0 : Int32) ≤ -1 by decide)]; done)) (by first | (simp only [fnd, c_7, Bool.false_eq_true, Bool.true_eq_false, and_true, true_and, false_and, and_false, and_self, not_true_eq_false, not_false_eq_true, if_true, if_false, reduceIte, or_false, false_or, true_or, or_true]; done) | (subst_vars; simp only [fnd, c_7, Bool.false_eq_true, Bool.true_eq_false, and_true, true_and, false_and, and_false, and_self, not_true_eq_false, not_false_eq_true, if_true, if_false, reduceIte, or_false, false_or, true_or, or_true]; done) | (simp only [fnd, c_7, Bool.false_eq_true, Bool.true_eq_false, and_true, true_and, false_and, and_false, and_self, not_true_eq_false, not_false_eq_true, if_true, if_false, reduceIte, or_false, false_or, true_or, or_true, if_pos (pos_le (show n < 2 ^ 31 by omega))]; done) | (simp only [fnd, c_7, Bool.false_eq_true, Bool.true_eq_false, and_true, true_and, false_and, and_false, and_self, not_true_eq_false, not_false_eq_true, if_true, if_false, reduceIte, or_false, false_or, true_or, or_true, if_pos (pos_le (show j < 2 ^ 31 by omega))]; done) | (simp only [fnd, c_7, Bool.false_eq_true, Bool.true_eq_false, and_true, true_and, false_and, and_false, and_self, not_true_eq_false, not_false_eq_true, if_true, if_false, reduceIte, or_false, false_or, true_or, or_true, if_neg (show ¬ (0 : Int32) ≤ -1 by decide)]; done))
  · skip
    refine lv_iload_n hx hb dX4_penny_10 rfl (lv_at hl 2 rfl) ?_
    refine lv_iconst (v := nI 0) hx hb dX4_penny_11 (by decide) ?_
    refine lv_ldc (v := nI 999999) hx hb hown (hts (.constant RX4 150 (nI 999999)) (by decide +kernel)) dX4_penny_12 ?_
    refine sq_S S (c_X4_withinN (by decide) (by decide)) gX4_penny_X4_within i_X4_within ⟨Nat.le_of_ble_eq_true rfl, Nat.le_of_ble_eq_true rfl⟩ rfl hl.1 (As := [.int (v), .int (nI 0), .int (nI 999999)]) (rest := []) (st1 := [.int (z (rg 0 999999 (v)))]) rfl rfl (Nat.le_of_ble_eq_true rfl) ⟨Nat.le_of_ble_eq_true rfl, Nat.le_of_ble_eq_true rfl⟩ dX4_penny_14 ?_
    refine lvz_if_ne (tgt := 26) hx hb dX4_penny_17 (by decide) (fun c_17 => ?_) (fun c_17 => ?_)
    · skip
      obtain ⟨i, h_i, h_i2, rfl⟩ := rg_ix (a := 1) (b := 100) (by decide) c_7
      have hcl_i : (nI i).toNatClampNeg = i := nI_clamp (by omega)
      refine lv_bipush (v := nI 20) hx hb dX4_penny_26 (by decide) ?_
      refine lv_istore_n (lv' := [(3, .int (nI 20)), (0, .ref (ad 0)), (1, .int (nI i)), (2, .int (v))]) hx hb dX4_penny_28 rfl hl (by decide) rfl (fun ls hl => ?_)
      have L_29 : ∀ (n : Nat) (aa : Nat → Int32) (H : Heap) (locs : List Loc) (ls : Array Slot), (n ≤ 21) → (pennyL N i v p0 21 = pennyL N i v p0 n) → va_P D vwCl (cw cy ad (rr p0 aa p2) ke tb t1 t2 t3 t4 t5 sb ss sw fd) H → va_S (cA ad) s0.heap H locs → lv_has ls 4 [(3, .int (pm n)), (0, .ref (ad 0)), (1, .int (nI i)), (2, .int (v))] → W p l e (rmz 5 110) s0 m args below meth c H locs 0 0 Q (F0 m 29 ls []) := by
        intro n
        induction n with
        | zero =>
          intro aa H locs ls hn hF hP hS hl
          have hl : lv_has ls 4 [(3, .int ((-1))), (0, .ref (ad 0)), (1, .int (nI i)), (2, .int (v))] := hl
          refine lv_iload_n hx hb dX4_penny_29 rfl (lv_at hl 0 rfl) ?_
          refine lv_if_lt (tgt := 72) hx hb dX4_penny_30 (by decide) (fun c_30 => ?_) (fun c_30 => ?_)
          · skip
            have hE : pennyL N i v p0 21 = -1 := hF
            refine lv_aload_n hx hb dX4_penny_72 rfl (lv_at hl 1 rfl) ?_
            refine lv_iconst (v := nI 3) hx hb dX4_penny_73 (by decide) ?_
            refine wq_V S cK_ok hK hP hS (c_X4_finding (t := 3) (by decide)) gX4_penny_X4_finding i_X4_finding rfl (c_rec hK hP 0 (by decide) cE_0 rfl) ⟨Nat.le_of_ble_eq_true rfl, Nat.le_of_ble_eq_true rfl⟩ rfl hl.1 (As := [.int (nI 3)]) (rest := []) (st1 := [.int ((-1000000004))]) rfl rfl (Nat.le_of_ble_eq_true rfl) ⟨Nat.le_of_ble_eq_true rfl, Nat.le_of_ble_eq_true rfl⟩ dX4_penny_74 (fun H locs hP hS => ?_)
            subst hQ
            exact cp_ri hx hb hr hlocks hP hS dX4_penny_77 (by first | (simp only [fnd, hcl_i, hE, c_7, c_17, if_pos c_30, Bool.false_eq_true, Bool.true_eq_false, and_true, true_and, false_and, and_false, and_self, not_true_eq_false, not_false_eq_true, if_true, if_false, reduceIte, or_false, false_or, true_or, or_true]; done) | (subst_vars; simp only [fnd, hcl_i, hE, c_7, c_17, if_pos c_30, Bool.false_eq_true, Bool.true_eq_false, and_true, true_and, false_and, and_false, and_self, not_true_eq_false, not_false_eq_true, if_true, if_false, reduceIte, or_false, false_or, true_or, or_true]; done) | (simp only [fnd, hcl_i, hE, c_7, c_17, if_pos c_30, Bool.false_eq_true, Bool.true_eq_false, and_true, true_and, false_and, and_false, and_self, not_true_eq_false, not_false_eq_true, if_true, if_false, reduceIte, or_false, false_or, true_or, or_true, if_pos (pos_le (show n < 2 ^ 31 by omega))]; done) | (simp only [fnd, hcl_i, hE, c_7, c_17, if_pos c_30, Bool.false_eq_true, Bool.true_eq_false, and_true, true_and, false_and, and_false, and_self, not_true_eq_false, not_false_eq_true, if_true, if_false, reduceIte, or_false, false_or, true_or, or_true, if_pos (pos_le (show j < 2 ^ 31 by omega))]; done) | (simp only [fnd, hcl_i, hE, c_7, c_17, if_pos c_30, Bool.false_eq_true, Bool.true_eq_false, and_true, true_and, false_and, and_false, and_self, not_true_eq_false, not_false_eq_true, if_true, if_false, reduceIte, or_false, false_or, true_or, or_true, if_neg (show ¬ (0 : Int32) ≤ -1 by decide)]; done)) (by first | (simp only [fnd, hcl_i, hE, c_7, c_17, if_pos c_30, Bool.false_eq_true, Bool.true_eq_false, and_true, true_and, false_and, and_false, and_self, not_true_eq_false, not_false_eq_true, if_true, if_false, reduceIte, or_false, false_or, true_or, or_true]; done) | (subst_vars; simp only [fnd, hcl_i, hE, c_7, c_17, if_pos c_30, Bool.false_eq_true, Bool.true_eq_false, and_true, true_and, false_and, and_false, and_self, not_true_eq_false, not_false_eq_true, if_true, if_false, reduceIte, or_false, false_or, true_or, or_true]; done) | (simp only [fnd, hcl_i, hE, c_7, c_17, if_pos c_30, Bool.false_eq_true, Bool.true_eq_false, and_true, true_and, false_and, and_false, and_self, not_true_eq_false, not_false_eq_true, if_true, if_false, reduceIte, or_false, false_or, true_or, or_true, if_pos (pos_le (show n < 2 ^ 31 by omega))]; done) | (simp only [fnd, hcl_i, hE, c_7, c_17, if_pos c_30, Bool.false_eq_true, Bool.true_eq_false, and_true, true_and, false_and, and_false, and_self, not_true_eq_false, not_false_eq_true, if_true, if_false, reduceIte, or_false, false_or, true_or, or_true, if_pos (pos_le (show j < 2 ^ 31 by omega))]; done) | (simp only [fnd, hcl_i, hE, c_7, c_17, if_pos c_30, Bool.false_eq_true, Bool.true_eq_false, and_true, true_and, false_and, and_false, and_self, not_true_eq_false, not_false_eq_true, if_true, if_false, reduceIte, or_false, false_or, true_or, or_true, if_neg (show ¬ (0 : Int32) ≤ -1 by decide)]; done))
          · skip
            exact absurd c_30 (by decide)
        | succ n ih_29 =>
          intro aa H locs ls hn hF hP hS hl
          have hl : lv_has ls 4 [(3, .int (nI n)), (0, .ref (ad 0)), (1, .int (nI i)), (2, .int (v))] := hl
          refine lv_iload_n hx hb dX4_penny_29 rfl (lv_at hl 0 rfl) ?_
          refine lv_if_lt (tgt := 72) hx hb dX4_penny_30 (by decide) (fun c_30 => ?_) (fun c_30 => ?_)
          · skip
            exact absurd c_30 (nI_pos (by omega))
          · skip
            refine lv_aload_n hx hb dX4_penny_33 rfl (lv_at hl 1 rfl) ?_
            refine wq_V S cK_ok hK hP hS (c_X4_lookAhead hN h8) gX4_penny_X4_lookAhead i_X4_lookAhead rfl (c_rec hK hP 0 (by decide) cE_0 rfl) ⟨Nat.le_of_ble_eq_true rfl, Nat.le_of_ble_eq_true rfl⟩ rfl hl.1 (As := []) (rest := []) (st1 := []) rfl rfl (Nat.le_of_ble_eq_true rfl) ⟨Nat.le_of_ble_eq_true rfl, Nat.le_of_ble_eq_true rfl⟩ dX4_penny_34 (fun H locs hP hS => ?_)
            refine lv_aload_n hx hb dX4_penny_37 rfl (lv_at hl 1 rfl) ?_
            refine c_get (v := .ref (ad (1 + 10 * 1))) (C := RX4) (T := TX4) (N := 7) hx hb hts hin4 hown hK hP (0) (by decide) cE_0 rfl 1 (by decide) (Or.inl (hts (.fieldLink RX4 16 "PennyRoad" "ahead" "LPennyRoad$Road;") (by decide +kernel))) rfl dX4_penny_38 ?_
            refine lv_iload_n hx hb dX4_penny_41 rfl (lv_at hl 0 rfl) ?_
            refine c_put (w' := (cw cy ad (rr p0 (upd (cpn (5 + 8 * N) p0 aa) 3 (nI n)) p2) ke tb t1 t2 t3 t4 t5 sb ss sw fd)) (ty := .int) (C := RX0) (T := TX0) (N := 6) hx hb hts hin0 tyX0 tyX0_ok nmX0 hown hK hP hS (1 + 10 * 1) (by decide) (cE_rd (by decide)) rfl 2 (by decide) (Or.inr (c_nest hK 21 rfl)) rfl (by decide +kernel) rfl rfl (by show _ < 6; decide) ((cs_R (by decide) (by decide)).trans (by rw [rr_up1]; rfl)) dX4_penny_42 (fun H locs hP hS => ?_)
            refine lv_aload_n hx hb dX4_penny_45 rfl (lv_at hl 1 rfl) ?_
            refine c_get (v := .ref (ad (1 + 10 * 1))) (C := RX4) (T := TX4) (N := 7) hx hb hts hin4 hown hK hP (0) (by decide) cE_0 rfl 1 (by decide) (Or.inl (hts (.fieldLink RX4 16 "PennyRoad" "ahead" "LPennyRoad$Road;") (by decide +kernel))) rfl dX4_penny_46 ?_
            refine lv_iload_n hx hb dX4_penny_49 rfl (lv_at hl 2 rfl) ?_
            refine wq_VN (host := "PennyRoad") S cK_ok hK hP hS (c_X0_passHours_r1 ((upd_0 (by omega)).trans ((cpn_0' (j := N)).trans hN)) h8 (by omega)) gX4_penny_X0_passHours_n120 i_X0_passHours (c_nest hK 42 rfl) (hts (.initialized RX0) (by decide +kernel)) (hts (.instanceMethod yX0_passHours) (by decide +kernel)) (hts (.selects RX0 yX0_passHours yX0_passHours) (by decide +kernel)) (c_rec hK hP (1 + 10 * 1) (by decide) (cE_rd (by decide)) rfl) ⟨Nat.le_of_ble_eq_true rfl, Nat.le_of_ble_eq_true rfl⟩ rfl hl.1 (As := [.int (nI i)]) (rest := []) (st1 := []) rfl rfl (Nat.le_of_ble_eq_true rfl) ⟨Nat.le_of_ble_eq_true rfl, Nat.le_of_ble_eq_true rfl⟩ dX4_penny_50 (fun H locs hP hS => ?_)
            refine lv_aload_n hx hb dX4_penny_53 rfl (lv_at hl 1 rfl) ?_
            refine c_get (v := .ref (ad (1 + 10 * 1))) (C := RX4) (T := TX4) (N := 7) hx hb hts hin4 hown hK hP (0) (by decide) cE_0 rfl 1 (by decide) (Or.inl (hts (.fieldLink RX4 16 "PennyRoad" "ahead" "LPennyRoad$Road;") (by decide +kernel))) rfl dX4_penny_54 ?_
            refine c_get (v := .int ((hrsF N i (upd (cpn (5 + 8 * N) p0 aa) 3 (nI n))) 2)) (C := RX0) (T := TX0) (N := 6) hx hb hts hin0 hown hK hP (1 + 10 * 1) (by decide) (cE_rd (by decide)) rfl 1 (by decide) (Or.inr (c_nest hK 19 rfl)) rfl dX4_penny_57 ?_
            refine lv_top (hrsu_l (by omega)) ?_
            refine lv_iload_n hx hb dX4_penny_60 rfl (lv_at hl 3 rfl) ?_
            refine lv_icmp_lt (tgt := 66) hx hb dX4_penny_61 (by decide) (fun c_61 => ?_) (fun c_61 => ?_)
            · skip
              refine lv_iinc (v := pm n) (lv' := [(3, .int (pm n)), (0, .ref (ad 0)), (1, .int (nI i)), (2, .int (v))]) hx hb dX4_penny_66 hl (k := 0) rfl (pm_dec n) (by decide) rfl (fun ls hl => ?_)
              refine lv_goto (tgt := 29) hx hb dX4_penny_69 (by decide) ?_
              exact ih_29 _ _ _ ls (by omega) (hF.trans (if_pos c_61)) hP hS hl
            · skip
              have hE : pennyL N i v p0 21 = nI n := hF.trans (if_neg c_61)
              refine lv_iload_n hx hb dX4_penny_64 rfl (lv_at hl 0 rfl) ?_
              subst hQ
              exact cp_ri hx hb hr hlocks hP hS dX4_penny_65 (by first | (simp only [fnd, hcl_i, hE, c_7, c_17, if_neg c_30, if_neg c_61, Bool.false_eq_true, Bool.true_eq_false, and_true, true_and, false_and, and_false, and_self, not_true_eq_false, not_false_eq_true, if_true, if_false, reduceIte, or_false, false_or, true_or, or_true]; done) | (subst_vars; simp only [fnd, hcl_i, hE, c_7, c_17, if_neg c_30, if_neg c_61, Bool.false_eq_true, Bool.true_eq_false, and_true, true_and, false_and, and_false, and_self, not_true_eq_false, not_false_eq_true, if_true, if_false, reduceIte, or_false, false_or, true_or, or_true]; done) | (simp only [fnd, hcl_i, hE, c_7, c_17, if_neg c_30, if_neg c_61, Bool.false_eq_true, Bool.true_eq_false, and_true, true_and, false_and, and_false, and_self, not_true_eq_false, not_false_eq_true, if_true, if_false, reduceIte, or_false, false_or, true_or, or_true, if_pos (pos_le (show n < 2 ^ 31 by omega))]; done) | (simp only [fnd, hcl_i, hE, c_7, c_17, if_neg c_30, if_neg c_61, Bool.false_eq_true, Bool.true_eq_false, and_true, true_and, false_and, and_false, and_self, not_true_eq_false, not_false_eq_true, if_true, if_false, reduceIte, or_false, false_or, true_or, or_true, if_pos (pos_le (show j < 2 ^ 31 by omega))]; done) | (simp only [fnd, hcl_i, hE, c_7, c_17, if_neg c_30, if_neg c_61, Bool.false_eq_true, Bool.true_eq_false, and_true, true_and, false_and, and_false, and_self, not_true_eq_false, not_false_eq_true, if_true, if_false, reduceIte, or_false, false_or, true_or, or_true, if_neg (show ¬ (0 : Int32) ≤ -1 by decide)]; done)) (by first | (simp only [fnd, hcl_i, hE, c_7, c_17, if_neg c_30, if_neg c_61, Bool.false_eq_true, Bool.true_eq_false, and_true, true_and, false_and, and_false, and_self, not_true_eq_false, not_false_eq_true, if_true, if_false, reduceIte, or_false, false_or, true_or, or_true]; done) | (subst_vars; simp only [fnd, hcl_i, hE, c_7, c_17, if_neg c_30, if_neg c_61, Bool.false_eq_true, Bool.true_eq_false, and_true, true_and, false_and, and_false, and_self, not_true_eq_false, not_false_eq_true, if_true, if_false, reduceIte, or_false, false_or, true_or, or_true]; done) | (simp only [fnd, hcl_i, hE, c_7, c_17, if_neg c_30, if_neg c_61, Bool.false_eq_true, Bool.true_eq_false, and_true, true_and, false_and, and_false, and_self, not_true_eq_false, not_false_eq_true, if_true, if_false, reduceIte, or_false, false_or, true_or, or_true, if_pos (pos_le (show n < 2 ^ 31 by omega))]; done) | (simp only [fnd, hcl_i, hE, c_7, c_17, if_neg c_30, if_neg c_61, Bool.false_eq_true, Bool.true_eq_false, and_true, true_and, false_and, and_false, and_self, not_true_eq_false, not_false_eq_true, if_true, if_false, reduceIte, or_false, false_or, true_or, or_true, if_pos (pos_le (show j < 2 ^ 31 by omega))]; done) | (simp only [fnd, hcl_i, hE, c_7, c_17, if_neg c_30, if_neg c_61, Bool.false_eq_true, Bool.true_eq_false, and_true, true_and, false_and, and_false, and_self, not_true_eq_false, not_false_eq_true, if_true, if_false, reduceIte, or_false, false_or, true_or, or_true, if_neg (show ¬ (0 : Int32) ≤ -1 by decide)]; done))
      exact L_29 21 p1 _ _ ls (by omega) rfl hP hS hl
    · skip
      refine lv_aload_n hx hb dX4_penny_20 rfl (lv_at hl 0 rfl) ?_
      refine lv_iconst (v := nI 0) hx hb dX4_penny_21 (by decide) ?_
      refine wq_V S cK_ok hK hP hS (c_X4_finding (t := 0) (by decide)) gX4_penny_X4_finding i_X4_finding rfl (c_rec hK hP 0 (by decide) cE_0 rfl) ⟨Nat.le_of_ble_eq_true rfl, Nat.le_of_ble_eq_true rfl⟩ rfl hl.1 (As := [.int (nI 0)]) (rest := []) (st1 := [.int ((-1000000001))]) rfl rfl (Nat.le_of_ble_eq_true rfl) ⟨Nat.le_of_ble_eq_true rfl, Nat.le_of_ble_eq_true rfl⟩ dX4_penny_22 (fun H locs hP hS => ?_)
      subst hQ
      exact cp_ri hx hb hr hlocks hP hS dX4_penny_25 (by first | (simp only [fnd, c_7, c_17, Bool.false_eq_true, Bool.true_eq_false, and_true, true_and, false_and, and_false, and_self, not_true_eq_false, not_false_eq_true, if_true, if_false, reduceIte, or_false, false_or, true_or, or_true]; done) | (subst_vars; simp only [fnd, c_7, c_17, Bool.false_eq_true, Bool.true_eq_false, and_true, true_and, false_and, and_false, and_self, not_true_eq_false, not_false_eq_true, if_true, if_false, reduceIte, or_false, false_or, true_or, or_true]; done) | (simp only [fnd, c_7, c_17, Bool.false_eq_true, Bool.true_eq_false, and_true, true_and, false_and, and_false, and_self, not_true_eq_false, not_false_eq_true, if_true, if_false, reduceIte, or_false, false_or, true_or, or_true, if_pos (pos_le (show n < 2 ^ 31 by omega))]; done) | (simp only [fnd, c_7, c_17, Bool.false_eq_true, Bool.true_eq_false, and_true, true_and, false_and, and_false, and_self, not_true_eq_false, not_false_eq_true, if_true, if_false, reduceIte, or_false, false_or, true_or, or_true, if_pos (pos_le (show j < 2 ^ 31 by omega))]; done) | (simp only [fnd, c_7, c_17, Bool.false_eq_true, Bool.true_eq_false, and_true, true_and, false_and, and_false, and_self, not_true_eq_false, not_false_eq_true, if_true, if_false, reduceIte, or_false, false_or, true_or, or_true, if_neg (show ¬ (0 : Int32) ≤ -1 by decide)]; done)) (by first | (simp only [fnd, c_7, c_17, Bool.false_eq_true, Bool.true_eq_false, and_true, true_and, false_and, and_false, and_self, not_true_eq_false, not_false_eq_true, if_true, if_false, reduceIte, or_false, false_or, true_or, or_true]; done) | (subst_vars; simp only [fnd, c_7, c_17, Bool.false_eq_true, Bool.true_eq_false, and_true, true_and, false_and, and_false, and_self, not_true_eq_false, not_false_eq_true, if_true, if_false, reduceIte, or_false, false_or, true_or, or_true]; done) | (simp only [fnd, c_7, c_17, Bool.false_eq_true, Bool.true_eq_false, and_true, true_and, false_and, and_false, and_self, not_true_eq_false, not_false_eq_true, if_true, if_false, reduceIte, or_false, false_or, true_or, or_true, if_pos (pos_le (show n < 2 ^ 31 by omega))]; done) | (simp only [fnd, c_7, c_17, Bool.false_eq_true, Bool.true_eq_false, and_true, true_and, false_and, and_false, and_self, not_true_eq_false, not_false_eq_true, if_true, if_false, reduceIte, or_false, false_or, true_or, or_true, if_pos (pos_le (show j < 2 ^ 31 by omega))]; done) | (simp only [fnd, c_7, c_17, Bool.false_eq_true, Bool.true_eq_false, and_true, true_and, false_and, and_false, and_self, not_true_eq_false, not_false_eq_true, if_true, if_false, reduceIte, or_false, false_or, true_or, or_true, if_neg (show ¬ (0 : Int32) ≤ -1 by decide)]; done))
theorem i_X4_penny : ciOk yX4_penny cX4_penny 4 (some .int) wsX4_penny 2 := ⟨⟨_, rfl⟩, by decide +kernel⟩
set_option maxHeartbeats 1000000 in
set_option maxRecDepth 100000 in
theorem c_X4_reason {l : Launch} {D : va_G} {cy : Nat → ClassId} {ad : Nat → Nat} {p0 : Nat → Int32} {p1 : Nat → Int32} {p2 : Nat → Int32} {ke : Int32} {tb : Nat → Int32} {t1 : Int32} {t2 : Int32} {t3 : Int32} {t4 : Int32} {t5 : Int32} {sb : Nat → Int32} {ss : Nat → Int32} {sw : Nat → Nat → Int64} {fd : Nat → Int32} {q : Int32} {n : Int32} {v : Int32} {N : Nat} (hN : p0 0 = nI N) (h8 : N ≤ 8) : Met l yX4_reason wsX4_reason (rmz 6 132) (wPre D (cK D cy ad) (cw cy ad (rr p0 p1 p2) ke tb t1 t2 t3 t4 t5 sb ss sw fd) [.ref (ad 0), .int (q), .int (n), .int (v)]) (cPub D cy ad (some (.int (if isN N q ∧ rg 1 100 n ∧ rg 0 999999 v then (if 0 ≤ reasonL N q.toNatClampNeg n.toNatClampNeg v p0 10 0 then reasonL N q.toNatClampNeg n.toNatClampNeg v p0 10 0 else -1000000004) else -1000000001))) p0 p2 ke tb t1 sb ss sw (if isN N q ∧ rg 1 100 n ∧ rg 0 999999 v then (if 0 ≤ reasonL N q.toNatClampNeg n.toNatClampNeg v p0 10 0 then fd else fnd fd 3) else fnd fd 0)) 0 0 (cA ad) := by
  refine wq_entry rfl rfl (Nat.le_of_ble_eq_true rfl) ?_
  intro p e s0 m args below meth c S hr hlocks hK hP ls hl
  have S : CallFix p m c cX4_reason 5 s0 args wsX4_reason RX4 := S
  obtain ⟨hx, hb, hml, hown, hts⟩ := id S
  have hin4 : ∀ w ∈ wsX40, w ∈ wsX4_reason := fun w h => List.mem_cons_of_mem _ (List.mem_append_left _ (List.mem_append_left _ (List.mem_append_right _ h)))
  have hin0 : ∀ w ∈ wsX00, w ∈ wsX4_reason := fun w h => List.mem_cons_of_mem _ (List.mem_append_left _ (List.mem_append_right _ h))
  have hin3 : ∀ w ∈ wsX30, w ∈ wsX4_reason := fun w h => List.mem_cons_of_mem _ (List.mem_append_right _ h)
  have hS : va_S (cA ad) s0.heap s0.heap [] := va_S.rf
  have hl : lv_has ls 5 [(0, .ref (ad 0)), (1, .int (q)), (2, .int (n)), (3, .int (v))] := hl
  generalize hQ : MQ below (cPub D cy ad (some (.int (if isN N q ∧ rg 1 100 n ∧ rg 0 999999 v then (if 0 ≤ reasonL N q.toNatClampNeg n.toNatClampNeg v p0 10 0 then reasonL N q.toNatClampNeg n.toNatClampNeg v p0 10 0 else -1000000004) else -1000000001))) p0 p2 ke tb t1 sb ss sw (if isN N q ∧ rg 1 100 n ∧ rg 0 999999 v then (if 0 ≤ reasonL N q.toNatClampNeg n.toNatClampNeg v p0 10 0 then fd else fnd fd 3) else fnd fd 0)) args s0 0 0 (cA ad) = Q
  refine lv_aload_n hx hb dX4_reason_0 rfl (lv_at hl 0 rfl) ?_
  refine lv_iload_n hx hb dX4_reason_1 rfl (lv_at hl 1 rfl) ?_
  refine wq_V S cK_ok hK hP hS (c_X4_isThere hN h8) gX4_reason_X4_isThere i_X4_isThere rfl (c_rec hK hP 0 (by decide) cE_0 rfl) ⟨Nat.le_of_ble_eq_true rfl, Nat.le_of_ble_eq_true rfl⟩ rfl hl.1 (As := [.int (q)]) (rest := []) (st1 := [.int (z (isN N (q)))]) rfl rfl (Nat.le_of_ble_eq_true rfl) ⟨Nat.le_of_ble_eq_true rfl, Nat.le_of_ble_eq_true rfl⟩ dX4_reason_2 (fun H locs hP hS => ?_)
  refine lvz_if_eq (tgt := 28) hx hb dX4_reason_5 (by decide) (fun c_5 => ?_) (fun c_5 => ?_)
  · skip
    refine lv_aload_n hx hb dX4_reason_28 rfl (lv_at hl 0 rfl) ?_
    refine lv_iconst (v := nI 0) hx hb dX4_reason_29 (by decide) ?_
    refine wq_V S cK_ok hK hP hS (c_X4_finding (t := 0) (by decide)) gX4_reason_X4_finding i_X4_finding rfl (c_rec hK hP 0 (by decide) cE_0 rfl) ⟨Nat.le_of_ble_eq_true rfl, Nat.le_of_ble_eq_true rfl⟩ rfl hl.1 (As := [.int (nI 0)]) (rest := []) (st1 := [.int ((-1000000001))]) rfl rfl (Nat.le_of_ble_eq_true rfl) ⟨Nat.le_of_ble_eq_true rfl, Nat.le_of_ble_eq_true rfl⟩ dX4_reason_30 (fun H locs hP hS => ?_)
    subst hQ
    exact cp_ri hx hb hr hlocks hP hS dX4_reason_33 (by first | (simp only [fnd, c_5, Bool.false_eq_true, Bool.true_eq_false, and_true, true_and, false_and, and_false, and_self, not_true_eq_false, not_false_eq_true, if_true, if_false, reduceIte, or_false, false_or, true_or, or_true]; done) | (subst_vars; simp only [fnd, c_5, Bool.false_eq_true, Bool.true_eq_false, and_true, true_and, false_and, and_false, and_self, not_true_eq_false, not_false_eq_true, if_true, if_false, reduceIte, or_false, false_or, true_or, or_true]; done) | (simp only [fnd, c_5, Bool.false_eq_true, Bool.true_eq_false, and_true, true_and, false_and, and_false, and_self, not_true_eq_false, not_false_eq_true, if_true, if_false, reduceIte, or_false, false_or, true_or, or_true, if_pos (pos_le (show n < 2 ^ 31 by omega))]; done) | (simp only [fnd, c_5, Bool.false_eq_true, Bool.true_eq_false, and_true, true_and, false_and, and_false, and_self, not_true_eq_false, not_false_eq_true, if_true, if_false, reduceIte, or_false, false_or, true_or, or_true, if_pos (pos_le (show j < 2 ^ 31 by omega))]; done) | (simp only [fnd, c_5, Bool.false_eq_true, Bool.true_eq_false, and_true, true_and, false_and, and_false, and_self, not_true_eq_false, not_false_eq_true, if_true, if_false, reduceIte, or_false, false_or, true_or, or_true, if_neg (show ¬ (0 : Int32) ≤ -1 by decide)]; done)) (by first | (simp only [fnd, c_5, Bool.false_eq_true, Bool.true_eq_false, and_true, true_and, false_and, and_false, and_self, not_true_eq_false, not_false_eq_true, if_true, if_false, reduceIte, or_false, false_or, true_or, or_true]; done) | (subst_vars; simp only [fnd, c_5, Bool.false_eq_true, Bool.true_eq_false, and_true, true_and, false_and, and_false, and_self, not_true_eq_false, not_false_eq_true, if_true, if_false, reduceIte, or_false, false_or, true_or, or_true]; done) | (simp only [fnd, c_5, Bool.false_eq_true, Bool.true_eq_false, and_true, true_and, false_and, and_false, and_self, not_true_eq_false, not_false_eq_true, if_true, if_false, reduceIte, or_false, false_or, true_or, or_true, if_pos (pos_le (show n < 2 ^ 31 by omega))]; done) | (simp only [fnd, c_5, Bool.false_eq_true, Bool.true_eq_false, and_true, true_and, false_and, and_false, and_self, not_true_eq_false, not_false_eq_true, if_true, if_false, reduceIte, or_false, false_or, true_or, or_true, if_pos (pos_le (show j < 2 ^ 31 by omega))]; done) | (simp only [fnd, c_5, Bool.false_eq_true, Bool.true_eq_false, and_true, true_and, false_and, and_false, and_self, not_true_eq_false, not_false_eq_true, if_true, if_false, reduceIte, or_false, false_or, true_or, or_true, if_neg (show ¬ (0 : Int32) ≤ -1 by decide)]; done))
  · skip
    refine lv_iload_n hx hb dX4_reason_8 rfl (lv_at hl 2 rfl) ?_
    refine lv_iconst (v := nI 1) hx hb dX4_reason_9 (by decide) ?_
    refine lv_bipush (v := nI 100) hx hb dX4_reason_10 (by decide) ?_
    refine sq_S S (c_X4_withinN (by decide) (by decide)) gX4_reason_X4_within i_X4_within ⟨Nat.le_of_ble_eq_true rfl, Nat.le_of_ble_eq_true rfl⟩ rfl hl.1 (As := [.int (n), .int (nI 1), .int (nI 100)]) (rest := []) (st1 := [.int (z (rg 1 100 (n)))]) rfl rfl (Nat.le_of_ble_eq_true rfl) ⟨Nat.le_of_ble_eq_true rfl, Nat.le_of_ble_eq_true rfl⟩ dX4_reason_12 ?_
    refine lvz_if_eq (tgt := 28) hx hb dX4_reason_15 (by decide) (fun c_15 => ?_) (fun c_15 => ?_)
    · skip
      refine lv_aload_n hx hb dX4_reason_28 rfl (lv_at hl 0 rfl) ?_
      refine lv_iconst (v := nI 0) hx hb dX4_reason_29 (by decide) ?_
      refine wq_V S cK_ok hK hP hS (c_X4_finding (t := 0) (by decide)) gX4_reason_X4_finding i_X4_finding rfl (c_rec hK hP 0 (by decide) cE_0 rfl) ⟨Nat.le_of_ble_eq_true rfl, Nat.le_of_ble_eq_true rfl⟩ rfl hl.1 (As := [.int (nI 0)]) (rest := []) (st1 := [.int ((-1000000001))]) rfl rfl (Nat.le_of_ble_eq_true rfl) ⟨Nat.le_of_ble_eq_true rfl, Nat.le_of_ble_eq_true rfl⟩ dX4_reason_30 (fun H locs hP hS => ?_)
      subst hQ
      exact cp_ri hx hb hr hlocks hP hS dX4_reason_33 (by first | (simp only [fnd, c_5, c_15, Bool.false_eq_true, Bool.true_eq_false, and_true, true_and, false_and, and_false, and_self, not_true_eq_false, not_false_eq_true, if_true, if_false, reduceIte, or_false, false_or, true_or, or_true]; done) | (subst_vars; simp only [fnd, c_5, c_15, Bool.false_eq_true, Bool.true_eq_false, and_true, true_and, false_and, and_false, and_self, not_true_eq_false, not_false_eq_true, if_true, if_false, reduceIte, or_false, false_or, true_or, or_true]; done) | (simp only [fnd, c_5, c_15, Bool.false_eq_true, Bool.true_eq_false, and_true, true_and, false_and, and_false, and_self, not_true_eq_false, not_false_eq_true, if_true, if_false, reduceIte, or_false, false_or, true_or, or_true, if_pos (pos_le (show n < 2 ^ 31 by omega))]; done) | (simp only [fnd, c_5, c_15, Bool.false_eq_true, Bool.true_eq_false, and_true, true_and, false_and, and_false, and_self, not_true_eq_false, not_false_eq_true, if_true, if_false, reduceIte, or_false, false_or, true_or, or_true, if_pos (pos_le (show j < 2 ^ 31 by omega))]; done) | (simp only [fnd, c_5, c_15, Bool.false_eq_true, Bool.true_eq_false, and_true, true_and, false_and, and_false, and_self, not_true_eq_false, not_false_eq_true, if_true, if_false, reduceIte, or_false, false_or, true_or, or_true, if_neg (show ¬ (0 : Int32) ≤ -1 by decide)]; done)) (by first | (simp only [fnd, c_5, c_15, Bool.false_eq_true, Bool.true_eq_false, and_true, true_and, false_and, and_false, and_self, not_true_eq_false, not_false_eq_true, if_true, if_false, reduceIte, or_false, false_or, true_or, or_true]; done) | (subst_vars; simp only [fnd, c_5, c_15, Bool.false_eq_true, Bool.true_eq_false, and_true, true_and, false_and, and_false, and_self, not_true_eq_false, not_false_eq_true, if_true, if_false, reduceIte, or_false, false_or, true_or, or_true]; done) | (simp only [fnd, c_5, c_15, Bool.false_eq_true, Bool.true_eq_false, and_true, true_and, false_and, and_false, and_self, not_true_eq_false, not_false_eq_true, if_true, if_false, reduceIte, or_false, false_or, true_or, or_true, if_pos (pos_le (show n < 2 ^ 31 by omega))]; done) | (simp only [fnd, c_5, c_15, Bool.false_eq_true, Bool.true_eq_false, and_true, true_and, false_and, and_false, and_self, not_true_eq_false, not_false_eq_true, if_true, if_false, reduceIte, or_false, false_or, true_or, or_true, if_pos (pos_le (show j < 2 ^ 31 by omega))]; done) | (simp only [fnd, c_5, c_15, Bool.false_eq_true, Bool.true_eq_false, and_true, true_and, false_and, and_false, and_self, not_true_eq_false, not_false_eq_true, if_true, if_false, reduceIte, or_false, false_or, true_or, or_true, if_neg (show ¬ (0 : Int32) ≤ -1 by decide)]; done))
    · skip
      refine lv_iload_n hx hb dX4_reason_18 rfl (lv_at hl 3 rfl) ?_
      refine lv_iconst (v := nI 0) hx hb dX4_reason_19 (by decide) ?_
      refine lv_ldc (v := nI 999999) hx hb hown (hts (.constant RX4 150 (nI 999999)) (by decide +kernel)) dX4_reason_20 ?_
      refine sq_S S (c_X4_withinN (by decide) (by decide)) gX4_reason_X4_within i_X4_within ⟨Nat.le_of_ble_eq_true rfl, Nat.le_of_ble_eq_true rfl⟩ rfl hl.1 (As := [.int (v), .int (nI 0), .int (nI 999999)]) (rest := []) (st1 := [.int (z (rg 0 999999 (v)))]) rfl rfl (Nat.le_of_ble_eq_true rfl) ⟨Nat.le_of_ble_eq_true rfl, Nat.le_of_ble_eq_true rfl⟩ dX4_reason_22 ?_
      refine lvz_if_ne (tgt := 34) hx hb dX4_reason_25 (by decide) (fun c_25 => ?_) (fun c_25 => ?_)
      · skip
        obtain ⟨i, h_i, rfl⟩ := isN_ix h8 c_5
        have hcl_i : (nI i).toNatClampNeg = i := nI_clamp (by omega)
        obtain ⟨h, h_h, h_h2, rfl⟩ := rg_ix (a := 1) (b := 100) (by decide) c_15
        have hcl_h : (nI h).toNatClampNeg = h := nI_clamp (by omega)
        refine lv_iconst (v := nI 0) hx hb dX4_reason_34 (by decide) ?_
        refine lv_istore (lv' := [(4, .int (nI 0)), (0, .ref (ad 0)), (1, .int (nI i)), (2, .int (nI h)), (3, .int (v))]) hx hb dX4_reason_35 hl (by decide) rfl (fun ls hl => ?_)
        have L_37 : ∀ (n : Nat) (j : Nat) (aa : Nat → Int32) (H : Heap) (locs : List Loc) (ls : Array Slot), (j + n = 10) → (reasonL N i h v p0 10 0 = reasonL N i h v p0 n j) → va_P D vwCl (cw cy ad (rr p0 aa p2) ke tb t1 t2 t3 t4 t5 sb ss sw fd) H → va_S (cA ad) s0.heap H locs → lv_has ls 5 [(4, .int (nI j)), (0, .ref (ad 0)), (1, .int (nI i)), (2, .int (nI h)), (3, .int (v))] → W p l e (rmz 6 132) s0 m args below meth c H locs 0 0 Q (F0 m 37 ls []) := by
          intro n
          induction n with
          | zero =>
            intro j aa H locs ls hj hF hP hS hl
            refine lv_iload hx hb dX4_reason_37 (lv_at hl 0 rfl) ?_
            refine lv_bipush (v := nI 9) hx hb dX4_reason_39 (by decide) ?_
            refine lvn_icmp_gt (tgt := 81) hx hb dX4_reason_41 (by decide) (by omega) (by omega) (fun c_41 => ?_) (fun c_41 => ?_)
            · skip
              have hE : reasonL N i h v p0 10 0 = -1 := hF
              refine lv_aload_n hx hb dX4_reason_81 rfl (lv_at hl 1 rfl) ?_
              refine lv_iconst (v := nI 3) hx hb dX4_reason_82 (by decide) ?_
              refine wq_V S cK_ok hK hP hS (c_X4_finding (t := 3) (by decide)) gX4_reason_X4_finding i_X4_finding rfl (c_rec hK hP 0 (by decide) cE_0 rfl) ⟨Nat.le_of_ble_eq_true rfl, Nat.le_of_ble_eq_true rfl⟩ rfl hl.1 (As := [.int (nI 3)]) (rest := []) (st1 := [.int ((-1000000004))]) rfl rfl (Nat.le_of_ble_eq_true rfl) ⟨Nat.le_of_ble_eq_true rfl, Nat.le_of_ble_eq_true rfl⟩ dX4_reason_83 (fun H locs hP hS => ?_)
              subst hQ
              exact cp_ri hx hb hr hlocks hP hS dX4_reason_86 (by first | (simp only [fnd, hcl_i, hcl_h, hE, c_5, c_15, c_25, if_pos c_41, Bool.false_eq_true, Bool.true_eq_false, and_true, true_and, false_and, and_false, and_self, not_true_eq_false, not_false_eq_true, if_true, if_false, reduceIte, or_false, false_or, true_or, or_true]; done) | (subst_vars; simp only [fnd, hcl_i, hcl_h, hE, c_5, c_15, c_25, if_pos c_41, Bool.false_eq_true, Bool.true_eq_false, and_true, true_and, false_and, and_false, and_self, not_true_eq_false, not_false_eq_true, if_true, if_false, reduceIte, or_false, false_or, true_or, or_true]; done) | (simp only [fnd, hcl_i, hcl_h, hE, c_5, c_15, c_25, if_pos c_41, Bool.false_eq_true, Bool.true_eq_false, and_true, true_and, false_and, and_false, and_self, not_true_eq_false, not_false_eq_true, if_true, if_false, reduceIte, or_false, false_or, true_or, or_true, if_pos (pos_le (show n < 2 ^ 31 by omega))]; done) | (simp only [fnd, hcl_i, hcl_h, hE, c_5, c_15, c_25, if_pos c_41, Bool.false_eq_true, Bool.true_eq_false, and_true, true_and, false_and, and_false, and_self, not_true_eq_false, not_false_eq_true, if_true, if_false, reduceIte, or_false, false_or, true_or, or_true, if_pos (pos_le (show j < 2 ^ 31 by omega))]; done) | (simp only [fnd, hcl_i, hcl_h, hE, c_5, c_15, c_25, if_pos c_41, Bool.false_eq_true, Bool.true_eq_false, and_true, true_and, false_and, and_false, and_self, not_true_eq_false, not_false_eq_true, if_true, if_false, reduceIte, or_false, false_or, true_or, or_true, if_neg (show ¬ (0 : Int32) ≤ -1 by decide)]; done)) (by first | (simp only [fnd, hcl_i, hcl_h, hE, c_5, c_15, c_25, if_pos c_41, Bool.false_eq_true, Bool.true_eq_false, and_true, true_and, false_and, and_false, and_self, not_true_eq_false, not_false_eq_true, if_true, if_false, reduceIte, or_false, false_or, true_or, or_true]; done) | (subst_vars; simp only [fnd, hcl_i, hcl_h, hE, c_5, c_15, c_25, if_pos c_41, Bool.false_eq_true, Bool.true_eq_false, and_true, true_and, false_and, and_false, and_self, not_true_eq_false, not_false_eq_true, if_true, if_false, reduceIte, or_false, false_or, true_or, or_true]; done) | (simp only [fnd, hcl_i, hcl_h, hE, c_5, c_15, c_25, if_pos c_41, Bool.false_eq_true, Bool.true_eq_false, and_true, true_and, false_and, and_false, and_self, not_true_eq_false, not_false_eq_true, if_true, if_false, reduceIte, or_false, false_or, true_or, or_true, if_pos (pos_le (show n < 2 ^ 31 by omega))]; done) | (simp only [fnd, hcl_i, hcl_h, hE, c_5, c_15, c_25, if_pos c_41, Bool.false_eq_true, Bool.true_eq_false, and_true, true_and, false_and, and_false, and_self, not_true_eq_false, not_false_eq_true, if_true, if_false, reduceIte, or_false, false_or, true_or, or_true, if_pos (pos_le (show j < 2 ^ 31 by omega))]; done) | (simp only [fnd, hcl_i, hcl_h, hE, c_5, c_15, c_25, if_pos c_41, Bool.false_eq_true, Bool.true_eq_false, and_true, true_and, false_and, and_false, and_self, not_true_eq_false, not_false_eq_true, if_true, if_false, reduceIte, or_false, false_or, true_or, or_true, if_neg (show ¬ (0 : Int32) ≤ -1 by decide)]; done))
            · skip
              exfalso; omega
          | succ n ih_37 =>
            intro j aa H locs ls hj hF hP hS hl
            refine lv_iload hx hb dX4_reason_37 (lv_at hl 0 rfl) ?_
            refine lv_bipush (v := nI 9) hx hb dX4_reason_39 (by decide) ?_
            refine lvn_icmp_gt (tgt := 81) hx hb dX4_reason_41 (by decide) (by omega) (by omega) (fun c_41 => ?_) (fun c_41 => ?_)
            · skip
              exfalso; omega
            · skip
              refine lv_aload_n hx hb dX4_reason_44 rfl (lv_at hl 1 rfl) ?_
              refine wq_V S cK_ok hK hP hS (c_X4_lookAhead hN h8) gX4_reason_X4_lookAhead i_X4_lookAhead rfl (c_rec hK hP 0 (by decide) cE_0 rfl) ⟨Nat.le_of_ble_eq_true rfl, Nat.le_of_ble_eq_true rfl⟩ rfl hl.1 (As := []) (rest := []) (st1 := []) rfl rfl (Nat.le_of_ble_eq_true rfl) ⟨Nat.le_of_ble_eq_true rfl, Nat.le_of_ble_eq_true rfl⟩ dX4_reason_45 (fun H locs hP hS => ?_)
              refine lv_aload_n hx hb dX4_reason_48 rfl (lv_at hl 1 rfl) ?_
              refine c_get (v := .ref (ad (1 + 10 * 1))) (C := RX4) (T := TX4) (N := 7) hx hb hts hin4 hown hK hP (0) (by decide) cE_0 rfl 1 (by decide) (Or.inl (hts (.fieldLink RX4 16 "PennyRoad" "ahead" "LPennyRoad$Road;") (by decide +kernel))) rfl dX4_reason_49 ?_
              refine c_get (v := .ref (ad (2 + 10 * 1))) (C := RX0) (T := TX0) (N := 6) hx hb hts hin0 hown hK hP (1 + 10 * 1) (by decide) (cE_rd (by decide)) rfl 5 (by decide) (Or.inr (c_nest hK 26 rfl)) rfl dX4_reason_52 ?_
              refine lv_iload_n hx hb dX4_reason_55 rfl (lv_at hl 2 rfl) ?_
              refine c_aldW hx hb hK hP 1 (by decide) (by omega) dX4_reason_56 ?_
              refine lv_iload hx hb dX4_reason_57 (lv_at hl 0 rfl) ?_
              refine c_put (w' := (cw cy ad (rr p0 (upd (cpn (5 + 8 * N) p0 aa) (5 + 8 * i + 3) (nI j)) p2) ke tb t1 t2 t3 t4 t5 sb ss sw fd)) (ty := .int) (C := RX3) (T := TX3) (N := 8) hx hb hts hin3 tyX3 tyX3_ok nmX3 hown hK hP hS (3 + 10 * 1 + i) (by omega) (cE_wk (by decide) (by omega)) rfl 3 (by decide) (Or.inr (c_nest hK 8 rfl)) rfl (by decide +kernel) rfl rfl (by show _ < 8; decide) ((cs_W (by decide) (by omega) (by decide)).trans (by rw [rr_up1]; rfl)) dX4_reason_59 (fun H locs hP hS => ?_)
              refine lv_aload_n hx hb dX4_reason_62 rfl (lv_at hl 1 rfl) ?_
              refine lv_iload_n hx hb dX4_reason_63 rfl (lv_at hl 2 rfl) ?_
              refine lv_iload_n hx hb dX4_reason_64 rfl (lv_at hl 3 rfl) ?_
              refine wq_V S cK_ok hK hP hS (c_X4_purseAhead (by omega) (by omega) ((upd_0 (by omega)).trans ((cpn_0' (j := N)).trans hN)) h8) gX4_reason_X4_purseAhead i_X4_purseAhead rfl (c_rec hK hP 0 (by decide) cE_0 rfl) ⟨Nat.le_of_ble_eq_true rfl, Nat.le_of_ble_eq_true rfl⟩ rfl hl.1 (As := [.int (nI i), .int (nI h)]) (rest := []) (st1 := [.int (hrsF N h (upd (cpn (5 + 8 * N) p0 aa) (5 + 8 * i + 3) (nI j)) (5 + 8 * i + 6))]) rfl rfl (Nat.le_of_ble_eq_true rfl) ⟨Nat.le_of_ble_eq_true rfl, Nat.le_of_ble_eq_true rfl⟩ dX4_reason_65 (fun H locs hP hS => ?_)
              refine lv_top (hrsu_l (by omega)) ?_
              refine lv_iload_n hx hb dX4_reason_68 rfl (lv_at hl 4 rfl) ?_
              refine lv_icmp_lt (tgt := 75) hx hb dX4_reason_69 (by decide) (fun c_69 => ?_) (fun c_69 => ?_)
              · skip
                refine lv_iinc (v := nI (j + 1)) (lv' := [(4, .int (nI (j + 1))), (0, .ref (ad 0)), (1, .int (nI i)), (2, .int (nI h)), (3, .int (v))]) hx hb dX4_reason_75 hl (k := 0) rfl (nI_add _ _) (by decide) rfl (fun ls hl => ?_)
                refine lv_goto (tgt := 37) hx hb dX4_reason_78 (by decide) ?_
                exact ih_37 (j + 1) _ _ _ ls (by omega) (hF.trans (if_pos c_69)) hP hS hl
              · skip
                have hE : reasonL N i h v p0 10 0 = nI j := hF.trans (if_neg c_69)
                refine lv_iload hx hb dX4_reason_72 (lv_at hl 0 rfl) ?_
                subst hQ
                exact cp_ri hx hb hr hlocks hP hS dX4_reason_74 (by first | (simp only [fnd, hcl_i, hcl_h, hE, c_5, c_15, c_25, if_neg c_41, if_neg c_69, Bool.false_eq_true, Bool.true_eq_false, and_true, true_and, false_and, and_false, and_self, not_true_eq_false, not_false_eq_true, if_true, if_false, reduceIte, or_false, false_or, true_or, or_true]; done) | (subst_vars; simp only [fnd, hcl_i, hcl_h, hE, c_5, c_15, c_25, if_neg c_41, if_neg c_69, Bool.false_eq_true, Bool.true_eq_false, and_true, true_and, false_and, and_false, and_self, not_true_eq_false, not_false_eq_true, if_true, if_false, reduceIte, or_false, false_or, true_or, or_true]; done) | (simp only [fnd, hcl_i, hcl_h, hE, c_5, c_15, c_25, if_neg c_41, if_neg c_69, Bool.false_eq_true, Bool.true_eq_false, and_true, true_and, false_and, and_false, and_self, not_true_eq_false, not_false_eq_true, if_true, if_false, reduceIte, or_false, false_or, true_or, or_true, if_pos (pos_le (show n < 2 ^ 31 by omega))]; done) | (simp only [fnd, hcl_i, hcl_h, hE, c_5, c_15, c_25, if_neg c_41, if_neg c_69, Bool.false_eq_true, Bool.true_eq_false, and_true, true_and, false_and, and_false, and_self, not_true_eq_false, not_false_eq_true, if_true, if_false, reduceIte, or_false, false_or, true_or, or_true, if_pos (pos_le (show j < 2 ^ 31 by omega))]; done) | (simp only [fnd, hcl_i, hcl_h, hE, c_5, c_15, c_25, if_neg c_41, if_neg c_69, Bool.false_eq_true, Bool.true_eq_false, and_true, true_and, false_and, and_false, and_self, not_true_eq_false, not_false_eq_true, if_true, if_false, reduceIte, or_false, false_or, true_or, or_true, if_neg (show ¬ (0 : Int32) ≤ -1 by decide)]; done)) (by first | (simp only [fnd, hcl_i, hcl_h, hE, c_5, c_15, c_25, if_neg c_41, if_neg c_69, Bool.false_eq_true, Bool.true_eq_false, and_true, true_and, false_and, and_false, and_self, not_true_eq_false, not_false_eq_true, if_true, if_false, reduceIte, or_false, false_or, true_or, or_true]; done) | (subst_vars; simp only [fnd, hcl_i, hcl_h, hE, c_5, c_15, c_25, if_neg c_41, if_neg c_69, Bool.false_eq_true, Bool.true_eq_false, and_true, true_and, false_and, and_false, and_self, not_true_eq_false, not_false_eq_true, if_true, if_false, reduceIte, or_false, false_or, true_or, or_true]; done) | (simp only [fnd, hcl_i, hcl_h, hE, c_5, c_15, c_25, if_neg c_41, if_neg c_69, Bool.false_eq_true, Bool.true_eq_false, and_true, true_and, false_and, and_false, and_self, not_true_eq_false, not_false_eq_true, if_true, if_false, reduceIte, or_false, false_or, true_or, or_true, if_pos (pos_le (show n < 2 ^ 31 by omega))]; done) | (simp only [fnd, hcl_i, hcl_h, hE, c_5, c_15, c_25, if_neg c_41, if_neg c_69, Bool.false_eq_true, Bool.true_eq_false, and_true, true_and, false_and, and_false, and_self, not_true_eq_false, not_false_eq_true, if_true, if_false, reduceIte, or_false, false_or, true_or, or_true, if_pos (pos_le (show j < 2 ^ 31 by omega))]; done) | (simp only [fnd, hcl_i, hcl_h, hE, c_5, c_15, c_25, if_neg c_41, if_neg c_69, Bool.false_eq_true, Bool.true_eq_false, and_true, true_and, false_and, and_false, and_self, not_true_eq_false, not_false_eq_true, if_true, if_false, reduceIte, or_false, false_or, true_or, or_true, if_neg (show ¬ (0 : Int32) ≤ -1 by decide)]; done))
        exact L_37 10 0 p1 _ _ ls (by omega) rfl hP hS hl
      · skip
        refine lv_aload_n hx hb dX4_reason_28 rfl (lv_at hl 0 rfl) ?_
        refine lv_iconst (v := nI 0) hx hb dX4_reason_29 (by decide) ?_
        refine wq_V S cK_ok hK hP hS (c_X4_finding (t := 0) (by decide)) gX4_reason_X4_finding i_X4_finding rfl (c_rec hK hP 0 (by decide) cE_0 rfl) ⟨Nat.le_of_ble_eq_true rfl, Nat.le_of_ble_eq_true rfl⟩ rfl hl.1 (As := [.int (nI 0)]) (rest := []) (st1 := [.int ((-1000000001))]) rfl rfl (Nat.le_of_ble_eq_true rfl) ⟨Nat.le_of_ble_eq_true rfl, Nat.le_of_ble_eq_true rfl⟩ dX4_reason_30 (fun H locs hP hS => ?_)
        subst hQ
        exact cp_ri hx hb hr hlocks hP hS dX4_reason_33 (by first | (simp only [fnd, c_5, c_15, c_25, Bool.false_eq_true, Bool.true_eq_false, and_true, true_and, false_and, and_false, and_self, not_true_eq_false, not_false_eq_true, if_true, if_false, reduceIte, or_false, false_or, true_or, or_true]; done) | (subst_vars; simp only [fnd, c_5, c_15, c_25, Bool.false_eq_true, Bool.true_eq_false, and_true, true_and, false_and, and_false, and_self, not_true_eq_false, not_false_eq_true, if_true, if_false, reduceIte, or_false, false_or, true_or, or_true]; done) | (simp only [fnd, c_5, c_15, c_25, Bool.false_eq_true, Bool.true_eq_false, and_true, true_and, false_and, and_false, and_self, not_true_eq_false, not_false_eq_true, if_true, if_false, reduceIte, or_false, false_or, true_or, or_true, if_pos (pos_le (show n < 2 ^ 31 by omega))]; done) | (simp only [fnd, c_5, c_15, c_25, Bool.false_eq_true, Bool.true_eq_false, and_true, true_and, false_and, and_false, and_self, not_true_eq_false, not_false_eq_true, if_true, if_false, reduceIte, or_false, false_or, true_or, or_true, if_pos (pos_le (show j < 2 ^ 31 by omega))]; done) | (simp only [fnd, c_5, c_15, c_25, Bool.false_eq_true, Bool.true_eq_false, and_true, true_and, false_and, and_false, and_self, not_true_eq_false, not_false_eq_true, if_true, if_false, reduceIte, or_false, false_or, true_or, or_true, if_neg (show ¬ (0 : Int32) ≤ -1 by decide)]; done)) (by first | (simp only [fnd, c_5, c_15, c_25, Bool.false_eq_true, Bool.true_eq_false, and_true, true_and, false_and, and_false, and_self, not_true_eq_false, not_false_eq_true, if_true, if_false, reduceIte, or_false, false_or, true_or, or_true]; done) | (subst_vars; simp only [fnd, c_5, c_15, c_25, Bool.false_eq_true, Bool.true_eq_false, and_true, true_and, false_and, and_false, and_self, not_true_eq_false, not_false_eq_true, if_true, if_false, reduceIte, or_false, false_or, true_or, or_true]; done) | (simp only [fnd, c_5, c_15, c_25, Bool.false_eq_true, Bool.true_eq_false, and_true, true_and, false_and, and_false, and_self, not_true_eq_false, not_false_eq_true, if_true, if_false, reduceIte, or_false, false_or, true_or, or_true, if_pos (pos_le (show n < 2 ^ 31 by omega))]; done) | (simp only [fnd, c_5, c_15, c_25, Bool.false_eq_true, Bool.true_eq_false, and_true, true_and, false_and, and_false, and_self, not_true_eq_false, not_false_eq_true, if_true, if_false, reduceIte, or_false, false_or, true_or, or_true, if_pos (pos_le (show j < 2 ^ 31 by omega))]; done) | (simp only [fnd, c_5, c_15, c_25, Bool.false_eq_true, Bool.true_eq_false, and_true, true_and, false_and, and_false, and_self, not_true_eq_false, not_false_eq_true, if_true, if_false, reduceIte, or_false, false_or, true_or, or_true, if_neg (show ¬ (0 : Int32) ≤ -1 by decide)]; done))
theorem i_X4_reason : ciOk yX4_reason cX4_reason 5 (some .int) wsX4_reason 3 := ⟨⟨_, rfl⟩, by decide +kernel⟩
set_option maxHeartbeats 1000000 in
set_option maxRecDepth 100000 in
theorem c_X4_kind {l : Launch} {D : va_G} {cy : Nat → ClassId} {ad : Nat → Nat} {p0 : Nat → Int32} {p1 : Nat → Int32} {p2 : Nat → Int32} {ke : Int32} {tb : Nat → Int32} {t1 : Int32} {t2 : Int32} {t3 : Int32} {t4 : Int32} {t5 : Int32} {sb : Nat → Int32} {ss : Nat → Int32} {sw : Nat → Nat → Int64} {fd : Nat → Int32} {q : Int32} {n : Int32} {N : Nat} (hN : p0 0 = nI N) (h8 : N ≤ 8) : Met l yX4_kind wsX4_kind (rmz 6 132) (wPre D (cK D cy ad) (cw cy ad (rr p0 p1 p2) ke tb t1 t2 t3 t4 t5 sb ss sw fd) [.ref (ad 0), .int (q), .int (n)]) (cPub D cy ad (some (.int (if isN N q ∧ rg 1 100 n then mostL N (5 + 8 * q.toNatClampNeg + 0) q.toNatClampNeg n.toNatClampNeg p0 (5 + 1) 0 (nI 0) (-1) else -1000000001))) p0 p2 ke tb t1 sb ss sw (if isN N q ∧ rg 1 100 n then fd else fnd fd 0)) 0 0 (cA ad) := by
  refine wq_entry rfl rfl (Nat.le_of_ble_eq_true rfl) ?_
  intro p e s0 m args below meth c S hr hlocks hK hP ls hl
  have S : CallFix p m c cX4_kind 7 s0 args wsX4_kind RX4 := S
  obtain ⟨hx, hb, hml, hown, hts⟩ := id S
  have hin4 : ∀ w ∈ wsX40, w ∈ wsX4_kind := fun w h => List.mem_cons_of_mem _ (List.mem_append_left _ (List.mem_append_left _ (List.mem_append_right _ h)))
  have hin0 : ∀ w ∈ wsX00, w ∈ wsX4_kind := fun w h => List.mem_cons_of_mem _ (List.mem_append_left _ (List.mem_append_right _ h))
  have hin3 : ∀ w ∈ wsX30, w ∈ wsX4_kind := fun w h => List.mem_cons_of_mem _ (List.mem_append_right _ h)
  have hS : va_S (cA ad) s0.heap s0.heap [] := va_S.rf
  have hl : lv_has ls 7 [(0, .ref (ad 0)), (1, .int (q)), (2, .int (n))] := hl
  generalize hQ : MQ below (cPub D cy ad (some (.int (if isN N q ∧ rg 1 100 n then mostL N (5 + 8 * q.toNatClampNeg + 0) q.toNatClampNeg n.toNatClampNeg p0 (5 + 1) 0 (nI 0) (-1) else -1000000001))) p0 p2 ke tb t1 sb ss sw (if isN N q ∧ rg 1 100 n then fd else fnd fd 0)) args s0 0 0 (cA ad) = Q
  refine lv_aload_n hx hb dX4_kind_0 rfl (lv_at hl 0 rfl) ?_
  refine lv_iload_n hx hb dX4_kind_1 rfl (lv_at hl 1 rfl) ?_
  refine wq_V S cK_ok hK hP hS (c_X4_isThere hN h8) gX4_kind_X4_isThere i_X4_isThere rfl (c_rec hK hP 0 (by decide) cE_0 rfl) ⟨Nat.le_of_ble_eq_true rfl, Nat.le_of_ble_eq_true rfl⟩ rfl hl.1 (As := [.int (q)]) (rest := []) (st1 := [.int (z (isN N (q)))]) rfl rfl (Nat.le_of_ble_eq_true rfl) ⟨Nat.le_of_ble_eq_true rfl, Nat.le_of_ble_eq_true rfl⟩ dX4_kind_2 (fun H locs hP hS => ?_)
  refine lvz_if_eq (tgt := 18) hx hb dX4_kind_5 (by decide) (fun c_5 => ?_) (fun c_5 => ?_)
  · skip
    refine lv_aload_n hx hb dX4_kind_18 rfl (lv_at hl 0 rfl) ?_
    refine lv_iconst (v := nI 0) hx hb dX4_kind_19 (by decide) ?_
    refine wq_V S cK_ok hK hP hS (c_X4_finding (t := 0) (by decide)) gX4_kind_X4_finding i_X4_finding rfl (c_rec hK hP 0 (by decide) cE_0 rfl) ⟨Nat.le_of_ble_eq_true rfl, Nat.le_of_ble_eq_true rfl⟩ rfl hl.1 (As := [.int (nI 0)]) (rest := []) (st1 := [.int ((-1000000001))]) rfl rfl (Nat.le_of_ble_eq_true rfl) ⟨Nat.le_of_ble_eq_true rfl, Nat.le_of_ble_eq_true rfl⟩ dX4_kind_20 (fun H locs hP hS => ?_)
    subst hQ
    exact cp_ri hx hb hr hlocks hP hS dX4_kind_23 (by first | with_reducible rfl | (simp only [fnd, if_neg c_5]; done) | (simp only [fnd, c_5, Bool.false_eq_true, Bool.true_eq_false, and_true, true_and, false_and, and_false, and_self, not_true_eq_false, not_false_eq_true, if_true, if_false, reduceIte, or_false, false_or, true_or, or_true]; done) | (subst_vars; first | with_reducible rfl | (simp only [fnd, if_neg c_5]; done) | (simp only [fnd, c_5, Bool.false_eq_true, Bool.true_eq_false, and_true, true_and, false_and, and_false, and_self, not_true_eq_false, not_false_eq_true, if_true, if_false, reduceIte, or_false, false_or, true_or, or_true]; done)) | contradiction | rfl) (by first | with_reducible rfl | (simp only [fnd, if_neg c_5]; done) | (simp only [fnd, c_5, Bool.false_eq_true, Bool.true_eq_false, and_true, true_and, false_and, and_false, and_self, not_true_eq_false, not_false_eq_true, if_true, if_false, reduceIte, or_false, false_or, true_or, or_true]; done) | (subst_vars; first | with_reducible rfl | (simp only [fnd, if_neg c_5]; done) | (simp only [fnd, c_5, Bool.false_eq_true, Bool.true_eq_false, and_true, true_and, false_and, and_false, and_self, not_true_eq_false, not_false_eq_true, if_true, if_false, reduceIte, or_false, false_or, true_or, or_true]; done)) | contradiction | rfl)
  · skip
    refine lv_iload_n hx hb dX4_kind_8 rfl (lv_at hl 2 rfl) ?_
    refine lv_iconst (v := nI 1) hx hb dX4_kind_9 (by decide) ?_
    refine lv_bipush (v := nI 100) hx hb dX4_kind_10 (by decide) ?_
    refine sq_S S (c_X4_withinN (by decide) (by decide)) gX4_kind_X4_within i_X4_within ⟨Nat.le_of_ble_eq_true rfl, Nat.le_of_ble_eq_true rfl⟩ rfl hl.1 (As := [.int (n), .int (nI 1), .int (nI 100)]) (rest := []) (st1 := [.int (z (rg 1 100 (n)))]) rfl rfl (Nat.le_of_ble_eq_true rfl) ⟨Nat.le_of_ble_eq_true rfl, Nat.le_of_ble_eq_true rfl⟩ dX4_kind_12 ?_
    refine lvz_if_ne (tgt := 24) hx hb dX4_kind_15 (by decide) (fun c_15 => ?_) (fun c_15 => ?_)
    · skip
      obtain ⟨i, h_i, rfl⟩ := isN_ix h8 c_5
      have hcl_i : (nI i).toNatClampNeg = i := nI_clamp (by omega)
      obtain ⟨h, h_h, h_h2, rfl⟩ := rg_ix (a := 1) (b := 100) (by decide) c_15
      have hcl_h : (nI h).toNatClampNeg = h := nI_clamp (by omega)
      refine lv_iconst (v := nI 0) hx hb dX4_kind_24 (by decide) ?_
      refine lv_istore_n (lv' := [(3, .int (nI 0)), (0, .ref (ad 0)), (1, .int (nI i)), (2, .int (nI h))]) hx hb dX4_kind_25 rfl hl (by decide) rfl (fun ls hl => ?_)
      refine lv_iconst (v := (-1)) hx hb dX4_kind_26 (by decide) ?_
      refine lv_istore (lv' := [(4, .int ((-1))), (3, .int (nI 0)), (0, .ref (ad 0)), (1, .int (nI i)), (2, .int (nI h))]) hx hb dX4_kind_27 hl (by decide) rfl (fun ls hl => ?_)
      refine lv_iconst (v := nI 0) hx hb dX4_kind_29 (by decide) ?_
      refine lv_istore (lv' := [(5, .int (nI 0)), (4, .int ((-1))), (3, .int (nI 0)), (0, .ref (ad 0)), (1, .int (nI i)), (2, .int (nI h))]) hx hb dX4_kind_30 hl (by decide) rfl (fun ls hl => ?_)
      have L_32 : ∀ (n : Nat) (j : Nat) (b : Int32) (t : Int32) (aa : Nat → Int32) (H : Heap) (locs : List Loc) (ls : Array Slot), (j + n = 6) → (mostL N (5 + 8 * i + 0) i h p0 (5 + 1) 0 (nI 0) (-1) = mostL N (5 + 8 * i + 0) i h p0 n j b t) → va_P D vwCl (cw cy ad (rr p0 aa p2) ke tb t1 t2 t3 t4 t5 sb ss sw fd) H → va_S (cA ad) s0.heap H locs → lv_has ls 7 [(5, .int (nI j)), (4, .int (t)), (3, .int (b)), (0, .ref (ad 0)), (1, .int (nI i)), (2, .int (nI h))] → W p l e (rmz 6 132) s0 m args below meth c H locs 0 0 Q (F0 m 32 ls []) := by
        intro n
        induction n with
        | zero =>
          intro j b t aa H locs ls hj hF hP hS hl
          refine lv_iload hx hb dX4_kind_32 (lv_at hl 0 rfl) ?_
          refine lv_iconst (v := nI 5) hx hb dX4_kind_34 (by decide) ?_
          refine lvn_icmp_gt (tgt := 84) hx hb dX4_kind_35 (by decide) (by omega) (by omega) (fun c_35 => ?_) (fun c_35 => ?_)
          · skip
            have hE : mostL N (5 + 8 * i + 0) i h p0 (5 + 1) 0 (nI 0) (-1) = b := hF
            refine lv_iload_n hx hb dX4_kind_84 rfl (lv_at hl 2 rfl) ?_
            subst hQ
            exact cp_ri hx hb hr hlocks hP hS dX4_kind_85 (by first | with_reducible rfl | (simp only [fnd, if_pos c_5, if_pos c_15, if_pos c_35]; done) | (simp only [fnd, hcl_i, hcl_h, hE, c_5, c_15, if_pos c_35, Bool.false_eq_true, Bool.true_eq_false, and_true, true_and, false_and, and_false, and_self, not_true_eq_false, not_false_eq_true, if_true, if_false, reduceIte, or_false, false_or, true_or, or_true]; done) | (subst_vars; first | with_reducible rfl | (simp only [fnd, if_pos c_5, if_pos c_15, if_pos c_35]; done) | (simp only [fnd, hcl_i, hcl_h, hE, c_5, c_15, if_pos c_35, Bool.false_eq_true, Bool.true_eq_false, and_true, true_and, false_and, and_false, and_self, not_true_eq_false, not_false_eq_true, if_true, if_false, reduceIte, or_false, false_or, true_or, or_true]; done)) | contradiction | rfl) (by first | with_reducible rfl | (simp only [fnd, if_pos c_5, if_pos c_15, if_pos c_35]; done) | (simp only [fnd, hcl_i, hcl_h, hE, c_5, c_15, if_pos c_35, Bool.false_eq_true, Bool.true_eq_false, and_true, true_and, false_and, and_false, and_self, not_true_eq_false, not_false_eq_true, if_true, if_false, reduceIte, or_false, false_or, true_or, or_true]; done) | (subst_vars; first | with_reducible rfl | (simp only [fnd, if_pos c_5, if_pos c_15, if_pos c_35]; done) | (simp only [fnd, hcl_i, hcl_h, hE, c_5, c_15, if_pos c_35, Bool.false_eq_true, Bool.true_eq_false, and_true, true_and, false_and, and_false, and_self, not_true_eq_false, not_false_eq_true, if_true, if_false, reduceIte, or_false, false_or, true_or, or_true]; done)) | contradiction | rfl)
          · skip
            exfalso; omega
        | succ n ih_32 =>
          intro j b t aa H locs ls hj hF hP hS hl
          refine lv_iload hx hb dX4_kind_32 (lv_at hl 0 rfl) ?_
          refine lv_iconst (v := nI 5) hx hb dX4_kind_34 (by decide) ?_
          refine lvn_icmp_gt (tgt := 84) hx hb dX4_kind_35 (by decide) (by omega) (by omega) (fun c_35 => ?_) (fun c_35 => ?_)
          · skip
            exfalso; omega
          · skip
            refine lv_aload_n hx hb dX4_kind_38 rfl (lv_at hl 3 rfl) ?_
            refine wq_V S cK_ok hK hP hS (c_X4_lookAhead hN h8) gX4_kind_X4_lookAhead i_X4_lookAhead rfl (c_rec hK hP 0 (by decide) cE_0 rfl) ⟨Nat.le_of_ble_eq_true rfl, Nat.le_of_ble_eq_true rfl⟩ rfl hl.1 (As := []) (rest := []) (st1 := []) rfl rfl (Nat.le_of_ble_eq_true rfl) ⟨Nat.le_of_ble_eq_true rfl, Nat.le_of_ble_eq_true rfl⟩ dX4_kind_39 (fun H locs hP hS => ?_)
            refine lv_aload_n hx hb dX4_kind_42 rfl (lv_at hl 3 rfl) ?_
            refine c_get (v := .ref (ad (1 + 10 * 1))) (C := RX4) (T := TX4) (N := 7) hx hb hts hin4 hown hK hP (0) (by decide) cE_0 rfl 1 (by decide) (Or.inl (hts (.fieldLink RX4 16 "PennyRoad" "ahead" "LPennyRoad$Road;") (by decide +kernel))) rfl dX4_kind_43 ?_
            refine c_get (v := .ref (ad (2 + 10 * 1))) (C := RX0) (T := TX0) (N := 6) hx hb hts hin0 hown hK hP (1 + 10 * 1) (by decide) (cE_rd (by decide)) rfl 5 (by decide) (Or.inr (c_nest hK 26 rfl)) rfl dX4_kind_46 ?_
            refine lv_iload_n hx hb dX4_kind_49 rfl (lv_at hl 4 rfl) ?_
            refine c_aldW hx hb hK hP 1 (by decide) (by omega) dX4_kind_50 ?_
            refine lv_iload hx hb dX4_kind_51 (lv_at hl 0 rfl) ?_
            refine c_put (w' := (cw cy ad (rr p0 (upd (cpn (5 + 8 * N) p0 aa) (5 + 8 * i + 0) (nI j)) p2) ke tb t1 t2 t3 t4 t5 sb ss sw fd)) (ty := .int) (C := RX3) (T := TX3) (N := 8) hx hb hts hin3 tyX3 tyX3_ok nmX3 hown hK hP hS (3 + 10 * 1 + i) (by omega) (cE_wk (by decide) (by omega)) rfl 0 (by decide) (Or.inr (c_nest hK 0 rfl)) rfl (by decide +kernel) rfl rfl (by show _ < 8; decide) ((cs_W (by decide) (by omega) (by decide)).trans (by rw [rr_up1]; rfl)) dX4_kind_53 (fun H locs hP hS => ?_)
            refine lv_aload_n hx hb dX4_kind_56 rfl (lv_at hl 3 rfl) ?_
            refine lv_iload_n hx hb dX4_kind_57 rfl (lv_at hl 4 rfl) ?_
            refine lv_iload_n hx hb dX4_kind_58 rfl (lv_at hl 5 rfl) ?_
            refine wq_V S cK_ok hK hP hS (c_X4_purseAhead (by omega) (by omega) ((upd_0 (by omega)).trans ((cpn_0' (j := N)).trans hN)) h8) gX4_kind_X4_purseAhead i_X4_purseAhead rfl (c_rec hK hP 0 (by decide) cE_0 rfl) ⟨Nat.le_of_ble_eq_true rfl, Nat.le_of_ble_eq_true rfl⟩ rfl hl.1 (As := [.int (nI i), .int (nI h)]) (rest := []) (st1 := [.int (hrsF N h (upd (cpn (5 + 8 * N) p0 aa) (5 + 8 * i + 0) (nI j)) (5 + 8 * i + 6))]) rfl rfl (Nat.le_of_ble_eq_true rfl) ⟨Nat.le_of_ble_eq_true rfl, Nat.le_of_ble_eq_true rfl⟩ dX4_kind_59 (fun H locs hP hS => ?_)
            refine lv_top (hrsu_l (by omega)) ?_
            refine lv_istore (lv' := [(6, .int (hrsF N h (upd p0 (5 + 8 * i + 0) (nI j)) (5 + 8 * i + 6))), (5, .int (nI j)), (4, .int (t)), (3, .int (b)), (0, .ref (ad 0)), (1, .int (nI i)), (2, .int (nI h))]) hx hb dX4_kind_62 hl (by decide) rfl (fun ls hl => ?_)
            refine lv_iload hx hb dX4_kind_64 (lv_at hl 0 rfl) ?_
            refine lv_iload hx hb dX4_kind_66 (lv_at hl 2 rfl) ?_
            have K_1 : ∀ (x_2 : Int32) (x_3 : Int32) (H : Heap) (locs : List Loc) (ls : Array Slot), x_2 = (if (hrsF N h (upd p0 (5 + 8 * i + 0) (nI j)) (5 + 8 * i + 6)) ≤ (t) then t else (hrsF N h (upd p0 (5 + 8 * i + 0) (nI j)) (5 + 8 * i + 6))) → x_3 = (if (hrsF N h (upd p0 (5 + 8 * i + 0) (nI j)) (5 + 8 * i + 6)) ≤ (t) then b else (nI j)) → va_P D vwCl (cw cy ad (rr p0 (hrsF N h (upd (cpn (5 + 8 * N) p0 aa) (5 + 8 * i + 0) (nI j))) p2) ke tb t1 t2 t3 t4 t5 sb ss sw fd) H → va_S (cA ad) s0.heap H locs → lv_has ls 7 [(6, .int (hrsF N h (upd p0 (5 + 8 * i + 0) (nI j)) (5 + 8 * i + 6))), (5, .int (nI j)), (4, .int (x_2)), (3, .int (x_3)), (0, .ref (ad 0)), (1, .int (nI i)), (2, .int (nI h))] → W p l e (rmz 6 132) s0 m args below meth c H locs 0 0 Q (F0 m 78 ls []) := by
              intro x_2 x_3 H locs ls ex_2 ex_3 hP hS hl
              refine lv_iinc (v := nI (j + 1)) (lv' := [(5, .int (nI (j + 1))), (6, .int (hrsF N h (upd p0 (5 + 8 * i + 0) (nI j)) (5 + 8 * i + 6))), (4, .int (x_2)), (3, .int (x_3)), (0, .ref (ad 0)), (1, .int (nI i)), (2, .int (nI h))]) hx hb dX4_kind_78 hl (k := 1) rfl (nI_add _ _) (by decide) rfl (fun ls hl => ?_)
              refine lv_goto (tgt := 32) hx hb dX4_kind_81 (by decide) ?_
              exact ih_32 (j + 1) _ _ _ _ _ ls (by omega) (by subst ex_3 ex_2; exact hF) hP hS (lv_sub hl [0, 2, 3, 4, 5, 6] rfl)
            refine lv_icmp_le (tgt := 78) hx hb dX4_kind_68 (by decide) (fun c_68 => ?_) (fun c_68 => ?_)
            · skip
              exact K_1 (t) (b) _ _ ls (by simp only [if_pos c_68]) (by simp only [if_pos c_68]) hP hS hl
            · skip
              refine lv_iload hx hb dX4_kind_71 (lv_at hl 0 rfl) ?_
              refine lv_istore (lv' := [(4, .int (hrsF N h (upd p0 (5 + 8 * i + 0) (nI j)) (5 + 8 * i + 6))), (6, .int (hrsF N h (upd p0 (5 + 8 * i + 0) (nI j)) (5 + 8 * i + 6))), (5, .int (nI j)), (3, .int (b)), (0, .ref (ad 0)), (1, .int (nI i)), (2, .int (nI h))]) hx hb dX4_kind_73 hl (by decide) rfl (fun ls hl => ?_)
              refine lv_iload hx hb dX4_kind_75 (lv_at hl 2 rfl) ?_
              refine lv_istore_n (lv' := [(3, .int (nI j)), (4, .int (hrsF N h (upd p0 (5 + 8 * i + 0) (nI j)) (5 + 8 * i + 6))), (6, .int (hrsF N h (upd p0 (5 + 8 * i + 0) (nI j)) (5 + 8 * i + 6))), (5, .int (nI j)), (0, .ref (ad 0)), (1, .int (nI i)), (2, .int (nI h))]) hx hb dX4_kind_77 rfl hl (by decide) rfl (fun ls hl => ?_)
              exact K_1 (hrsF N h (upd p0 (5 + 8 * i + 0) (nI j)) (5 + 8 * i + 6)) (nI j) _ _ ls (by simp only [if_neg c_68]) (by simp only [if_neg c_68]) hP hS (lv_sub hl [2, 3, 1, 0, 4, 5, 6] rfl)
      exact L_32 6 0 (nI 0) (-1) p1 _ _ ls (by omega) rfl hP hS hl
    · skip
      refine lv_aload_n hx hb dX4_kind_18 rfl (lv_at hl 0 rfl) ?_
      refine lv_iconst (v := nI 0) hx hb dX4_kind_19 (by decide) ?_
      refine wq_V S cK_ok hK hP hS (c_X4_finding (t := 0) (by decide)) gX4_kind_X4_finding i_X4_finding rfl (c_rec hK hP 0 (by decide) cE_0 rfl) ⟨Nat.le_of_ble_eq_true rfl, Nat.le_of_ble_eq_true rfl⟩ rfl hl.1 (As := [.int (nI 0)]) (rest := []) (st1 := [.int ((-1000000001))]) rfl rfl (Nat.le_of_ble_eq_true rfl) ⟨Nat.le_of_ble_eq_true rfl, Nat.le_of_ble_eq_true rfl⟩ dX4_kind_20 (fun H locs hP hS => ?_)
      subst hQ
      exact cp_ri hx hb hr hlocks hP hS dX4_kind_23 (by first | with_reducible rfl | (simp only [fnd, if_pos c_5, if_neg c_15]; done) | (simp only [fnd, c_5, c_15, Bool.false_eq_true, Bool.true_eq_false, and_true, true_and, false_and, and_false, and_self, not_true_eq_false, not_false_eq_true, if_true, if_false, reduceIte, or_false, false_or, true_or, or_true]; done) | (subst_vars; first | with_reducible rfl | (simp only [fnd, if_pos c_5, if_neg c_15]; done) | (simp only [fnd, c_5, c_15, Bool.false_eq_true, Bool.true_eq_false, and_true, true_and, false_and, and_false, and_self, not_true_eq_false, not_false_eq_true, if_true, if_false, reduceIte, or_false, false_or, true_or, or_true]; done)) | contradiction | rfl) (by first | with_reducible rfl | (simp only [fnd, if_pos c_5, if_neg c_15]; done) | (simp only [fnd, c_5, c_15, Bool.false_eq_true, Bool.true_eq_false, and_true, true_and, false_and, and_false, and_self, not_true_eq_false, not_false_eq_true, if_true, if_false, reduceIte, or_false, false_or, true_or, or_true]; done) | (subst_vars; first | with_reducible rfl | (simp only [fnd, if_pos c_5, if_neg c_15]; done) | (simp only [fnd, c_5, c_15, Bool.false_eq_true, Bool.true_eq_false, and_true, true_and, false_and, and_false, and_self, not_true_eq_false, not_false_eq_true, if_true, if_false, reduceIte, or_false, false_or, true_or, or_true]; done)) | contradiction | rfl)
theorem i_X4_kind : ciOk yX4_kind cX4_kind 7 (some .int) wsX4_kind 2 := ⟨⟨_, rfl⟩, by decide +kernel⟩
set_option maxHeartbeats 1000000 in
set_option maxRecDepth 100000 in
theorem c_X4_begin {l : Launch} {D : va_G} {cy : Nat → ClassId} {ad : Nat → Nat} {p0 : Nat → Int32} {p1 : Nat → Int32} {p2 : Nat → Int32} {ke : Int32} {tb : Nat → Int32} {t1 : Int32} {t2 : Int32} {t3 : Int32} {t4 : Int32} {t5 : Int32} {sb : Nat → Int32} {ss : Nat → Int32} {sw : Nat → Nat → Int64} {fd : Nat → Int32} {q : Int32} {n : Int32} {N : Nat} (hN : p0 0 = nI N) (h8 : N ≤ 8) : Met l yX4_begin wsX4_begin (rmz 6 132) (wPre D (cK D cy ad) (cw cy ad (rr p0 p1 p2) ke tb t1 t2 t3 t4 t5 sb ss sw fd) [.ref (ad 0), .int (q), .int (n)]) (cPub D cy ad (some (.int (if isN N q ∧ rg 1 100 n then mostL N (5 + 8 * q.toNatClampNeg + 1) q.toNatClampNeg n.toNatClampNeg (upd p0 (5 + 8 * q.toNatClampNeg + 5) (nI 0)) (12 + 1) 0 (nI 0) (-1) else -1000000001))) p0 p2 ke tb t1 sb ss sw (if isN N q ∧ rg 1 100 n then fd else fnd fd 0)) 0 0 (cA ad) := by
  refine wq_entry rfl rfl (Nat.le_of_ble_eq_true rfl) ?_
  intro p e s0 m args below meth c S hr hlocks hK hP ls hl
  have S : CallFix p m c cX4_begin 7 s0 args wsX4_begin RX4 := S
  obtain ⟨hx, hb, hml, hown, hts⟩ := id S
  have hin4 : ∀ w ∈ wsX40, w ∈ wsX4_begin := fun w h => List.mem_cons_of_mem _ (List.mem_append_left _ (List.mem_append_left _ (List.mem_append_right _ h)))
  have hin0 : ∀ w ∈ wsX00, w ∈ wsX4_begin := fun w h => List.mem_cons_of_mem _ (List.mem_append_left _ (List.mem_append_right _ h))
  have hin3 : ∀ w ∈ wsX30, w ∈ wsX4_begin := fun w h => List.mem_cons_of_mem _ (List.mem_append_right _ h)
  have hS : va_S (cA ad) s0.heap s0.heap [] := va_S.rf
  have hl : lv_has ls 7 [(0, .ref (ad 0)), (1, .int (q)), (2, .int (n))] := hl
  generalize hQ : MQ below (cPub D cy ad (some (.int (if isN N q ∧ rg 1 100 n then mostL N (5 + 8 * q.toNatClampNeg + 1) q.toNatClampNeg n.toNatClampNeg (upd p0 (5 + 8 * q.toNatClampNeg + 5) (nI 0)) (12 + 1) 0 (nI 0) (-1) else -1000000001))) p0 p2 ke tb t1 sb ss sw (if isN N q ∧ rg 1 100 n then fd else fnd fd 0)) args s0 0 0 (cA ad) = Q
  refine lv_aload_n hx hb dX4_begin_0 rfl (lv_at hl 0 rfl) ?_
  refine lv_iload_n hx hb dX4_begin_1 rfl (lv_at hl 1 rfl) ?_
  refine wq_V S cK_ok hK hP hS (c_X4_isThere hN h8) gX4_begin_X4_isThere i_X4_isThere rfl (c_rec hK hP 0 (by decide) cE_0 rfl) ⟨Nat.le_of_ble_eq_true rfl, Nat.le_of_ble_eq_true rfl⟩ rfl hl.1 (As := [.int (q)]) (rest := []) (st1 := [.int (z (isN N (q)))]) rfl rfl (Nat.le_of_ble_eq_true rfl) ⟨Nat.le_of_ble_eq_true rfl, Nat.le_of_ble_eq_true rfl⟩ dX4_begin_2 (fun H locs hP hS => ?_)
  refine lvz_if_eq (tgt := 18) hx hb dX4_begin_5 (by decide) (fun c_5 => ?_) (fun c_5 => ?_)
  · skip
    refine lv_aload_n hx hb dX4_begin_18 rfl (lv_at hl 0 rfl) ?_
    refine lv_iconst (v := nI 0) hx hb dX4_begin_19 (by decide) ?_
    refine wq_V S cK_ok hK hP hS (c_X4_finding (t := 0) (by decide)) gX4_begin_X4_finding i_X4_finding rfl (c_rec hK hP 0 (by decide) cE_0 rfl) ⟨Nat.le_of_ble_eq_true rfl, Nat.le_of_ble_eq_true rfl⟩ rfl hl.1 (As := [.int (nI 0)]) (rest := []) (st1 := [.int ((-1000000001))]) rfl rfl (Nat.le_of_ble_eq_true rfl) ⟨Nat.le_of_ble_eq_true rfl, Nat.le_of_ble_eq_true rfl⟩ dX4_begin_20 (fun H locs hP hS => ?_)
    subst hQ
    exact cp_ri hx hb hr hlocks hP hS dX4_begin_23 (by first | with_reducible rfl | (simp only [fnd, if_neg c_5]; done) | (simp only [fnd, c_5, Bool.false_eq_true, Bool.true_eq_false, and_true, true_and, false_and, and_false, and_self, not_true_eq_false, not_false_eq_true, if_true, if_false, reduceIte, or_false, false_or, true_or, or_true]; done) | (subst_vars; first | with_reducible rfl | (simp only [fnd, if_neg c_5]; done) | (simp only [fnd, c_5, Bool.false_eq_true, Bool.true_eq_false, and_true, true_and, false_and, and_false, and_self, not_true_eq_false, not_false_eq_true, if_true, if_false, reduceIte, or_false, false_or, true_or, or_true]; done)) | contradiction | rfl) (by first | with_reducible rfl | (simp only [fnd, if_neg c_5]; done) | (simp only [fnd, c_5, Bool.false_eq_true, Bool.true_eq_false, and_true, true_and, false_and, and_false, and_self, not_true_eq_false, not_false_eq_true, if_true, if_false, reduceIte, or_false, false_or, true_or, or_true]; done) | (subst_vars; first | with_reducible rfl | (simp only [fnd, if_neg c_5]; done) | (simp only [fnd, c_5, Bool.false_eq_true, Bool.true_eq_false, and_true, true_and, false_and, and_false, and_self, not_true_eq_false, not_false_eq_true, if_true, if_false, reduceIte, or_false, false_or, true_or, or_true]; done)) | contradiction | rfl)
  · skip
    refine lv_iload_n hx hb dX4_begin_8 rfl (lv_at hl 2 rfl) ?_
    refine lv_iconst (v := nI 1) hx hb dX4_begin_9 (by decide) ?_
    refine lv_bipush (v := nI 100) hx hb dX4_begin_10 (by decide) ?_
    refine sq_S S (c_X4_withinN (by decide) (by decide)) gX4_begin_X4_within i_X4_within ⟨Nat.le_of_ble_eq_true rfl, Nat.le_of_ble_eq_true rfl⟩ rfl hl.1 (As := [.int (n), .int (nI 1), .int (nI 100)]) (rest := []) (st1 := [.int (z (rg 1 100 (n)))]) rfl rfl (Nat.le_of_ble_eq_true rfl) ⟨Nat.le_of_ble_eq_true rfl, Nat.le_of_ble_eq_true rfl⟩ dX4_begin_12 ?_
    refine lvz_if_ne (tgt := 24) hx hb dX4_begin_15 (by decide) (fun c_15 => ?_) (fun c_15 => ?_)
    · skip
      obtain ⟨i, h_i, rfl⟩ := isN_ix h8 c_5
      have hcl_i : (nI i).toNatClampNeg = i := nI_clamp (by omega)
      obtain ⟨h, h_h, h_h2, rfl⟩ := rg_ix (a := 1) (b := 100) (by decide) c_15
      have hcl_h : (nI h).toNatClampNeg = h := nI_clamp (by omega)
      refine lv_iconst (v := nI 0) hx hb dX4_begin_24 (by decide) ?_
      refine lv_istore_n (lv' := [(3, .int (nI 0)), (0, .ref (ad 0)), (1, .int (nI i)), (2, .int (nI h))]) hx hb dX4_begin_25 rfl hl (by decide) rfl (fun ls hl => ?_)
      refine lv_iconst (v := (-1)) hx hb dX4_begin_26 (by decide) ?_
      refine lv_istore (lv' := [(4, .int ((-1))), (3, .int (nI 0)), (0, .ref (ad 0)), (1, .int (nI i)), (2, .int (nI h))]) hx hb dX4_begin_27 hl (by decide) rfl (fun ls hl => ?_)
      refine lv_iconst (v := nI 0) hx hb dX4_begin_29 (by decide) ?_
      refine lv_istore (lv' := [(5, .int (nI 0)), (4, .int ((-1))), (3, .int (nI 0)), (0, .ref (ad 0)), (1, .int (nI i)), (2, .int (nI h))]) hx hb dX4_begin_30 hl (by decide) rfl (fun ls hl => ?_)
      have L_32 : ∀ (n : Nat) (j : Nat) (b : Int32) (t : Int32) (aa : Nat → Int32) (H : Heap) (locs : List Loc) (ls : Array Slot), (j + n = 13) → (mostL N (5 + 8 * i + 1) i h (upd p0 (5 + 8 * i + 5) (nI 0)) (12 + 1) 0 (nI 0) (-1) = mostL N (5 + 8 * i + 1) i h (upd p0 (5 + 8 * i + 5) (nI 0)) n j b t) → va_P D vwCl (cw cy ad (rr p0 aa p2) ke tb t1 t2 t3 t4 t5 sb ss sw fd) H → va_S (cA ad) s0.heap H locs → lv_has ls 7 [(5, .int (nI j)), (4, .int (t)), (3, .int (b)), (0, .ref (ad 0)), (1, .int (nI i)), (2, .int (nI h))] → W p l e (rmz 6 132) s0 m args below meth c H locs 0 0 Q (F0 m 32 ls []) := by
        intro n
        induction n with
        | zero =>
          intro j b t aa H locs ls hj hF hP hS hl
          refine lv_iload hx hb dX4_begin_32 (lv_at hl 0 rfl) ?_
          refine lv_bipush (v := nI 12) hx hb dX4_begin_34 (by decide) ?_
          refine lvn_icmp_gt (tgt := 98) hx hb dX4_begin_36 (by decide) (by omega) (by omega) (fun c_36 => ?_) (fun c_36 => ?_)
          · skip
            have hE : mostL N (5 + 8 * i + 1) i h (upd p0 (5 + 8 * i + 5) (nI 0)) (12 + 1) 0 (nI 0) (-1) = b := hF
            refine lv_iload_n hx hb dX4_begin_98 rfl (lv_at hl 2 rfl) ?_
            subst hQ
            exact cp_ri hx hb hr hlocks hP hS dX4_begin_99 (by first | with_reducible rfl | (simp only [fnd, if_pos c_5, if_pos c_15, if_pos c_36]; done) | (simp only [fnd, hcl_i, hcl_h, hE, c_5, c_15, if_pos c_36, Bool.false_eq_true, Bool.true_eq_false, and_true, true_and, false_and, and_false, and_self, not_true_eq_false, not_false_eq_true, if_true, if_false, reduceIte, or_false, false_or, true_or, or_true]; done) | (subst_vars; first | with_reducible rfl | (simp only [fnd, if_pos c_5, if_pos c_15, if_pos c_36]; done) | (simp only [fnd, hcl_i, hcl_h, hE, c_5, c_15, if_pos c_36, Bool.false_eq_true, Bool.true_eq_false, and_true, true_and, false_and, and_false, and_self, not_true_eq_false, not_false_eq_true, if_true, if_false, reduceIte, or_false, false_or, true_or, or_true]; done)) | contradiction | rfl) (by first | with_reducible rfl | (simp only [fnd, if_pos c_5, if_pos c_15, if_pos c_36]; done) | (simp only [fnd, hcl_i, hcl_h, hE, c_5, c_15, if_pos c_36, Bool.false_eq_true, Bool.true_eq_false, and_true, true_and, false_and, and_false, and_self, not_true_eq_false, not_false_eq_true, if_true, if_false, reduceIte, or_false, false_or, true_or, or_true]; done) | (subst_vars; first | with_reducible rfl | (simp only [fnd, if_pos c_5, if_pos c_15, if_pos c_36]; done) | (simp only [fnd, hcl_i, hcl_h, hE, c_5, c_15, if_pos c_36, Bool.false_eq_true, Bool.true_eq_false, and_true, true_and, false_and, and_false, and_self, not_true_eq_false, not_false_eq_true, if_true, if_false, reduceIte, or_false, false_or, true_or, or_true]; done)) | contradiction | rfl)
          · skip
            exfalso; omega
        | succ n ih_32 =>
          intro j b t aa H locs ls hj hF hP hS hl
          refine lv_iload hx hb dX4_begin_32 (lv_at hl 0 rfl) ?_
          refine lv_bipush (v := nI 12) hx hb dX4_begin_34 (by decide) ?_
          refine lvn_icmp_gt (tgt := 98) hx hb dX4_begin_36 (by decide) (by omega) (by omega) (fun c_36 => ?_) (fun c_36 => ?_)
          · skip
            exfalso; omega
          · skip
            refine lv_aload_n hx hb dX4_begin_39 rfl (lv_at hl 3 rfl) ?_
            refine wq_V S cK_ok hK hP hS (c_X4_lookAhead hN h8) gX4_begin_X4_lookAhead i_X4_lookAhead rfl (c_rec hK hP 0 (by decide) cE_0 rfl) ⟨Nat.le_of_ble_eq_true rfl, Nat.le_of_ble_eq_true rfl⟩ rfl hl.1 (As := []) (rest := []) (st1 := []) rfl rfl (Nat.le_of_ble_eq_true rfl) ⟨Nat.le_of_ble_eq_true rfl, Nat.le_of_ble_eq_true rfl⟩ dX4_begin_40 (fun H locs hP hS => ?_)
            refine lv_aload_n hx hb dX4_begin_43 rfl (lv_at hl 3 rfl) ?_
            refine c_get (v := .ref (ad (1 + 10 * 1))) (C := RX4) (T := TX4) (N := 7) hx hb hts hin4 hown hK hP (0) (by decide) cE_0 rfl 1 (by decide) (Or.inl (hts (.fieldLink RX4 16 "PennyRoad" "ahead" "LPennyRoad$Road;") (by decide +kernel))) rfl dX4_begin_44 ?_
            refine c_get (v := .ref (ad (2 + 10 * 1))) (C := RX0) (T := TX0) (N := 6) hx hb hts hin0 hown hK hP (1 + 10 * 1) (by decide) (cE_rd (by decide)) rfl 5 (by decide) (Or.inr (c_nest hK 26 rfl)) rfl dX4_begin_47 ?_
            refine lv_iload_n hx hb dX4_begin_50 rfl (lv_at hl 4 rfl) ?_
            refine c_aldW hx hb hK hP 1 (by decide) (by omega) dX4_begin_51 ?_
            refine lv_iload hx hb dX4_begin_52 (lv_at hl 0 rfl) ?_
            refine c_put (w' := (cw cy ad (rr p0 (upd (cpn (5 + 8 * N) p0 aa) (5 + 8 * i + 1) (nI j)) p2) ke tb t1 t2 t3 t4 t5 sb ss sw fd)) (ty := .int) (C := RX3) (T := TX3) (N := 8) hx hb hts hin3 tyX3 tyX3_ok nmX3 hown hK hP hS (3 + 10 * 1 + i) (by omega) (cE_wk (by decide) (by omega)) rfl 1 (by decide) (Or.inr (c_nest hK 2 rfl)) rfl (by decide +kernel) rfl rfl (by show _ < 8; decide) ((cs_W (by decide) (by omega) (by decide)).trans (by rw [rr_up1]; rfl)) dX4_begin_54 (fun H locs hP hS => ?_)
            refine lv_aload_n hx hb dX4_begin_57 rfl (lv_at hl 3 rfl) ?_
            refine c_get (v := .ref (ad (1 + 10 * 1))) (C := RX4) (T := TX4) (N := 7) hx hb hts hin4 hown hK hP (0) (by decide) cE_0 rfl 1 (by decide) (Or.inl (hts (.fieldLink RX4 16 "PennyRoad" "ahead" "LPennyRoad$Road;") (by decide +kernel))) rfl dX4_begin_58 ?_
            refine c_get (v := .ref (ad (2 + 10 * 1))) (C := RX0) (T := TX0) (N := 6) hx hb hts hin0 hown hK hP (1 + 10 * 1) (by decide) (cE_rd (by decide)) rfl 5 (by decide) (Or.inr (c_nest hK 26 rfl)) rfl dX4_begin_61 ?_
            refine lv_iload_n hx hb dX4_begin_64 rfl (lv_at hl 4 rfl) ?_
            refine c_aldW hx hb hK hP 1 (by decide) (by omega) dX4_begin_65 ?_
            refine lv_iconst (v := nI 0) hx hb dX4_begin_66 (by decide) ?_
            refine c_put (w' := (cw cy ad (rr p0 (upd (upd (cpn (5 + 8 * N) p0 aa) (5 + 8 * i + 1) (nI j)) (5 + 8 * i + 5) (nI 0)) p2) ke tb t1 t2 t3 t4 t5 sb ss sw fd)) (ty := .int) (C := RX3) (T := TX3) (N := 8) hx hb hts hin3 tyX3 tyX3_ok nmX3 hown hK hP hS (3 + 10 * 1 + i) (by omega) (cE_wk (by decide) (by omega)) rfl 5 (by decide) (Or.inr (c_nest hK 13 rfl)) rfl (by decide +kernel) rfl rfl (by show _ < 8; decide) ((cs_W (by decide) (by omega) (by decide)).trans (by rw [rr_up1]; rfl)) dX4_begin_67 (fun H locs hP hS => ?_)
            refine lv_aload_n hx hb dX4_begin_70 rfl (lv_at hl 3 rfl) ?_
            refine lv_iload_n hx hb dX4_begin_71 rfl (lv_at hl 4 rfl) ?_
            refine lv_iload_n hx hb dX4_begin_72 rfl (lv_at hl 5 rfl) ?_
            refine wq_V S cK_ok hK hP hS (c_X4_purseAhead (by omega) (by omega) ((upd_0 (by omega)).trans ((upd_0 (by omega)).trans ((cpn_0' (j := N)).trans hN))) h8) gX4_begin_X4_purseAhead i_X4_purseAhead rfl (c_rec hK hP 0 (by decide) cE_0 rfl) ⟨Nat.le_of_ble_eq_true rfl, Nat.le_of_ble_eq_true rfl⟩ rfl hl.1 (As := [.int (nI i), .int (nI h)]) (rest := []) (st1 := [.int (hrsF N h (upd (upd (cpn (5 + 8 * N) p0 aa) (5 + 8 * i + 1) (nI j)) (5 + 8 * i + 5) (nI 0)) (5 + 8 * i + 6))]) rfl rfl (Nat.le_of_ble_eq_true rfl) ⟨Nat.le_of_ble_eq_true rfl, Nat.le_of_ble_eq_true rfl⟩ dX4_begin_73 (fun H locs hP hS => ?_)
            refine lv_top (hrsv_l (by omega) (by omega)) ?_
            refine lv_istore (lv' := [(6, .int (hrsF N h (upd (upd p0 (5 + 8 * i + 5) (nI 0)) (5 + 8 * i + 1) (nI j)) (5 + 8 * i + 6))), (5, .int (nI j)), (4, .int (t)), (3, .int (b)), (0, .ref (ad 0)), (1, .int (nI i)), (2, .int (nI h))]) hx hb dX4_begin_76 hl (by decide) rfl (fun ls hl => ?_)
            refine lv_iload hx hb dX4_begin_78 (lv_at hl 0 rfl) ?_
            refine lv_iload hx hb dX4_begin_80 (lv_at hl 2 rfl) ?_
            have K_1 : ∀ (x_2 : Int32) (x_3 : Int32) (H : Heap) (locs : List Loc) (ls : Array Slot), x_2 = (if (hrsF N h (upd (upd p0 (5 + 8 * i + 5) (nI 0)) (5 + 8 * i + 1) (nI j)) (5 + 8 * i + 6)) ≤ (t) then t else (hrsF N h (upd (upd p0 (5 + 8 * i + 5) (nI 0)) (5 + 8 * i + 1) (nI j)) (5 + 8 * i + 6))) → x_3 = (if (hrsF N h (upd (upd p0 (5 + 8 * i + 5) (nI 0)) (5 + 8 * i + 1) (nI j)) (5 + 8 * i + 6)) ≤ (t) then b else (nI j)) → va_P D vwCl (cw cy ad (rr p0 (hrsF N h (upd (upd (cpn (5 + 8 * N) p0 aa) (5 + 8 * i + 1) (nI j)) (5 + 8 * i + 5) (nI 0))) p2) ke tb t1 t2 t3 t4 t5 sb ss sw fd) H → va_S (cA ad) s0.heap H locs → lv_has ls 7 [(6, .int (hrsF N h (upd (upd p0 (5 + 8 * i + 5) (nI 0)) (5 + 8 * i + 1) (nI j)) (5 + 8 * i + 6))), (5, .int (nI j)), (4, .int (x_2)), (3, .int (x_3)), (0, .ref (ad 0)), (1, .int (nI i)), (2, .int (nI h))] → W p l e (rmz 6 132) s0 m args below meth c H locs 0 0 Q (F0 m 92 ls []) := by
              intro x_2 x_3 H locs ls ex_2 ex_3 hP hS hl
              refine lv_iinc (v := nI (j + 1)) (lv' := [(5, .int (nI (j + 1))), (6, .int (hrsF N h (upd (upd p0 (5 + 8 * i + 5) (nI 0)) (5 + 8 * i + 1) (nI j)) (5 + 8 * i + 6))), (4, .int (x_2)), (3, .int (x_3)), (0, .ref (ad 0)), (1, .int (nI i)), (2, .int (nI h))]) hx hb dX4_begin_92 hl (k := 1) rfl (nI_add _ _) (by decide) rfl (fun ls hl => ?_)
              refine lv_goto (tgt := 32) hx hb dX4_begin_95 (by decide) ?_
              exact ih_32 (j + 1) _ _ _ _ _ ls (by omega) (by subst ex_3 ex_2; exact hF) hP hS (lv_sub hl [0, 2, 3, 4, 5, 6] rfl)
            refine lv_icmp_le (tgt := 92) hx hb dX4_begin_82 (by decide) (fun c_82 => ?_) (fun c_82 => ?_)
            · skip
              exact K_1 (t) (b) _ _ ls (by simp only [if_pos c_82]) (by simp only [if_pos c_82]) hP hS hl
            · skip
              refine lv_iload hx hb dX4_begin_85 (lv_at hl 0 rfl) ?_
              refine lv_istore (lv' := [(4, .int (hrsF N h (upd (upd p0 (5 + 8 * i + 5) (nI 0)) (5 + 8 * i + 1) (nI j)) (5 + 8 * i + 6))), (6, .int (hrsF N h (upd (upd p0 (5 + 8 * i + 5) (nI 0)) (5 + 8 * i + 1) (nI j)) (5 + 8 * i + 6))), (5, .int (nI j)), (3, .int (b)), (0, .ref (ad 0)), (1, .int (nI i)), (2, .int (nI h))]) hx hb dX4_begin_87 hl (by decide) rfl (fun ls hl => ?_)
              refine lv_iload hx hb dX4_begin_89 (lv_at hl 2 rfl) ?_
              refine lv_istore_n (lv' := [(3, .int (nI j)), (4, .int (hrsF N h (upd (upd p0 (5 + 8 * i + 5) (nI 0)) (5 + 8 * i + 1) (nI j)) (5 + 8 * i + 6))), (6, .int (hrsF N h (upd (upd p0 (5 + 8 * i + 5) (nI 0)) (5 + 8 * i + 1) (nI j)) (5 + 8 * i + 6))), (5, .int (nI j)), (0, .ref (ad 0)), (1, .int (nI i)), (2, .int (nI h))]) hx hb dX4_begin_91 rfl hl (by decide) rfl (fun ls hl => ?_)
              exact K_1 (hrsF N h (upd (upd p0 (5 + 8 * i + 5) (nI 0)) (5 + 8 * i + 1) (nI j)) (5 + 8 * i + 6)) (nI j) _ _ ls (by simp only [if_neg c_82]) (by simp only [if_neg c_82]) hP hS (lv_sub hl [2, 3, 1, 0, 4, 5, 6] rfl)
      exact L_32 13 0 (nI 0) (-1) p1 _ _ ls (by omega) rfl hP hS hl
    · skip
      refine lv_aload_n hx hb dX4_begin_18 rfl (lv_at hl 0 rfl) ?_
      refine lv_iconst (v := nI 0) hx hb dX4_begin_19 (by decide) ?_
      refine wq_V S cK_ok hK hP hS (c_X4_finding (t := 0) (by decide)) gX4_begin_X4_finding i_X4_finding rfl (c_rec hK hP 0 (by decide) cE_0 rfl) ⟨Nat.le_of_ble_eq_true rfl, Nat.le_of_ble_eq_true rfl⟩ rfl hl.1 (As := [.int (nI 0)]) (rest := []) (st1 := [.int ((-1000000001))]) rfl rfl (Nat.le_of_ble_eq_true rfl) ⟨Nat.le_of_ble_eq_true rfl, Nat.le_of_ble_eq_true rfl⟩ dX4_begin_20 (fun H locs hP hS => ?_)
      subst hQ
      exact cp_ri hx hb hr hlocks hP hS dX4_begin_23 (by first | with_reducible rfl | (simp only [fnd, if_pos c_5, if_neg c_15]; done) | (simp only [fnd, c_5, c_15, Bool.false_eq_true, Bool.true_eq_false, and_true, true_and, false_and, and_false, and_self, not_true_eq_false, not_false_eq_true, if_true, if_false, reduceIte, or_false, false_or, true_or, or_true]; done) | (subst_vars; first | with_reducible rfl | (simp only [fnd, if_pos c_5, if_neg c_15]; done) | (simp only [fnd, c_5, c_15, Bool.false_eq_true, Bool.true_eq_false, and_true, true_and, false_and, and_false, and_self, not_true_eq_false, not_false_eq_true, if_true, if_false, reduceIte, or_false, false_or, true_or, or_true]; done)) | contradiction | rfl) (by first | with_reducible rfl | (simp only [fnd, if_pos c_5, if_neg c_15]; done) | (simp only [fnd, c_5, c_15, Bool.false_eq_true, Bool.true_eq_false, and_true, true_and, false_and, and_false, and_self, not_true_eq_false, not_false_eq_true, if_true, if_false, reduceIte, or_false, false_or, true_or, or_true]; done) | (subst_vars; first | with_reducible rfl | (simp only [fnd, if_pos c_5, if_neg c_15]; done) | (simp only [fnd, c_5, c_15, Bool.false_eq_true, Bool.true_eq_false, and_true, true_and, false_and, and_false, and_self, not_true_eq_false, not_false_eq_true, if_true, if_false, reduceIte, or_false, false_or, true_or, or_true]; done)) | contradiction | rfl)
theorem i_X4_begin : ciOk yX4_begin cX4_begin 7 (some .int) wsX4_begin 2 := ⟨⟨_, rfl⟩, by decide +kernel⟩
set_option maxHeartbeats 1000000 in
set_option maxRecDepth 100000 in
theorem c_X4_rival {l : Launch} {D : va_G} {cy : Nat → ClassId} {ad : Nat → Nat} {p0 : Nat → Int32} {p1 : Nat → Int32} {p2 : Nat → Int32} {ke : Int32} {tb : Nat → Int32} {t1 : Int32} {t2 : Int32} {t3 : Int32} {t4 : Int32} {t5 : Int32} {sb : Nat → Int32} {ss : Nat → Int32} {sw : Nat → Nat → Int64} {fd : Nat → Int32} {q : Int32} {o : Int32} {n : Int32} {N : Nat} (hN : p0 0 = nI N) (h8 : N ≤ 8) : Met l yX4_rival wsX4_rival (rmz 6 132) (wPre D (cK D cy ad) (cw cy ad (rr p0 p1 p2) ke tb t1 t2 t3 t4 t5 sb ss sw fd) [.ref (ad 0), .int (q), .int (o), .int (n)]) (cPub D cy ad (some (.int (if twoP N q o ∧ rg 1 100 n then hrsF N n.toNatClampNeg (upd p0 (5 + 8 * o.toNatClampNeg + 7) (nI 1)) (5 + 8 * q.toNatClampNeg + 6) - hrsF N n.toNatClampNeg p0 (5 + 8 * q.toNatClampNeg + 6) else -1000000001))) p0 p2 ke tb t1 sb ss sw (if twoP N q o ∧ rg 1 100 n then fd else fnd fd 0)) 0 0 (cA ad) := by
  refine wq_entry rfl rfl (Nat.le_of_ble_eq_true rfl) ?_
  intro p e s0 m args below meth c S hr hlocks hK hP ls hl
  have S : CallFix p m c cX4_rival 5 s0 args wsX4_rival RX4 := S
  obtain ⟨hx, hb, hml, hown, hts⟩ := id S
  have hin4 : ∀ w ∈ wsX40, w ∈ wsX4_rival := fun w h => List.mem_cons_of_mem _ (List.mem_append_left _ (List.mem_append_left _ (List.mem_append_right _ h)))
  have hin0 : ∀ w ∈ wsX00, w ∈ wsX4_rival := fun w h => List.mem_cons_of_mem _ (List.mem_append_left _ (List.mem_append_right _ h))
  have hin3 : ∀ w ∈ wsX30, w ∈ wsX4_rival := fun w h => List.mem_cons_of_mem _ (List.mem_append_right _ h)
  have hS : va_S (cA ad) s0.heap s0.heap [] := va_S.rf
  have hl : lv_has ls 5 [(0, .ref (ad 0)), (1, .int (q)), (2, .int (o)), (3, .int (n))] := hl
  generalize hQ : MQ below (cPub D cy ad (some (.int (if twoP N q o ∧ rg 1 100 n then hrsF N n.toNatClampNeg (upd p0 (5 + 8 * o.toNatClampNeg + 7) (nI 1)) (5 + 8 * q.toNatClampNeg + 6) - hrsF N n.toNatClampNeg p0 (5 + 8 * q.toNatClampNeg + 6) else -1000000001))) p0 p2 ke tb t1 sb ss sw (if twoP N q o ∧ rg 1 100 n then fd else fnd fd 0)) args s0 0 0 (cA ad) = Q
  refine lv_aload_n hx hb dX4_rival_0 rfl (lv_at hl 0 rfl) ?_
  refine lv_iload_n hx hb dX4_rival_1 rfl (lv_at hl 1 rfl) ?_
  refine lv_iload_n hx hb dX4_rival_2 rfl (lv_at hl 2 rfl) ?_
  refine wq_V S cK_ok hK hP hS (c_X4_areTwo hN h8) gX4_rival_X4_areTwo i_X4_areTwo rfl (c_rec hK hP 0 (by decide) cE_0 rfl) ⟨Nat.le_of_ble_eq_true rfl, Nat.le_of_ble_eq_true rfl⟩ rfl hl.1 (As := [.int (q), .int (o)]) (rest := []) (st1 := [.int (z (twoP N (q) (o)))]) rfl rfl (Nat.le_of_ble_eq_true rfl) ⟨Nat.le_of_ble_eq_true rfl, Nat.le_of_ble_eq_true rfl⟩ dX4_rival_3 (fun H locs hP hS => ?_)
  refine lvz_if_eq (tgt := 19) hx hb dX4_rival_6 (by decide) (fun c_6 => ?_) (fun c_6 => ?_)
  · skip
    refine lv_aload_n hx hb dX4_rival_19 rfl (lv_at hl 0 rfl) ?_
    refine lv_iconst (v := nI 0) hx hb dX4_rival_20 (by decide) ?_
    refine wq_V S cK_ok hK hP hS (c_X4_finding (t := 0) (by decide)) gX4_rival_X4_finding i_X4_finding rfl (c_rec hK hP 0 (by decide) cE_0 rfl) ⟨Nat.le_of_ble_eq_true rfl, Nat.le_of_ble_eq_true rfl⟩ rfl hl.1 (As := [.int (nI 0)]) (rest := []) (st1 := [.int ((-1000000001))]) rfl rfl (Nat.le_of_ble_eq_true rfl) ⟨Nat.le_of_ble_eq_true rfl, Nat.le_of_ble_eq_true rfl⟩ dX4_rival_21 (fun H locs hP hS => ?_)
    subst hQ
    exact cp_ri hx hb hr hlocks hP hS dX4_rival_24 (by first | with_reducible rfl | (simp only [fnd, if_neg c_6]; done) | (simp only [fnd, c_6, Bool.false_eq_true, Bool.true_eq_false, and_true, true_and, false_and, and_false, and_self, not_true_eq_false, not_false_eq_true, if_true, if_false, reduceIte, or_false, false_or, true_or, or_true]; done) | (subst_vars; first | with_reducible rfl | (simp only [fnd, if_neg c_6]; done) | (simp only [fnd, c_6, Bool.false_eq_true, Bool.true_eq_false, and_true, true_and, false_and, and_false, and_self, not_true_eq_false, not_false_eq_true, if_true, if_false, reduceIte, or_false, false_or, true_or, or_true]; done)) | contradiction | rfl) (by first | with_reducible rfl | (simp only [fnd, if_neg c_6]; done) | (simp only [fnd, c_6, Bool.false_eq_true, Bool.true_eq_false, and_true, true_and, false_and, and_false, and_self, not_true_eq_false, not_false_eq_true, if_true, if_false, reduceIte, or_false, false_or, true_or, or_true]; done) | (subst_vars; first | with_reducible rfl | (simp only [fnd, if_neg c_6]; done) | (simp only [fnd, c_6, Bool.false_eq_true, Bool.true_eq_false, and_true, true_and, false_and, and_false, and_self, not_true_eq_false, not_false_eq_true, if_true, if_false, reduceIte, or_false, false_or, true_or, or_true]; done)) | contradiction | rfl)
  · skip
    refine lv_iload_n hx hb dX4_rival_9 rfl (lv_at hl 3 rfl) ?_
    refine lv_iconst (v := nI 1) hx hb dX4_rival_10 (by decide) ?_
    refine lv_bipush (v := nI 100) hx hb dX4_rival_11 (by decide) ?_
    refine sq_S S (c_X4_withinN (by decide) (by decide)) gX4_rival_X4_within i_X4_within ⟨Nat.le_of_ble_eq_true rfl, Nat.le_of_ble_eq_true rfl⟩ rfl hl.1 (As := [.int (n), .int (nI 1), .int (nI 100)]) (rest := []) (st1 := [.int (z (rg 1 100 (n)))]) rfl rfl (Nat.le_of_ble_eq_true rfl) ⟨Nat.le_of_ble_eq_true rfl, Nat.le_of_ble_eq_true rfl⟩ dX4_rival_13 ?_
    refine lvz_if_ne (tgt := 25) hx hb dX4_rival_16 (by decide) (fun c_16 => ?_) (fun c_16 => ?_)
    · skip
      have hcq : isN N q = true := (twoP_sp c_6).1
      have hco : isN N o = true := (twoP_sp c_6).2.1
      have hne : ¬ q = o := (twoP_sp c_6).2.2
      obtain ⟨i, h_i, rfl⟩ := isN_ix h8 hcq
      have hcl_i : (nI i).toNatClampNeg = i := nI_clamp (by omega)
      obtain ⟨k, h_k, rfl⟩ := isN_ix h8 hco
      have hcl_k : (nI k).toNatClampNeg = k := nI_clamp (by omega)
      obtain ⟨h, h_h, h_h2, rfl⟩ := rg_ix (a := 1) (b := 100) (by decide) c_16
      have hcl_h : (nI h).toNatClampNeg = h := nI_clamp (by omega)
      refine lv_aload_n hx hb dX4_rival_25 rfl (lv_at hl 0 rfl) ?_
      refine wq_V S cK_ok hK hP hS (c_X4_lookAhead hN h8) gX4_rival_X4_lookAhead i_X4_lookAhead rfl (c_rec hK hP 0 (by decide) cE_0 rfl) ⟨Nat.le_of_ble_eq_true rfl, Nat.le_of_ble_eq_true rfl⟩ rfl hl.1 (As := []) (rest := []) (st1 := []) rfl rfl (Nat.le_of_ble_eq_true rfl) ⟨Nat.le_of_ble_eq_true rfl, Nat.le_of_ble_eq_true rfl⟩ dX4_rival_26 (fun H locs hP hS => ?_)
      refine lv_aload_n hx hb dX4_rival_29 rfl (lv_at hl 0 rfl) ?_
      refine lv_iload_n hx hb dX4_rival_30 rfl (lv_at hl 1 rfl) ?_
      refine lv_iload_n hx hb dX4_rival_31 rfl (lv_at hl 3 rfl) ?_
      refine wq_V S cK_ok hK hP hS (c_X4_purseAhead (by omega) (by omega) ((cpn_0' (j := N)).trans hN) h8) gX4_rival_X4_purseAhead i_X4_purseAhead rfl (c_rec hK hP 0 (by decide) cE_0 rfl) ⟨Nat.le_of_ble_eq_true rfl, Nat.le_of_ble_eq_true rfl⟩ rfl hl.1 (As := [.int (nI i), .int (nI h)]) (rest := []) (st1 := [.int (hrsF N h (cpn (5 + 8 * N) p0 p1) (5 + 8 * i + 6))]) rfl rfl (Nat.le_of_ble_eq_true rfl) ⟨Nat.le_of_ble_eq_true rfl, Nat.le_of_ble_eq_true rfl⟩ dX4_rival_32 (fun H locs hP hS => ?_)
      refine lv_top (hrs_l (by omega)) ?_
      refine lv_istore (lv' := [(4, .int (hrsF N h p0 (5 + 8 * i + 6))), (0, .ref (ad 0)), (1, .int (nI i)), (2, .int (nI k)), (3, .int (nI h))]) hx hb dX4_rival_35 hl (by decide) rfl (fun ls hl => ?_)
      refine lv_aload_n hx hb dX4_rival_37 rfl (lv_at hl 1 rfl) ?_
      refine wq_V S cK_ok hK hP hS (c_X4_lookAhead hN h8) gX4_rival_X4_lookAhead i_X4_lookAhead rfl (c_rec hK hP 0 (by decide) cE_0 rfl) ⟨Nat.le_of_ble_eq_true rfl, Nat.le_of_ble_eq_true rfl⟩ rfl hl.1 (As := []) (rest := []) (st1 := []) rfl rfl (Nat.le_of_ble_eq_true rfl) ⟨Nat.le_of_ble_eq_true rfl, Nat.le_of_ble_eq_true rfl⟩ dX4_rival_38 (fun H locs hP hS => ?_)
      refine lv_aload_n hx hb dX4_rival_41 rfl (lv_at hl 1 rfl) ?_
      refine c_get (v := .ref (ad (1 + 10 * 1))) (C := RX4) (T := TX4) (N := 7) hx hb hts hin4 hown hK hP (0) (by decide) cE_0 rfl 1 (by decide) (Or.inl (hts (.fieldLink RX4 16 "PennyRoad" "ahead" "LPennyRoad$Road;") (by decide +kernel))) rfl dX4_rival_42 ?_
      refine c_get (v := .ref (ad (2 + 10 * 1))) (C := RX0) (T := TX0) (N := 6) hx hb hts hin0 hown hK hP (1 + 10 * 1) (by decide) (cE_rd (by decide)) rfl 5 (by decide) (Or.inr (c_nest hK 26 rfl)) rfl dX4_rival_45 ?_
      refine lv_iload_n hx hb dX4_rival_48 rfl (lv_at hl 3 rfl) ?_
      refine c_aldW hx hb hK hP 1 (by decide) (by omega) dX4_rival_49 ?_
      refine lv_iconst (v := nI 1) hx hb dX4_rival_50 (by decide) ?_
      refine c_put (w' := (cw cy ad (rr p0 (upd (cpn (5 + 8 * N) p0 (hrsF N h (cpn (5 + 8 * N) p0 p1))) (5 + 8 * k + 7) (nI 1)) p2) ke tb t1 t2 t3 t4 t5 sb ss sw fd)) (ty := .int) (C := RX3) (T := TX3) (N := 8) hx hb hts hin3 tyX3 tyX3_ok nmX3 hown hK hP hS (3 + 10 * 1 + k) (by omega) (cE_wk (by decide) (by omega)) rfl 7 (by decide) (Or.inr (c_nest hK 17 rfl)) rfl (by decide +kernel) rfl rfl (by show _ < 8; decide) ((cs_W (by decide) (by omega) (by decide)).trans (by rw [rr_up1]; rfl)) dX4_rival_51 (fun H locs hP hS => ?_)
      refine lv_aload_n hx hb dX4_rival_54 rfl (lv_at hl 1 rfl) ?_
      refine lv_iload_n hx hb dX4_rival_55 rfl (lv_at hl 2 rfl) ?_
      refine lv_iload_n hx hb dX4_rival_56 rfl (lv_at hl 4 rfl) ?_
      refine wq_V S cK_ok hK hP hS (c_X4_purseAhead (by omega) (by omega) ((upd_0 (by omega)).trans ((cpn_0' (j := N)).trans hN)) h8) gX4_rival_X4_purseAhead i_X4_purseAhead rfl (c_rec hK hP 0 (by decide) cE_0 rfl) ⟨Nat.le_of_ble_eq_true rfl, Nat.le_of_ble_eq_true rfl⟩ rfl hl.1 (As := [.int (nI i), .int (nI h)]) (rest := []) (st1 := [.int (hrsF N h (upd (cpn (5 + 8 * N) p0 (hrsF N h (cpn (5 + 8 * N) p0 p1))) (5 + 8 * k + 7) (nI 1)) (5 + 8 * i + 6))]) rfl rfl (Nat.le_of_ble_eq_true rfl) ⟨Nat.le_of_ble_eq_true rfl, Nat.le_of_ble_eq_true rfl⟩ dX4_rival_57 (fun H locs hP hS => ?_)
      refine lv_top (hrsu_l (by omega)) ?_
      refine lv_iload hx hb dX4_rival_60 (lv_at hl 0 rfl) ?_
      refine lv_isub hx hb dX4_rival_62 ?_
      subst hQ
      exact cp_ri hx hb hr hlocks hP hS dX4_rival_63 (by first | with_reducible rfl | (simp only [fnd, if_pos c_6, if_pos c_16]; done) | (simp only [fnd, hcl_i, hcl_k, hcl_h, c_6, c_16, Bool.false_eq_true, Bool.true_eq_false, and_true, true_and, false_and, and_false, and_self, not_true_eq_false, not_false_eq_true, if_true, if_false, reduceIte, or_false, false_or, true_or, or_true]; done) | (subst_vars; first | with_reducible rfl | (simp only [fnd, if_pos c_6, if_pos c_16]; done) | (simp only [fnd, hcl_i, hcl_k, hcl_h, c_6, c_16, Bool.false_eq_true, Bool.true_eq_false, and_true, true_and, false_and, and_false, and_self, not_true_eq_false, not_false_eq_true, if_true, if_false, reduceIte, or_false, false_or, true_or, or_true]; done)) | contradiction | rfl) (by first | with_reducible rfl | (simp only [fnd, if_pos c_6, if_pos c_16]; done) | (simp only [fnd, hcl_i, hcl_k, hcl_h, c_6, c_16, Bool.false_eq_true, Bool.true_eq_false, and_true, true_and, false_and, and_false, and_self, not_true_eq_false, not_false_eq_true, if_true, if_false, reduceIte, or_false, false_or, true_or, or_true]; done) | (subst_vars; first | with_reducible rfl | (simp only [fnd, if_pos c_6, if_pos c_16]; done) | (simp only [fnd, hcl_i, hcl_k, hcl_h, c_6, c_16, Bool.false_eq_true, Bool.true_eq_false, and_true, true_and, false_and, and_false, and_self, not_true_eq_false, not_false_eq_true, if_true, if_false, reduceIte, or_false, false_or, true_or, or_true]; done)) | contradiction | rfl)
    · skip
      refine lv_aload_n hx hb dX4_rival_19 rfl (lv_at hl 0 rfl) ?_
      refine lv_iconst (v := nI 0) hx hb dX4_rival_20 (by decide) ?_
      refine wq_V S cK_ok hK hP hS (c_X4_finding (t := 0) (by decide)) gX4_rival_X4_finding i_X4_finding rfl (c_rec hK hP 0 (by decide) cE_0 rfl) ⟨Nat.le_of_ble_eq_true rfl, Nat.le_of_ble_eq_true rfl⟩ rfl hl.1 (As := [.int (nI 0)]) (rest := []) (st1 := [.int ((-1000000001))]) rfl rfl (Nat.le_of_ble_eq_true rfl) ⟨Nat.le_of_ble_eq_true rfl, Nat.le_of_ble_eq_true rfl⟩ dX4_rival_21 (fun H locs hP hS => ?_)
      subst hQ
      exact cp_ri hx hb hr hlocks hP hS dX4_rival_24 (by first | with_reducible rfl | (simp only [fnd, if_pos c_6, if_neg c_16]; done) | (simp only [fnd, c_6, c_16, Bool.false_eq_true, Bool.true_eq_false, and_true, true_and, false_and, and_false, and_self, not_true_eq_false, not_false_eq_true, if_true, if_false, reduceIte, or_false, false_or, true_or, or_true]; done) | (subst_vars; first | with_reducible rfl | (simp only [fnd, if_pos c_6, if_neg c_16]; done) | (simp only [fnd, c_6, c_16, Bool.false_eq_true, Bool.true_eq_false, and_true, true_and, false_and, and_false, and_self, not_true_eq_false, not_false_eq_true, if_true, if_false, reduceIte, or_false, false_or, true_or, or_true]; done)) | contradiction | rfl) (by first | with_reducible rfl | (simp only [fnd, if_pos c_6, if_neg c_16]; done) | (simp only [fnd, c_6, c_16, Bool.false_eq_true, Bool.true_eq_false, and_true, true_and, false_and, and_false, and_self, not_true_eq_false, not_false_eq_true, if_true, if_false, reduceIte, or_false, false_or, true_or, or_true]; done) | (subst_vars; first | with_reducible rfl | (simp only [fnd, if_pos c_6, if_neg c_16]; done) | (simp only [fnd, c_6, c_16, Bool.false_eq_true, Bool.true_eq_false, and_true, true_and, false_and, and_false, and_self, not_true_eq_false, not_false_eq_true, if_true, if_false, reduceIte, or_false, false_or, true_or, or_true]; done)) | contradiction | rfl)
theorem i_X4_rival : ciOk yX4_rival cX4_rival 5 (some .int) wsX4_rival 3 := ⟨⟨_, rfl⟩, by decide +kernel⟩
set_option maxHeartbeats 1000000 in
set_option maxRecDepth 100000 in
theorem c_X4_enough {l : Launch} {D : va_G} {cy : Nat → ClassId} {ad : Nat → Nat} {p0 : Nat → Int32} {p1 : Nat → Int32} {p2 : Nat → Int32} {ke : Int32} {tb : Nat → Int32} {t1 : Int32} {t2 : Int32} {t3 : Int32} {t4 : Int32} {t5 : Int32} {sb : Nat → Int32} {ss : Nat → Int32} {sw : Nat → Nat → Int64} {fd : Nat → Int32} {q : Int32} {N : Nat} (hN : p0 0 = nI N) (h8 : N ≤ 8) : Met l yX4_enough wsX4_enough (rmz 5 110) (wPre D (cK D cy ad) (cw cy ad (rr p0 p1 p2) ke tb t1 t2 t3 t4 t5 sb ss sw fd) [.ref (ad 0), .int (q)]) (cPub D cy ad (some (.int (if rg 1 60 q then (if nI 999999 - hrsF N q.toNatClampNeg (upd p0 2 (nI 999999)) 2 + nI 1 ≤ nI 999 then nI 999999 - hrsF N q.toNatClampNeg (upd p0 2 (nI 999999)) 2 + nI 1 else -1000000004) else -1000000001))) p0 p2 ke tb t1 sb ss sw (if rg 1 60 q then (if nI 999999 - hrsF N q.toNatClampNeg (upd p0 2 (nI 999999)) 2 + nI 1 ≤ nI 999 then fd else fnd fd 3) else fnd fd 0)) 0 0 (cA ad) := by
  refine wq_entry rfl rfl (Nat.le_of_ble_eq_true rfl) ?_
  intro p e s0 m args below meth c S hr hlocks hK hP ls hl
  have S : CallFix p m c cX4_enough 3 s0 args wsX4_enough RX4 := S
  obtain ⟨hx, hb, hml, hown, hts⟩ := id S
  have hin4 : ∀ w ∈ wsX40, w ∈ wsX4_enough := fun w h => List.mem_cons_of_mem _ (List.mem_append_left _ (List.mem_append_left _ (List.mem_append_right _ h)))
  have hin0 : ∀ w ∈ wsX00, w ∈ wsX4_enough := fun w h => List.mem_cons_of_mem _ (List.mem_append_left _ (List.mem_append_right _ h))
  have hin3 : ∀ w ∈ wsX30, w ∈ wsX4_enough := fun w h => List.mem_cons_of_mem _ (List.mem_append_right _ h)
  have hS : va_S (cA ad) s0.heap s0.heap [] := va_S.rf
  have hl : lv_has ls 3 [(0, .ref (ad 0)), (1, .int (q))] := hl
  generalize hQ : MQ below (cPub D cy ad (some (.int (if rg 1 60 q then (if nI 999999 - hrsF N q.toNatClampNeg (upd p0 2 (nI 999999)) 2 + nI 1 ≤ nI 999 then nI 999999 - hrsF N q.toNatClampNeg (upd p0 2 (nI 999999)) 2 + nI 1 else -1000000004) else -1000000001))) p0 p2 ke tb t1 sb ss sw (if rg 1 60 q then (if nI 999999 - hrsF N q.toNatClampNeg (upd p0 2 (nI 999999)) 2 + nI 1 ≤ nI 999 then fd else fnd fd 3) else fnd fd 0)) args s0 0 0 (cA ad) = Q
  refine lv_iload_n hx hb dX4_enough_0 rfl (lv_at hl 1 rfl) ?_
  refine lv_iconst (v := nI 1) hx hb dX4_enough_1 (by decide) ?_
  refine lv_bipush (v := nI 60) hx hb dX4_enough_2 (by decide) ?_
  refine sq_S S (c_X4_withinN (by decide) (by decide)) gX4_enough_X4_within i_X4_within ⟨Nat.le_of_ble_eq_true rfl, Nat.le_of_ble_eq_true rfl⟩ rfl hl.1 (As := [.int (q), .int (nI 1), .int (nI 60)]) (rest := []) (st1 := [.int (z (rg 1 60 (q)))]) rfl rfl (Nat.le_of_ble_eq_true rfl) ⟨Nat.le_of_ble_eq_true rfl, Nat.le_of_ble_eq_true rfl⟩ dX4_enough_4 ?_
  refine lvz_if_ne (tgt := 16) hx hb dX4_enough_7 (by decide) (fun c_7 => ?_) (fun c_7 => ?_)
  · skip
    obtain ⟨i, h_i, h_i2, rfl⟩ := rg_ix (a := 1) (b := 60) (by decide) c_7
    have hcl_i : (nI i).toNatClampNeg = i := nI_clamp (by omega)
    refine lv_aload_n hx hb dX4_enough_16 rfl (lv_at hl 0 rfl) ?_
    refine wq_V S cK_ok hK hP hS (c_X4_lookAhead hN h8) gX4_enough_X4_lookAhead i_X4_lookAhead rfl (c_rec hK hP 0 (by decide) cE_0 rfl) ⟨Nat.le_of_ble_eq_true rfl, Nat.le_of_ble_eq_true rfl⟩ rfl hl.1 (As := []) (rest := []) (st1 := []) rfl rfl (Nat.le_of_ble_eq_true rfl) ⟨Nat.le_of_ble_eq_true rfl, Nat.le_of_ble_eq_true rfl⟩ dX4_enough_17 (fun H locs hP hS => ?_)
    refine lv_aload_n hx hb dX4_enough_20 rfl (lv_at hl 0 rfl) ?_
    refine c_get (v := .ref (ad (1 + 10 * 1))) (C := RX4) (T := TX4) (N := 7) hx hb hts hin4 hown hK hP (0) (by decide) cE_0 rfl 1 (by decide) (Or.inl (hts (.fieldLink RX4 16 "PennyRoad" "ahead" "LPennyRoad$Road;") (by decide +kernel))) rfl dX4_enough_21 ?_
    refine lv_ldc (v := nI 999999) hx hb hown (hts (.constant RX4 150 (nI 999999)) (by decide +kernel)) dX4_enough_24 ?_
    refine c_put (w' := (cw cy ad (rr p0 (upd (cpn (5 + 8 * N) p0 p1) 2 (nI 999999)) p2) ke tb t1 t2 t3 t4 t5 sb ss sw fd)) (ty := .int) (C := RX0) (T := TX0) (N := 6) hx hb hts hin0 tyX0 tyX0_ok nmX0 hown hK hP hS (1 + 10 * 1) (by decide) (cE_rd (by decide)) rfl 1 (by decide) (Or.inr (c_nest hK 19 rfl)) rfl (by decide +kernel) rfl rfl (by show _ < 6; decide) ((cs_R (by decide) (by decide)).trans (by rw [rr_up1]; rfl)) dX4_enough_26 (fun H locs hP hS => ?_)
    refine lv_aload_n hx hb dX4_enough_29 rfl (lv_at hl 0 rfl) ?_
    refine c_get (v := .ref (ad (1 + 10 * 1))) (C := RX4) (T := TX4) (N := 7) hx hb hts hin4 hown hK hP (0) (by decide) cE_0 rfl 1 (by decide) (Or.inl (hts (.fieldLink RX4 16 "PennyRoad" "ahead" "LPennyRoad$Road;") (by decide +kernel))) rfl dX4_enough_30 ?_
    refine lv_iload_n hx hb dX4_enough_33 rfl (lv_at hl 1 rfl) ?_
    refine wq_VN (host := "PennyRoad") S cK_ok hK hP hS (c_X0_passHours_r1 ((upd_0 (by omega)).trans ((cpn_0' (j := N)).trans hN)) h8 (by omega)) gX4_enough_X0_passHours_n120 i_X0_passHours (c_nest hK 42 rfl) (hts (.initialized RX0) (by decide +kernel)) (hts (.instanceMethod yX0_passHours) (by decide +kernel)) (hts (.selects RX0 yX0_passHours yX0_passHours) (by decide +kernel)) (c_rec hK hP (1 + 10 * 1) (by decide) (cE_rd (by decide)) rfl) ⟨Nat.le_of_ble_eq_true rfl, Nat.le_of_ble_eq_true rfl⟩ rfl hl.1 (As := [.int (nI i)]) (rest := []) (st1 := []) rfl rfl (Nat.le_of_ble_eq_true rfl) ⟨Nat.le_of_ble_eq_true rfl, Nat.le_of_ble_eq_true rfl⟩ dX4_enough_34 (fun H locs hP hS => ?_)
    refine lv_ldc (v := nI 999999) hx hb hown (hts (.constant RX4 150 (nI 999999)) (by decide +kernel)) dX4_enough_37 ?_
    refine lv_aload_n hx hb dX4_enough_39 rfl (lv_at hl 0 rfl) ?_
    refine c_get (v := .ref (ad (1 + 10 * 1))) (C := RX4) (T := TX4) (N := 7) hx hb hts hin4 hown hK hP (0) (by decide) cE_0 rfl 1 (by decide) (Or.inl (hts (.fieldLink RX4 16 "PennyRoad" "ahead" "LPennyRoad$Road;") (by decide +kernel))) rfl dX4_enough_40 ?_
    refine c_get (v := .int ((hrsF N i (upd (cpn (5 + 8 * N) p0 p1) 2 (nI 999999))) 2)) (C := RX0) (T := TX0) (N := 6) hx hb hts hin0 hown hK hP (1 + 10 * 1) (by decide) (cE_rd (by decide)) rfl 1 (by decide) (Or.inr (c_nest hK 19 rfl)) rfl dX4_enough_43 ?_
    refine lv_top (hrsu_l (by omega)) ?_
    refine lv_isub hx hb dX4_enough_46 ?_
    refine lv_iconst (v := nI 1) hx hb dX4_enough_47 (by decide) ?_
    refine lv_iadd hx hb dX4_enough_48 ?_
    refine lv_istore_n (lv' := [(2, .int (((nI 999999) - (hrsF N i (upd p0 2 (nI 999999)) 2)) + (nI 1))), (0, .ref (ad 0)), (1, .int (nI i))]) hx hb dX4_enough_49 rfl hl (by decide) rfl (fun ls hl => ?_)
    refine lv_iload_n hx hb dX4_enough_50 rfl (lv_at hl 0 rfl) ?_
    refine lv_sipush (v := nI 999) hx hb dX4_enough_51 (by decide) ?_
    refine lv_icmp_gt (tgt := 61) hx hb dX4_enough_54 (by decide) (fun c_54 => ?_) (fun c_54 => ?_)
    · skip
      refine lv_aload_n hx hb dX4_enough_61 rfl (lv_at hl 1 rfl) ?_
      refine lv_iconst (v := nI 3) hx hb dX4_enough_62 (by decide) ?_
      refine wq_V S cK_ok hK hP hS (c_X4_finding (t := 3) (by decide)) gX4_enough_X4_finding i_X4_finding rfl (c_rec hK hP 0 (by decide) cE_0 rfl) ⟨Nat.le_of_ble_eq_true rfl, Nat.le_of_ble_eq_true rfl⟩ rfl hl.1 (As := [.int (nI 3)]) (rest := []) (st1 := [.int ((-1000000004))]) rfl rfl (Nat.le_of_ble_eq_true rfl) ⟨Nat.le_of_ble_eq_true rfl, Nat.le_of_ble_eq_true rfl⟩ dX4_enough_63 (fun H locs hP hS => ?_)
      subst hQ
      exact cp_ri hx hb hr hlocks hP hS dX4_enough_66 (by first | (simp only [fnd, c_7, Bool.false_eq_true, Bool.true_eq_false, and_true, true_and, false_and, and_false, and_self, not_true_eq_false, not_false_eq_true, if_true, if_false, reduceIte, or_false, false_or, true_or, or_true]; done) | (simp only [fnd, hcl_i, c_7, Bool.false_eq_true, Bool.true_eq_false, and_true, true_and, false_and, and_false, and_self, not_true_eq_false, not_false_eq_true, if_true, if_false, reduceIte, or_false, false_or, true_or, or_true]; rw [if_pos (Int32.not_lt.mp c_54)]) | (simp only [fnd, hcl_i, c_7, Bool.false_eq_true, Bool.true_eq_false, and_true, true_and, false_and, and_false, and_self, not_true_eq_false, not_false_eq_true, if_true, if_false, reduceIte, or_false, false_or, true_or, or_true]; rw [if_neg (Int32.not_le.mpr c_54)])) (by first | (simp only [fnd, c_7, Bool.false_eq_true, Bool.true_eq_false, and_true, true_and, false_and, and_false, and_self, not_true_eq_false, not_false_eq_true, if_true, if_false, reduceIte, or_false, false_or, true_or, or_true]; done) | (simp only [fnd, hcl_i, c_7, Bool.false_eq_true, Bool.true_eq_false, and_true, true_and, false_and, and_false, and_self, not_true_eq_false, not_false_eq_true, if_true, if_false, reduceIte, or_false, false_or, true_or, or_true]; rw [if_pos (Int32.not_lt.mp c_54)]) | (simp only [fnd, hcl_i, c_7, Bool.false_eq_true, Bool.true_eq_false, and_true, true_and, false_and, and_false, and_self, not_true_eq_false, not_false_eq_true, if_true, if_false, reduceIte, or_false, false_or, true_or, or_true]; rw [if_neg (Int32.not_le.mpr c_54)]))
    · skip
      refine lv_iload_n hx hb dX4_enough_57 rfl (lv_at hl 0 rfl) ?_
      refine lv_goto (tgt := 66) hx hb dX4_enough_58 (by decide) ?_
      subst hQ
      exact cp_ri hx hb hr hlocks hP hS dX4_enough_66 (by first | (simp only [fnd, c_7, Bool.false_eq_true, Bool.true_eq_false, and_true, true_and, false_and, and_false, and_self, not_true_eq_false, not_false_eq_true, if_true, if_false, reduceIte, or_false, false_or, true_or, or_true]; done) | (simp only [fnd, hcl_i, c_7, Bool.false_eq_true, Bool.true_eq_false, and_true, true_and, false_and, and_false, and_self, not_true_eq_false, not_false_eq_true, if_true, if_false, reduceIte, or_false, false_or, true_or, or_true]; rw [if_pos (Int32.not_lt.mp c_54)]) | (simp only [fnd, hcl_i, c_7, Bool.false_eq_true, Bool.true_eq_false, and_true, true_and, false_and, and_false, and_self, not_true_eq_false, not_false_eq_true, if_true, if_false, reduceIte, or_false, false_or, true_or, or_true]; rw [if_neg (Int32.not_le.mpr c_54)])) (by first | (simp only [fnd, c_7, Bool.false_eq_true, Bool.true_eq_false, and_true, true_and, false_and, and_false, and_self, not_true_eq_false, not_false_eq_true, if_true, if_false, reduceIte, or_false, false_or, true_or, or_true]; done) | (simp only [fnd, hcl_i, c_7, Bool.false_eq_true, Bool.true_eq_false, and_true, true_and, false_and, and_false, and_self, not_true_eq_false, not_false_eq_true, if_true, if_false, reduceIte, or_false, false_or, true_or, or_true]; rw [if_pos (Int32.not_lt.mp c_54)]) | (simp only [fnd, hcl_i, c_7, Bool.false_eq_true, Bool.true_eq_false, and_true, true_and, false_and, and_false, and_self, not_true_eq_false, not_false_eq_true, if_true, if_false, reduceIte, or_false, false_or, true_or, or_true]; rw [if_neg (Int32.not_le.mpr c_54)]))
  · skip
    refine lv_aload_n hx hb dX4_enough_10 rfl (lv_at hl 0 rfl) ?_
    refine lv_iconst (v := nI 0) hx hb dX4_enough_11 (by decide) ?_
    refine wq_V S cK_ok hK hP hS (c_X4_finding (t := 0) (by decide)) gX4_enough_X4_finding i_X4_finding rfl (c_rec hK hP 0 (by decide) cE_0 rfl) ⟨Nat.le_of_ble_eq_true rfl, Nat.le_of_ble_eq_true rfl⟩ rfl hl.1 (As := [.int (nI 0)]) (rest := []) (st1 := [.int ((-1000000001))]) rfl rfl (Nat.le_of_ble_eq_true rfl) ⟨Nat.le_of_ble_eq_true rfl, Nat.le_of_ble_eq_true rfl⟩ dX4_enough_12 (fun H locs hP hS => ?_)
    subst hQ
    exact cp_ri hx hb hr hlocks hP hS dX4_enough_15 (by first | (simp only [fnd, c_7, Bool.false_eq_true, Bool.true_eq_false, and_true, true_and, false_and, and_false, and_self, not_true_eq_false, not_false_eq_true, if_true, if_false, reduceIte, or_false, false_or, true_or, or_true]; done) | (simp only [fnd, hcl_i, c_7, Bool.false_eq_true, Bool.true_eq_false, and_true, true_and, false_and, and_false, and_self, not_true_eq_false, not_false_eq_true, if_true, if_false, reduceIte, or_false, false_or, true_or, or_true]; rw [if_pos (Int32.not_lt.mp c_54)]) | (simp only [fnd, hcl_i, c_7, Bool.false_eq_true, Bool.true_eq_false, and_true, true_and, false_and, and_false, and_self, not_true_eq_false, not_false_eq_true, if_true, if_false, reduceIte, or_false, false_or, true_or, or_true]; rw [if_neg (Int32.not_le.mpr c_54)])) (by first | (simp only [fnd, c_7, Bool.false_eq_true, Bool.true_eq_false, and_true, true_and, false_and, and_false, and_self, not_true_eq_false, not_false_eq_true, if_true, if_false, reduceIte, or_false, false_or, true_or, or_true]; done) | (simp only [fnd, hcl_i, c_7, Bool.false_eq_true, Bool.true_eq_false, and_true, true_and, false_and, and_false, and_self, not_true_eq_false, not_false_eq_true, if_true, if_false, reduceIte, or_false, false_or, true_or, or_true]; rw [if_pos (Int32.not_lt.mp c_54)]) | (simp only [fnd, hcl_i, c_7, Bool.false_eq_true, Bool.true_eq_false, and_true, true_and, false_and, and_false, and_self, not_true_eq_false, not_false_eq_true, if_true, if_false, reduceIte, or_false, false_or, true_or, or_true]; rw [if_neg (Int32.not_le.mpr c_54)]))
theorem i_X4_enough : ciOk yX4_enough cX4_enough 3 (some .int) wsX4_enough 1 := ⟨⟨_, rfl⟩, by decide +kernel⟩
set_option maxHeartbeats 1000000 in
set_option maxRecDepth 100000 in
theorem c_X4_wipe {l : Launch} {D : va_G} {cy : Nat → ClassId} {ad : Nat → Nat} {p0 : Nat → Int32} {p1 : Nat → Int32} {p2 : Nat → Int32} {ke : Int32} {tb : Nat → Int32} {t1 : Int32} {t2 : Int32} {t3 : Int32} {t4 : Int32} {t5 : Int32} {sb : Nat → Int32} {ss : Nat → Int32} {sw : Nat → Nat → Int64} {fd : Nat → Int32} : Met l yX4_wipe wsX4_wipe (rmz 0 0) (wPre D (cK D cy ad) (cw cy ad (rr p0 p1 p2) ke tb t1 t2 t3 t4 t5 sb ss sw fd) [.ref (ad 0)]) (cPub D cy ad (some (.int (t1))) p0 p2 ke tb (nI 0) sb ss sw fd) 0 0 (cA ad) := by
  refine wq_entry rfl rfl (Nat.le_of_ble_eq_true rfl) ?_
  intro p e s0 m args below meth c S hr hlocks hK hP ls hl
  have S : CallFix p m c cX4_wipe 2 s0 args wsX4_wipe RX4 := S
  obtain ⟨hx, hb, hml, hown, hts⟩ := id S
  have hin4 : ∀ w ∈ wsX40, w ∈ wsX4_wipe := fun w h => List.mem_cons_of_mem _ (List.mem_append_left _ (List.mem_append_right _ h))
  have hin2 : ∀ w ∈ wsX20, w ∈ wsX4_wipe := fun w h => List.mem_cons_of_mem _ (List.mem_append_right _ h)
  have hS : va_S (cA ad) s0.heap s0.heap [] := va_S.rf
  have hl : lv_has ls 2 [(0, .ref (ad 0))] := hl
  generalize hQ : MQ below (cPub D cy ad (some (.int (t1))) p0 p2 ke tb (nI 0) sb ss sw fd) args s0 0 0 (cA ad) = Q
  refine lv_aload_n hx hb dX4_wipe_0 rfl (lv_at hl 0 rfl) ?_
  refine c_get (v := .ref (ad 31)) (C := RX4) (T := TX4) (N := 7) hx hb hts hin4 hown hK hP (0) (by decide) cE_0 rfl 4 (by decide) (Or.inl (hts (.fieldLink RX4 29 "PennyRoad" "tape" "LPennyRoad$Tape;") (by decide +kernel))) rfl dX4_wipe_1 ?_
  refine c_get (v := .int (t1)) (C := RX2) (T := TX2) (N := 6) hx hb hts hin2 hown hK hP (31) (by decide) cE_tp rfl 1 (by decide) (Or.inr (c_nest hK 27 rfl)) rfl dX4_wipe_4 ?_
  refine lv_istore_n (lv' := [(1, .int (t1)), (0, .ref (ad 0))]) hx hb dX4_wipe_7 rfl hl (by decide) rfl (fun ls hl => ?_)
  refine lv_aload_n hx hb dX4_wipe_8 rfl (lv_at hl 1 rfl) ?_
  refine c_get (v := .ref (ad 31)) (C := RX4) (T := TX4) (N := 7) hx hb hts hin4 hown hK hP (0) (by decide) cE_0 rfl 4 (by decide) (Or.inl (hts (.fieldLink RX4 29 "PennyRoad" "tape" "LPennyRoad$Tape;") (by decide +kernel))) rfl dX4_wipe_9 ?_
  refine lv_iconst (v := nI 0) hx hb dX4_wipe_12 (by decide) ?_
  refine c_put (w' := (cw cy ad (rr p0 p1 p2) ke tb (nI 0) t2 t3 t4 t5 sb ss sw fd)) (ty := .int) (C := RX2) (T := TX2) (N := 6) hx hb hts hin2 tyX2 tyX2_ok nmX2 hown hK hP hS (31) (by decide) cE_tp rfl 1 (by decide) (Or.inr (c_nest hK 27 rfl)) rfl (by decide +kernel) rfl rfl (by show _ < 6; decide) cs_tp dX4_wipe_13 (fun H locs hP hS => ?_)
  refine lv_iload_n hx hb dX4_wipe_16 rfl (lv_at hl 0 rfl) ?_
  subst hQ
  exact cp_ri hx hb hr hlocks hP hS dX4_wipe_17 (by first | with_reducible rfl | (simp only [fnd]; done) | (simp only [fnd, Bool.false_eq_true, Bool.true_eq_false, and_true, true_and, false_and, and_false, and_self, not_true_eq_false, not_false_eq_true, if_true, if_false, reduceIte, or_false, false_or, true_or, or_true]; done) | (subst_vars; first | with_reducible rfl | (simp only [fnd]; done) | (simp only [fnd, Bool.false_eq_true, Bool.true_eq_false, and_true, true_and, false_and, and_false, and_self, not_true_eq_false, not_false_eq_true, if_true, if_false, reduceIte, or_false, false_or, true_or, or_true]; done)) | contradiction | rfl) (by first | with_reducible rfl | (simp only [fnd]; done) | (simp only [fnd, Bool.false_eq_true, Bool.true_eq_false, and_true, true_and, false_and, and_false, and_self, not_true_eq_false, not_false_eq_true, if_true, if_false, reduceIte, or_false, false_or, true_or, or_true]; done) | (subst_vars; first | with_reducible rfl | (simp only [fnd]; done) | (simp only [fnd, Bool.false_eq_true, Bool.true_eq_false, and_true, true_and, false_and, and_false, and_self, not_true_eq_false, not_false_eq_true, if_true, if_false, reduceIte, or_false, false_or, true_or, or_true]; done)) | contradiction | rfl)
theorem i_X4_wipe : ciOk yX4_wipe cX4_wipe 2 (some .int) wsX4_wipe 0 := ⟨⟨_, rfl⟩, by decide +kernel⟩
set_option maxHeartbeats 1000000 in
set_option maxRecDepth 100000 in
theorem c_X4_image {l : Launch} {D : va_G} {cy : Nat → ClassId} {ad : Nat → Nat} {p0 : Nat → Int32} {p1 : Nat → Int32} {p2 : Nat → Int32} {ke : Int32} {tb : Nat → Int32} {t1 : Int32} {t2 : Int32} {t3 : Int32} {t4 : Int32} {t5 : Int32} {sb : Nat → Int32} {ss : Nat → Int32} {sw : Nat → Nat → Int64} {fd : Nat → Int32} {N : Nat} (hN : p0 0 = nI N) (h8 : N ≤ 8) : Met l yX4_image wsX4_image (rmz 2 43) (wPre D (cK D cy ad) (cw cy ad (rr p0 p1 p2) ke tb t1 t2 t3 t4 t5 sb ss sw fd) [.ref (ad 0)]) (cPub D cy ad (some (.int (nI 1))) p0 (cpn (5 + 8 * N) p0 p2) (nI 1) tb t1 sb ss sw fd) 0 0 (cA ad) := by
  refine wq_entry rfl rfl (Nat.le_of_ble_eq_true rfl) ?_
  intro p e s0 m args below meth c S hr hlocks hK hP ls hl
  have S : CallFix p m c cX4_image 1 s0 args wsX4_image RX4 := S
  obtain ⟨hx, hb, hml, hown, hts⟩ := id S
  have hin4 : ∀ w ∈ wsX40, w ∈ wsX4_image := fun w h => List.mem_cons_of_mem _ (List.mem_append_left _ (List.mem_append_left _ (List.mem_append_right _ h)))
  have hin0 : ∀ w ∈ wsX00, w ∈ wsX4_image := fun w h => List.mem_cons_of_mem _ (List.mem_append_left _ (List.mem_append_right _ h))
  have hin3 : ∀ w ∈ wsX30, w ∈ wsX4_image := fun w h => List.mem_cons_of_mem _ (List.mem_append_right _ h)
  have hS : va_S (cA ad) s0.heap s0.heap [] := va_S.rf
  have hl : lv_has ls 1 [(0, .ref (ad 0))] := hl
  generalize hQ : MQ below (cPub D cy ad (some (.int (nI 1))) p0 (cpn (5 + 8 * N) p0 p2) (nI 1) tb t1 sb ss sw fd) args s0 0 0 (cA ad) = Q
  refine lv_aload_n hx hb dX4_image_0 rfl (lv_at hl 0 rfl) ?_
  refine c_get (v := .ref (ad (1 + 10 * 2))) (C := RX4) (T := TX4) (N := 7) hx hb hts hin4 hown hK hP (0) (by decide) cE_0 rfl 2 (by decide) (Or.inl (hts (.fieldLink RX4 19 "PennyRoad" "kept" "LPennyRoad$Road;") (by decide +kernel))) rfl dX4_image_1 ?_
  refine lv_aload_n hx hb dX4_image_4 rfl (lv_at hl 0 rfl) ?_
  refine c_get (v := .ref (ad (1 + 10 * 0))) (C := RX4) (T := TX4) (N := 7) hx hb hts hin4 hown hK hP (0) (by decide) cE_0 rfl 0 (by decide) (Or.inl (hts (.fieldLink RX4 10 "PennyRoad" "present" "LPennyRoad$Road;") (by decide +kernel))) rfl dX4_image_5 ?_
  refine wq_VN (host := "PennyRoad") S cK_ok hK hP hS (c_X0_takeFrom_r20 hN h8) gX4_image_X0_takeFrom_n172 i_X0_takeFrom (c_nest hK 47 rfl) (hts (.initialized RX0) (by decide +kernel)) (hts (.instanceMethod yX0_takeFrom) (by decide +kernel)) (hts (.selects RX0 yX0_takeFrom yX0_takeFrom) (by decide +kernel)) (c_rec hK hP (1 + 10 * 2) (by decide) (cE_rd (by decide)) rfl) ⟨Nat.le_of_ble_eq_true rfl, Nat.le_of_ble_eq_true rfl⟩ rfl hl.1 (As := [.ref (ad (1 + 10 * 0))]) (rest := []) (st1 := []) rfl rfl (Nat.le_of_ble_eq_true rfl) ⟨Nat.le_of_ble_eq_true rfl, Nat.le_of_ble_eq_true rfl⟩ dX4_image_8 (fun H locs hP hS => ?_)
  refine lv_aload_n hx hb dX4_image_11 rfl (lv_at hl 0 rfl) ?_
  refine lv_iconst (v := nI 1) hx hb dX4_image_12 (by decide) ?_
  refine c_put (w' := (cw cy ad (rr p0 p1 (cpn (5 + 8 * N) p0 p2)) (nI 1) tb t1 t2 t3 t4 t5 sb ss sw fd)) (ty := .boolean) (C := RX4) (T := TX4) (N := 7) hx hb hts hin4 tyX4 tyX4_ok nmX4 hown hK hP hS (0) (by decide) cE_0 rfl 3 (by decide) (Or.inl (hts (.fieldLink RX4 22 "PennyRoad" "keeps" "Z") (by decide +kernel))) rfl (by decide +kernel) rfl rfl (by show _ < 7; decide) cs_ke dX4_image_13 (fun H locs hP hS => ?_)
  refine lv_iconst (v := nI 1) hx hb dX4_image_16 (by decide) ?_
  subst hQ
  exact cp_ri hx hb hr hlocks hP hS dX4_image_17 (by first | with_reducible rfl | (simp only [fnd]; done) | (simp only [fnd, Bool.false_eq_true, Bool.true_eq_false, and_true, true_and, false_and, and_false, and_self, not_true_eq_false, not_false_eq_true, if_true, if_false, reduceIte, or_false, false_or, true_or, or_true]; done) | (subst_vars; first | with_reducible rfl | (simp only [fnd]; done) | (simp only [fnd, Bool.false_eq_true, Bool.true_eq_false, and_true, true_and, false_and, and_false, and_self, not_true_eq_false, not_false_eq_true, if_true, if_false, reduceIte, or_false, false_or, true_or, or_true]; done)) | contradiction | rfl) (by first | with_reducible rfl | (simp only [fnd]; done) | (simp only [fnd, Bool.false_eq_true, Bool.true_eq_false, and_true, true_and, false_and, and_false, and_self, not_true_eq_false, not_false_eq_true, if_true, if_false, reduceIte, or_false, false_or, true_or, or_true]; done) | (subst_vars; first | with_reducible rfl | (simp only [fnd]; done) | (simp only [fnd, Bool.false_eq_true, Bool.true_eq_false, and_true, true_and, false_and, and_false, and_self, not_true_eq_false, not_false_eq_true, if_true, if_false, reduceIte, or_false, false_or, true_or, or_true]; done)) | contradiction | rfl)
theorem i_X4_image : ciOk yX4_image cX4_image 1 (some .int) wsX4_image 0 := ⟨⟨_, rfl⟩, by decide +kernel⟩
set_option maxHeartbeats 1000000 in
set_option maxRecDepth 100000 in
theorem c_X4_undo {l : Launch} {D : va_G} {cy : Nat → ClassId} {ad : Nat → Nat} {p0 : Nat → Int32} {p1 : Nat → Int32} {p2 : Nat → Int32} {ke : Int32} {tb : Nat → Int32} {t1 : Int32} {t2 : Int32} {t3 : Int32} {t4 : Int32} {t5 : Int32} {sb : Nat → Int32} {ss : Nat → Int32} {sw : Nat → Nat → Int64} {fd : Nat → Int32} {N : Nat} (hN2 : p2 0 = nI N) (h8 : N ≤ 8) : Met l yX4_undo wsX4_undo (rmz 2 43) (wPre D (cK D cy ad) (cw cy ad (rr p0 p1 p2) ke tb t1 t2 t3 t4 t5 sb ss sw fd) [.ref (ad 0)]) (cPub D cy ad (some (.int (if ke = 0 then -1000000004 else nI N))) (if ke = 0 then p0 else cpn (5 + 8 * N) p2 p0) p2 ke tb t1 sb ss sw (if ke = 0 then fnd fd 3 else fd)) 0 0 (cA ad) := by
  refine wq_entry rfl rfl (Nat.le_of_ble_eq_true rfl) ?_
  intro p e s0 m args below meth c S hr hlocks hK hP ls hl
  have S : CallFix p m c cX4_undo 1 s0 args wsX4_undo RX4 := S
  obtain ⟨hx, hb, hml, hown, hts⟩ := id S
  have hin4 : ∀ w ∈ wsX40, w ∈ wsX4_undo := fun w h => List.mem_cons_of_mem _ (List.mem_append_left _ (List.mem_append_left _ (List.mem_append_right _ h)))
  have hin0 : ∀ w ∈ wsX00, w ∈ wsX4_undo := fun w h => List.mem_cons_of_mem _ (List.mem_append_left _ (List.mem_append_right _ h))
  have hin3 : ∀ w ∈ wsX30, w ∈ wsX4_undo := fun w h => List.mem_cons_of_mem _ (List.mem_append_right _ h)
  have hS : va_S (cA ad) s0.heap s0.heap [] := va_S.rf
  have hl : lv_has ls 1 [(0, .ref (ad 0))] := hl
  generalize hQ : MQ below (cPub D cy ad (some (.int (if ke = 0 then -1000000004 else nI N))) (if ke = 0 then p0 else cpn (5 + 8 * N) p2 p0) p2 ke tb t1 sb ss sw (if ke = 0 then fnd fd 3 else fd)) args s0 0 0 (cA ad) = Q
  refine lv_aload_n hx hb dX4_undo_0 rfl (lv_at hl 0 rfl) ?_
  refine c_get (v := .int (ke)) (C := RX4) (T := TX4) (N := 7) hx hb hts hin4 hown hK hP (0) (by decide) cE_0 rfl 3 (by decide) (Or.inl (hts (.fieldLink RX4 22 "PennyRoad" "keeps" "Z") (by decide +kernel))) rfl dX4_undo_1 ?_
  refine lv_if_ne (tgt := 13) hx hb dX4_undo_4 (by decide) (fun c_4 => ?_) (fun c_4 => ?_)
  · skip
    refine lv_aload_n hx hb dX4_undo_13 rfl (lv_at hl 0 rfl) ?_
    refine c_get (v := .ref (ad (1 + 10 * 0))) (C := RX4) (T := TX4) (N := 7) hx hb hts hin4 hown hK hP (0) (by decide) cE_0 rfl 0 (by decide) (Or.inl (hts (.fieldLink RX4 10 "PennyRoad" "present" "LPennyRoad$Road;") (by decide +kernel))) rfl dX4_undo_14 ?_
    refine lv_aload_n hx hb dX4_undo_17 rfl (lv_at hl 0 rfl) ?_
    refine c_get (v := .ref (ad (1 + 10 * 2))) (C := RX4) (T := TX4) (N := 7) hx hb hts hin4 hown hK hP (0) (by decide) cE_0 rfl 2 (by decide) (Or.inl (hts (.fieldLink RX4 19 "PennyRoad" "kept" "LPennyRoad$Road;") (by decide +kernel))) rfl dX4_undo_18 ?_
    refine wq_VN (host := "PennyRoad") S cK_ok hK hP hS (c_X0_takeFrom_r02 hN2 h8) gX4_undo_X0_takeFrom_n172 i_X0_takeFrom (c_nest hK 47 rfl) (hts (.initialized RX0) (by decide +kernel)) (hts (.instanceMethod yX0_takeFrom) (by decide +kernel)) (hts (.selects RX0 yX0_takeFrom yX0_takeFrom) (by decide +kernel)) (c_rec hK hP (1 + 10 * 0) (by decide) (cE_rd (by decide)) rfl) ⟨Nat.le_of_ble_eq_true rfl, Nat.le_of_ble_eq_true rfl⟩ rfl hl.1 (As := [.ref (ad (1 + 10 * 2))]) (rest := []) (st1 := []) rfl rfl (Nat.le_of_ble_eq_true rfl) ⟨Nat.le_of_ble_eq_true rfl, Nat.le_of_ble_eq_true rfl⟩ dX4_undo_21 (fun H locs hP hS => ?_)
    refine lv_aload_n hx hb dX4_undo_24 rfl (lv_at hl 0 rfl) ?_
    refine c_get (v := .ref (ad (1 + 10 * 0))) (C := RX4) (T := TX4) (N := 7) hx hb hts hin4 hown hK hP (0) (by decide) cE_0 rfl 0 (by decide) (Or.inl (hts (.fieldLink RX4 10 "PennyRoad" "present" "LPennyRoad$Road;") (by decide +kernel))) rfl dX4_undo_25 ?_
    refine c_get (v := .int ((cpn (5 + 8 * N) p2 p0) 0)) (C := RX0) (T := TX0) (N := 6) hx hb hts hin0 hown hK hP (1 + 10 * 0) (by decide) (cE_rd (by decide)) rfl 4 (by decide) (Or.inr (c_nest hK 25 rfl)) rfl dX4_undo_28 ?_
    refine lv_top ((cpn_0' (j := N)).trans hN2) ?_
    subst hQ
    exact cp_ri hx hb hr hlocks hP hS dX4_undo_31 (by first | with_reducible rfl | (simp only [fnd, if_neg c_4]; done) | (simp only [fnd, if_neg c_4, Bool.false_eq_true, Bool.true_eq_false, and_true, true_and, false_and, and_false, and_self, not_true_eq_false, not_false_eq_true, if_true, if_false, reduceIte, or_false, false_or, true_or, or_true]; done) | (subst_vars; first | with_reducible rfl | (simp only [fnd, if_neg c_4]; done) | (simp only [fnd, if_neg c_4, Bool.false_eq_true, Bool.true_eq_false, and_true, true_and, false_and, and_false, and_self, not_true_eq_false, not_false_eq_true, if_true, if_false, reduceIte, or_false, false_or, true_or, or_true]; done)) | contradiction | rfl) (by first | with_reducible rfl | (simp only [fnd, if_neg c_4]; done) | (simp only [fnd, if_neg c_4, Bool.false_eq_true, Bool.true_eq_false, and_true, true_and, false_and, and_false, and_self, not_true_eq_false, not_false_eq_true, if_true, if_false, reduceIte, or_false, false_or, true_or, or_true]; done) | (subst_vars; first | with_reducible rfl | (simp only [fnd, if_neg c_4]; done) | (simp only [fnd, if_neg c_4, Bool.false_eq_true, Bool.true_eq_false, and_true, true_and, false_and, and_false, and_self, not_true_eq_false, not_false_eq_true, if_true, if_false, reduceIte, or_false, false_or, true_or, or_true]; done)) | contradiction | rfl)
  · skip
    refine lv_aload_n hx hb dX4_undo_7 rfl (lv_at hl 0 rfl) ?_
    refine lv_iconst (v := nI 3) hx hb dX4_undo_8 (by decide) ?_
    refine wq_V S cK_ok hK hP hS (c_X4_finding (t := 3) (by decide)) gX4_undo_X4_finding i_X4_finding rfl (c_rec hK hP 0 (by decide) cE_0 rfl) ⟨Nat.le_of_ble_eq_true rfl, Nat.le_of_ble_eq_true rfl⟩ rfl hl.1 (As := [.int (nI 3)]) (rest := []) (st1 := [.int ((-1000000004))]) rfl rfl (Nat.le_of_ble_eq_true rfl) ⟨Nat.le_of_ble_eq_true rfl, Nat.le_of_ble_eq_true rfl⟩ dX4_undo_9 (fun H locs hP hS => ?_)
    subst hQ
    exact cp_ri hx hb hr hlocks hP hS dX4_undo_12 (by first | with_reducible rfl | (simp only [fnd, if_pos c_4]; done) | (simp only [fnd, if_pos c_4, Bool.false_eq_true, Bool.true_eq_false, and_true, true_and, false_and, and_false, and_self, not_true_eq_false, not_false_eq_true, if_true, if_false, reduceIte, or_false, false_or, true_or, or_true]; done) | (subst_vars; first | with_reducible rfl | (simp only [fnd, if_pos c_4]; done) | (simp only [fnd, if_pos c_4, Bool.false_eq_true, Bool.true_eq_false, and_true, true_and, false_and, and_false, and_self, not_true_eq_false, not_false_eq_true, if_true, if_false, reduceIte, or_false, false_or, true_or, or_true]; done)) | contradiction | rfl) (by first | with_reducible rfl | (simp only [fnd, if_pos c_4]; done) | (simp only [fnd, if_pos c_4, Bool.false_eq_true, Bool.true_eq_false, and_true, true_and, false_and, and_false, and_self, not_true_eq_false, not_false_eq_true, if_true, if_false, reduceIte, or_false, false_or, true_or, or_true]; done) | (subst_vars; first | with_reducible rfl | (simp only [fnd, if_pos c_4]; done) | (simp only [fnd, if_pos c_4, Bool.false_eq_true, Bool.true_eq_false, and_true, true_and, false_and, and_false, and_self, not_true_eq_false, not_false_eq_true, if_true, if_false, reduceIte, or_false, false_or, true_or, or_true]; done)) | contradiction | rfl)
theorem i_X4_undo : ciOk yX4_undo cX4_undo 1 (some .int) wsX4_undo 0 := ⟨⟨_, rfl⟩, by decide +kernel⟩
set_option maxHeartbeats 1000000 in
set_option maxRecDepth 100000 in
theorem c_X4_tear {l : Launch} {D : va_G} {cy : Nat → ClassId} {ad : Nat → Nat} {p0 : Nat → Int32} {p1 : Nat → Int32} {p2 : Nat → Int32} {ke : Int32} {tb : Nat → Int32} {t1 : Int32} {t2 : Int32} {t3 : Int32} {t4 : Int32} {t5 : Int32} {sb : Nat → Int32} {ss : Nat → Int32} {sw : Nat → Nat → Int64} {fd : Nat → Int32} : Met l yX4_tear wsX4_tear (rmz 0 0) (wPre D (cK D cy ad) (cw cy ad (rr p0 p1 p2) ke tb t1 t2 t3 t4 t5 sb ss sw fd) [.ref (ad 0)]) (cPub D cy ad (some (.int (if ke = 0 then nI 0 else nI 1))) p0 p2 (nI 0) tb t1 sb ss sw fd) 0 0 (cA ad) := by
  refine wq_entry rfl rfl (Nat.le_of_ble_eq_true rfl) ?_
  intro p e s0 m args below meth c S hr hlocks hK hP ls hl
  have S : CallFix p m c cX4_tear 2 s0 args wsX4_tear RX4 := S
  obtain ⟨hx, hb, hml, hown, hts⟩ := id S
  have hin4 : ∀ w ∈ wsX40, w ∈ wsX4_tear := fun w h => List.mem_cons_of_mem _ (List.mem_append_right _ h)
  have hS : va_S (cA ad) s0.heap s0.heap [] := va_S.rf
  have hl : lv_has ls 2 [(0, .ref (ad 0))] := hl
  generalize hQ : MQ below (cPub D cy ad (some (.int (if ke = 0 then nI 0 else nI 1))) p0 p2 (nI 0) tb t1 sb ss sw fd) args s0 0 0 (cA ad) = Q
  refine lv_aload_n hx hb dX4_tear_0 rfl (lv_at hl 0 rfl) ?_
  refine c_get (v := .int (ke)) (C := RX4) (T := TX4) (N := 7) hx hb hts hin4 hown hK hP (0) (by decide) cE_0 rfl 3 (by decide) (Or.inl (hts (.fieldLink RX4 22 "PennyRoad" "keeps" "Z") (by decide +kernel))) rfl dX4_tear_1 ?_
  have K_1 : ∀ (x_2 : Int32) (H : Heap) (locs : List Loc) (ls : Array Slot), x_2 = (if (ke) = 0 then (nI 0) else (nI 1)) → va_P D vwCl (cw cy ad (rr p0 p1 p2) ke tb t1 t2 t3 t4 t5 sb ss sw fd) H → va_S (cA ad) s0.heap H locs → lv_has ls 2 [(0, .ref (ad 0))] → W p l e (rmz 0 0) s0 m args below meth c H locs 0 0 Q (F0 m 12 ls [.int (x_2)]) := by
    intro x_2 H locs ls ex_2 hP hS hl
    refine lv_istore_n (lv' := [(1, .int (x_2)), (0, .ref (ad 0))]) hx hb dX4_tear_12 rfl hl (by decide) rfl (fun ls hl => ?_)
    refine lv_aload_n hx hb dX4_tear_13 rfl (lv_at hl 1 rfl) ?_
    refine lv_iconst (v := nI 0) hx hb dX4_tear_14 (by decide) ?_
    refine c_put (w' := (cw cy ad (rr p0 p1 p2) (nI 0) tb t1 t2 t3 t4 t5 sb ss sw fd)) (ty := .boolean) (C := RX4) (T := TX4) (N := 7) hx hb hts hin4 tyX4 tyX4_ok nmX4 hown hK hP hS (0) (by decide) cE_0 rfl 3 (by decide) (Or.inl (hts (.fieldLink RX4 22 "PennyRoad" "keeps" "Z") (by decide +kernel))) rfl (by decide +kernel) rfl rfl (by show _ < 7; decide) cs_ke dX4_tear_15 (fun H locs hP hS => ?_)
    refine lv_iload_n hx hb dX4_tear_18 rfl (lv_at hl 0 rfl) ?_
    subst hQ
    exact cp_ri hx hb hr hlocks hP hS dX4_tear_19 (by first | with_reducible rfl | (simp only [fnd]; done) | (simp only [fnd, Bool.false_eq_true, Bool.true_eq_false, and_true, true_and, false_and, and_false, and_self, not_true_eq_false, not_false_eq_true, if_true, if_false, reduceIte, or_false, false_or, true_or, or_true]; done) | (subst_vars; first | with_reducible rfl | (simp only [fnd]; done) | (simp only [fnd, Bool.false_eq_true, Bool.true_eq_false, and_true, true_and, false_and, and_false, and_self, not_true_eq_false, not_false_eq_true, if_true, if_false, reduceIte, or_false, false_or, true_or, or_true]; done)) | contradiction | rfl) (by first | with_reducible rfl | (simp only [fnd]; done) | (simp only [fnd, Bool.false_eq_true, Bool.true_eq_false, and_true, true_and, false_and, and_false, and_self, not_true_eq_false, not_false_eq_true, if_true, if_false, reduceIte, or_false, false_or, true_or, or_true]; done) | (subst_vars; first | with_reducible rfl | (simp only [fnd]; done) | (simp only [fnd, Bool.false_eq_true, Bool.true_eq_false, and_true, true_and, false_and, and_false, and_self, not_true_eq_false, not_false_eq_true, if_true, if_false, reduceIte, or_false, false_or, true_or, or_true]; done)) | contradiction | rfl)
  refine lv_if_eq (tgt := 11) hx hb dX4_tear_4 (by decide) (fun c_4 => ?_) (fun c_4 => ?_)
  · skip
    refine lv_iconst (v := nI 0) hx hb dX4_tear_11 (by decide) ?_
    exact K_1 (nI 0) _ _ ls (by simp only [if_pos c_4]) hP hS hl
  · skip
    refine lv_iconst (v := nI 1) hx hb dX4_tear_7 (by decide) ?_
    refine lv_goto (tgt := 12) hx hb dX4_tear_8 (by decide) ?_
    exact K_1 (nI 1) _ _ ls (by simp only [if_neg c_4]) hP hS hl
theorem i_X4_tear : ciOk yX4_tear cX4_tear 2 (some .int) wsX4_tear 0 := ⟨⟨_, rfl⟩, by decide +kernel⟩
set_option maxHeartbeats 1000000 in
set_option maxRecDepth 100000 in
theorem c_X4_count {l : Launch} {D : va_G} {cy : Nat → ClassId} {ad : Nat → Nat} {p0 : Nat → Int32} {p1 : Nat → Int32} {p2 : Nat → Int32} {ke : Int32} {tb : Nat → Int32} {t1 : Int32} {t2 : Int32} {t3 : Int32} {t4 : Int32} {t5 : Int32} {sb : Nat → Int32} {ss : Nat → Int32} {sw : Nat → Nat → Int64} {fd : Nat → Int32} {q : Int32} {N : Nat} (hN : p0 0 = nI N) (h8 : N ≤ 8) : Met l yX4_count wsX4_count (rmz 2 44) (wPre D (cK D cy ad) (cw cy ad (rr p0 p1 p2) ke tb t1 t2 t3 t4 t5 sb ss sw fd) [.ref (ad 0), .int (q)]) (cPub D cy ad (some (.int (countF p0 N t1 q))) p0 p2 ke tb t1 sb ss sw (if rg 0 3 q then fd else fnd fd 0)) 0 0 (cA ad) := by
  refine wq_entry rfl rfl (Nat.le_of_ble_eq_true rfl) ?_
  intro p e s0 m args below meth c S hr hlocks hK hP ls hl
  have S : CallFix p m c cX4_count 2 s0 args wsX4_count RX4 := S
  obtain ⟨hx, hb, hml, hown, hts⟩ := id S
  have hin4 : ∀ w ∈ wsX40, w ∈ wsX4_count := fun w h => List.mem_cons_of_mem _ (List.mem_append_left _ (List.mem_append_left _ (List.mem_append_left _ (List.mem_append_right _ h))))
  have hin0 : ∀ w ∈ wsX00, w ∈ wsX4_count := fun w h => List.mem_cons_of_mem _ (List.mem_append_left _ (List.mem_append_left _ (List.mem_append_right _ h)))
  have hin2 : ∀ w ∈ wsX20, w ∈ wsX4_count := fun w h => List.mem_cons_of_mem _ (List.mem_append_left _ (List.mem_append_right _ h))
  have hin3 : ∀ w ∈ wsX30, w ∈ wsX4_count := fun w h => List.mem_cons_of_mem _ (List.mem_append_right _ h)
  have hS : va_S (cA ad) s0.heap s0.heap [] := va_S.rf
  have hl : lv_has ls 2 [(0, .ref (ad 0)), (1, .int (q))] := hl
  generalize hQ : MQ below (cPub D cy ad (some (.int (countF p0 N t1 q))) p0 p2 ke tb t1 sb ss sw (if rg 0 3 q then fd else fnd fd 0)) args s0 0 0 (cA ad) = Q
  refine lv_iload_n hx hb dX4_count_0 rfl (lv_at hl 1 rfl) ?_
  by_cases c_1_0 : q = nI 0
  · skip
    refine lv_tableIn (tgt := 32) hx hb dX4_count_1 (by rw [c_1_0]; decide) (by rw [c_1_0]; decide) (by rw [c_1_0]; rfl) (by decide) ?_
    refine lv_aload_n hx hb dX4_count_32 rfl (lv_at hl 0 rfl) ?_
    refine c_get (v := .ref (ad (1 + 10 * 0))) (C := RX4) (T := TX4) (N := 7) hx hb hts hin4 hown hK hP (0) (by decide) cE_0 rfl 0 (by decide) (Or.inl (hts (.fieldLink RX4 10 "PennyRoad" "present" "LPennyRoad$Road;") (by decide +kernel))) rfl dX4_count_33 ?_
    refine c_get (v := .int (p0 0)) (C := RX0) (T := TX0) (N := 6) hx hb hts hin0 hown hK hP (1 + 10 * 0) (by decide) (cE_rd (by decide)) rfl 4 (by decide) (Or.inr (c_nest hK 25 rfl)) rfl dX4_count_36 ?_
    refine lv_top hN ?_
    subst hQ
    exact cp_ri hx hb hr hlocks hP hS dX4_count_39 (by first | with_reducible rfl | (simp only [fnd, countF, if_pos c_1_0]; done) | (simp only [fnd, countF, if_pos c_1_0, Bool.false_eq_true, Bool.true_eq_false, and_true, true_and, false_and, and_false, and_self, not_true_eq_false, not_false_eq_true, if_true, if_false, reduceIte, or_false, false_or, true_or, or_true]; done) | (subst_vars; first | with_reducible rfl | (simp only [fnd, countF, if_pos c_1_0]; done) | (simp only [fnd, countF, if_pos c_1_0, Bool.false_eq_true, Bool.true_eq_false, and_true, true_and, false_and, and_false, and_self, not_true_eq_false, not_false_eq_true, if_true, if_false, reduceIte, or_false, false_or, true_or, or_true]; done)) | contradiction | rfl) (by first | (subst_vars; rfl) | (rw [if_neg (rg03 c_1_0 c_1_1 c_1_2 c_1_3)]; rfl))
  by_cases c_1_1 : q = nI 1
  · skip
    refine lv_tableIn (tgt := 40) hx hb dX4_count_1 (by rw [c_1_1]; decide) (by rw [c_1_1]; decide) (by rw [c_1_1]; rfl) (by decide) ?_
    refine lv_aload_n hx hb dX4_count_40 rfl (lv_at hl 0 rfl) ?_
    refine c_get (v := .ref (ad 31)) (C := RX4) (T := TX4) (N := 7) hx hb hts hin4 hown hK hP (0) (by decide) cE_0 rfl 4 (by decide) (Or.inl (hts (.fieldLink RX4 29 "PennyRoad" "tape" "LPennyRoad$Tape;") (by decide +kernel))) rfl dX4_count_41 ?_
    refine c_get (v := .int (t1)) (C := RX2) (T := TX2) (N := 6) hx hb hts hin2 hown hK hP (31) (by decide) cE_tp rfl 1 (by decide) (Or.inr (c_nest hK 27 rfl)) rfl dX4_count_44 ?_
    subst hQ
    exact cp_ri hx hb hr hlocks hP hS dX4_count_47 (by first | with_reducible rfl | (simp only [fnd, countF, if_neg c_1_0, if_pos c_1_1]; done) | (simp only [fnd, countF, if_neg c_1_0, if_pos c_1_1, Bool.false_eq_true, Bool.true_eq_false, and_true, true_and, false_and, and_false, and_self, not_true_eq_false, not_false_eq_true, if_true, if_false, reduceIte, or_false, false_or, true_or, or_true]; done) | (subst_vars; first | with_reducible rfl | (simp only [fnd, countF, if_neg c_1_0, if_pos c_1_1]; done) | (simp only [fnd, countF, if_neg c_1_0, if_pos c_1_1, Bool.false_eq_true, Bool.true_eq_false, and_true, true_and, false_and, and_false, and_self, not_true_eq_false, not_false_eq_true, if_true, if_false, reduceIte, or_false, false_or, true_or, or_true]; done)) | contradiction | rfl) (by first | (subst_vars; rfl) | (rw [if_neg (rg03 c_1_0 c_1_1 c_1_2 c_1_3)]; rfl))
  by_cases c_1_2 : q = nI 2
  · skip
    refine lv_tableIn (tgt := 48) hx hb dX4_count_1 (by rw [c_1_2]; decide) (by rw [c_1_2]; decide) (by rw [c_1_2]; rfl) (by decide) ?_
    refine lv_aload_n hx hb dX4_count_48 rfl (lv_at hl 0 rfl) ?_
    refine c_get (v := .ref (ad (1 + 10 * 0))) (C := RX4) (T := TX4) (N := 7) hx hb hts hin4 hown hK hP (0) (by decide) cE_0 rfl 0 (by decide) (Or.inl (hts (.fieldLink RX4 10 "PennyRoad" "present" "LPennyRoad$Road;") (by decide +kernel))) rfl dX4_count_49 ?_
    refine lv_iconst (v := nI 2) hx hb dX4_count_52 (by decide) ?_
    refine wq_VN (host := "PennyRoad") S cK_ok hK hP hS (c_X0_sumOf_r0 hN h8 (by omega) (by omega)) gX4_count_X0_sumOf_n124 i_X0_sumOf (c_nest hK 44 rfl) (hts (.initialized RX0) (by decide +kernel)) (hts (.instanceMethod yX0_sumOf) (by decide +kernel)) (hts (.selects RX0 yX0_sumOf yX0_sumOf) (by decide +kernel)) (c_rec hK hP (1 + 10 * 0) (by decide) (cE_rd (by decide)) rfl) ⟨Nat.le_of_ble_eq_true rfl, Nat.le_of_ble_eq_true rfl⟩ rfl hl.1 (As := [.int (nI 2)]) (rest := []) (st1 := [.int (sumL p0 2 N 0 (nI 0))]) rfl rfl (Nat.le_of_ble_eq_true rfl) ⟨Nat.le_of_ble_eq_true rfl, Nat.le_of_ble_eq_true rfl⟩ dX4_count_53 (fun H locs hP hS => ?_)
    subst hQ
    exact cp_ri hx hb hr hlocks hP hS dX4_count_56 (by first | with_reducible rfl | (simp only [fnd, countF, if_neg c_1_0, if_neg c_1_1, if_pos c_1_2]; done) | (simp only [fnd, countF, if_neg c_1_0, if_neg c_1_1, if_pos c_1_2, Bool.false_eq_true, Bool.true_eq_false, and_true, true_and, false_and, and_false, and_self, not_true_eq_false, not_false_eq_true, if_true, if_false, reduceIte, or_false, false_or, true_or, or_true]; done) | (subst_vars; first | with_reducible rfl | (simp only [fnd, countF, if_neg c_1_0, if_neg c_1_1, if_pos c_1_2]; done) | (simp only [fnd, countF, if_neg c_1_0, if_neg c_1_1, if_pos c_1_2, Bool.false_eq_true, Bool.true_eq_false, and_true, true_and, false_and, and_false, and_self, not_true_eq_false, not_false_eq_true, if_true, if_false, reduceIte, or_false, false_or, true_or, or_true]; done)) | contradiction | rfl) (by first | (subst_vars; rfl) | (rw [if_neg (rg03 c_1_0 c_1_1 c_1_2 c_1_3)]; rfl))
  by_cases c_1_3 : q = nI 3
  · skip
    refine lv_tableIn (tgt := 57) hx hb dX4_count_1 (by rw [c_1_3]; decide) (by rw [c_1_3]; decide) (by rw [c_1_3]; rfl) (by decide) ?_
    refine lv_aload_n hx hb dX4_count_57 rfl (lv_at hl 0 rfl) ?_
    refine c_get (v := .ref (ad (1 + 10 * 0))) (C := RX4) (T := TX4) (N := 7) hx hb hts hin4 hown hK hP (0) (by decide) cE_0 rfl 0 (by decide) (Or.inl (hts (.fieldLink RX4 10 "PennyRoad" "present" "LPennyRoad$Road;") (by decide +kernel))) rfl dX4_count_58 ?_
    refine lv_iconst (v := nI 3) hx hb dX4_count_61 (by decide) ?_
    refine wq_VN (host := "PennyRoad") S cK_ok hK hP hS (c_X0_sumOf_r0 hN h8 (by omega) (by omega)) gX4_count_X0_sumOf_n124 i_X0_sumOf (c_nest hK 44 rfl) (hts (.initialized RX0) (by decide +kernel)) (hts (.instanceMethod yX0_sumOf) (by decide +kernel)) (hts (.selects RX0 yX0_sumOf yX0_sumOf) (by decide +kernel)) (c_rec hK hP (1 + 10 * 0) (by decide) (cE_rd (by decide)) rfl) ⟨Nat.le_of_ble_eq_true rfl, Nat.le_of_ble_eq_true rfl⟩ rfl hl.1 (As := [.int (nI 3)]) (rest := []) (st1 := [.int (sumL p0 3 N 0 (nI 0))]) rfl rfl (Nat.le_of_ble_eq_true rfl) ⟨Nat.le_of_ble_eq_true rfl, Nat.le_of_ble_eq_true rfl⟩ dX4_count_62 (fun H locs hP hS => ?_)
    subst hQ
    exact cp_ri hx hb hr hlocks hP hS dX4_count_65 (by first | with_reducible rfl | (simp only [fnd, countF, if_neg c_1_0, if_neg c_1_1, if_neg c_1_2, if_pos c_1_3]; done) | (simp only [fnd, countF, if_neg c_1_0, if_neg c_1_1, if_neg c_1_2, if_pos c_1_3, Bool.false_eq_true, Bool.true_eq_false, and_true, true_and, false_and, and_false, and_self, not_true_eq_false, not_false_eq_true, if_true, if_false, reduceIte, or_false, false_or, true_or, or_true]; done) | (subst_vars; first | with_reducible rfl | (simp only [fnd, countF, if_neg c_1_0, if_neg c_1_1, if_neg c_1_2, if_pos c_1_3]; done) | (simp only [fnd, countF, if_neg c_1_0, if_neg c_1_1, if_neg c_1_2, if_pos c_1_3, Bool.false_eq_true, Bool.true_eq_false, and_true, true_and, false_and, and_false, and_self, not_true_eq_false, not_false_eq_true, if_true, if_false, reduceIte, or_false, false_or, true_or, or_true]; done)) | contradiction | rfl) (by first | (subst_vars; rfl) | (rw [if_neg (rg03 c_1_0 c_1_1 c_1_2 c_1_3)]; rfl))
  refine lv_tableOut (tgt := 66) hx hb dX4_count_1 (by have h0 : (q).toInt ≠ 0 := ne_int c_1_0; have h1 : (q).toInt ≠ 1 := ne_int c_1_1; have h2 : (q).toInt ≠ 2 := ne_int c_1_2; have h3 : (q).toInt ≠ 3 := ne_int c_1_3; omega) (by decide) ?_
  refine lv_aload_n hx hb dX4_count_66 rfl (lv_at hl 0 rfl) ?_
  refine lv_iconst (v := nI 0) hx hb dX4_count_67 (by decide) ?_
  refine wq_V S cK_ok hK hP hS (c_X4_finding (t := 0) (by decide)) gX4_count_X4_finding i_X4_finding rfl (c_rec hK hP 0 (by decide) cE_0 rfl) ⟨Nat.le_of_ble_eq_true rfl, Nat.le_of_ble_eq_true rfl⟩ rfl hl.1 (As := [.int (nI 0)]) (rest := []) (st1 := [.int ((-1000000001))]) rfl rfl (Nat.le_of_ble_eq_true rfl) ⟨Nat.le_of_ble_eq_true rfl, Nat.le_of_ble_eq_true rfl⟩ dX4_count_68 (fun H locs hP hS => ?_)
  subst hQ
  exact cp_ri hx hb hr hlocks hP hS dX4_count_71 (by first | with_reducible rfl | (simp only [fnd, countF, if_neg c_1_0, if_neg c_1_1, if_neg c_1_2, if_neg c_1_3]; done) | (simp only [fnd, countF, if_neg c_1_0, if_neg c_1_1, if_neg c_1_2, if_neg c_1_3, Bool.false_eq_true, Bool.true_eq_false, and_true, true_and, false_and, and_false, and_self, not_true_eq_false, not_false_eq_true, if_true, if_false, reduceIte, or_false, false_or, true_or, or_true]; done) | (subst_vars; first | with_reducible rfl | (simp only [fnd, countF, if_neg c_1_0, if_neg c_1_1, if_neg c_1_2, if_neg c_1_3]; done) | (simp only [fnd, countF, if_neg c_1_0, if_neg c_1_1, if_neg c_1_2, if_neg c_1_3, Bool.false_eq_true, Bool.true_eq_false, and_true, true_and, false_and, and_false, and_self, not_true_eq_false, not_false_eq_true, if_true, if_false, reduceIte, or_false, false_or, true_or, or_true]; done)) | contradiction | rfl) (by first | (subst_vars; rfl) | (rw [if_neg (rg03 c_1_0 c_1_1 c_1_2 c_1_3)]; rfl))
theorem i_X4_count : ciOk yX4_count cX4_count 2 (some .int) wsX4_count 1 := ⟨⟨_, rfl⟩, by decide +kernel⟩
set_option maxHeartbeats 1000000 in
set_option maxRecDepth 100000 in
theorem c_X4_status {l : Launch} {D : va_G} {cy : Nat → ClassId} {ad : Nat → Nat} {p0 : Nat → Int32} {p1 : Nat → Int32} {p2 : Nat → Int32} {ke : Int32} {tb : Nat → Int32} {t1 : Int32} {t2 : Int32} {t3 : Int32} {t4 : Int32} {t5 : Int32} {sb : Nat → Int32} {ss : Nat → Int32} {sw : Nat → Nat → Int64} {fd : Nat → Int32} {q : Int32} : Met l yX4_status wsX4_status (rmz 1 22) (wPre D (cK D cy ad) (cw cy ad (rr p0 p1 p2) ke tb t1 t2 t3 t4 t5 sb ss sw fd) [.ref (ad 0), .int (q)]) (cPub D cy ad (some (.int (if rg (-1) 6 q then statL fd q 7 0 (nI 0) else -1000000001))) p0 p2 ke tb t1 sb ss sw (if rg (-1) 6 q then fd else fnd fd 0)) 0 0 (cA ad) := by
  refine wq_entry rfl rfl (Nat.le_of_ble_eq_true rfl) ?_
  intro p e s0 m args below meth c S hr hlocks hK hP ls hl
  have S : CallFix p m c cX4_status 4 s0 args wsX4_status RX4 := S
  obtain ⟨hx, hb, hml, hown, hts⟩ := id S
  have hin4 : ∀ w ∈ wsX40, w ∈ wsX4_status := fun w h => List.mem_cons_of_mem _ (List.mem_append_right _ h)
  have hS : va_S (cA ad) s0.heap s0.heap [] := va_S.rf
  have hl : lv_has ls 4 [(0, .ref (ad 0)), (1, .int (q))] := hl
  generalize hQ : MQ below (cPub D cy ad (some (.int (if rg (-1) 6 q then statL fd q 7 0 (nI 0) else -1000000001))) p0 p2 ke tb t1 sb ss sw (if rg (-1) 6 q then fd else fnd fd 0)) args s0 0 0 (cA ad) = Q
  refine lv_iload_n hx hb dX4_status_0 rfl (lv_at hl 1 rfl) ?_
  refine lv_iconst (v := (-1)) hx hb dX4_status_1 (by decide) ?_
  refine lv_bipush (v := nI 6) hx hb dX4_status_2 (by decide) ?_
  refine sq_S S (c_X4_withinS) gX4_status_X4_within i_X4_within ⟨Nat.le_of_ble_eq_true rfl, Nat.le_of_ble_eq_true rfl⟩ rfl hl.1 (As := [.int (q), .int ((-1)), .int (nI 6)]) (rest := []) (st1 := [.int (z (rg (-1) 6 (q)))]) rfl rfl (Nat.le_of_ble_eq_true rfl) ⟨Nat.le_of_ble_eq_true rfl, Nat.le_of_ble_eq_true rfl⟩ dX4_status_4 ?_
  refine lvz_if_ne (tgt := 16) hx hb dX4_status_7 (by decide) (fun c_7 => ?_) (fun c_7 => ?_)
  · skip
    refine lv_iload_n hx hb dX4_status_16 rfl (lv_at hl 1 rfl) ?_
    refine lv_if_lt (tgt := 27) hx hb dX4_status_17 (by decide) (fun c_17 => ?_) (fun c_17 => ?_)
    · skip
      refine lv_iconst (v := nI 0) hx hb dX4_status_27 (by decide) ?_
      refine lv_istore_n (lv' := [(2, .int (nI 0)), (0, .ref (ad 0)), (1, .int (q))]) hx hb dX4_status_28 rfl hl (by decide) rfl (fun ls hl => ?_)
      refine lv_iconst (v := nI 0) hx hb dX4_status_29 (by decide) ?_
      refine lv_istore_n (lv' := [(3, .int (nI 0)), (2, .int (nI 0)), (0, .ref (ad 0)), (1, .int (q))]) hx hb dX4_status_30 rfl hl (by decide) rfl (fun ls hl => ?_)
      have L_31 : ∀ (n : Nat) (j : Nat) (acc : Int32) (H : Heap) (locs : List Loc) (ls : Array Slot), (j + n = 7) → (statL fd q 7 0 (nI 0) = statL fd q n j acc) → va_P D vwCl (cw cy ad (rr p0 p1 p2) ke tb t1 t2 t3 t4 t5 sb ss sw fd) H → va_S (cA ad) s0.heap H locs → lv_has ls 4 [(3, .int (nI j)), (2, .int (acc)), (0, .ref (ad 0)), (1, .int (q))] → W p l e (rmz 1 22) s0 m args below meth c H locs 0 0 Q (F0 m 31 ls []) := by
        intro n
        induction n with
        | zero =>
          intro j acc H locs ls hj hF hP hS hl
          refine lv_iload_n hx hb dX4_status_31 rfl (lv_at hl 0 rfl) ?_
          refine lv_bipush (v := nI 7) hx hb dX4_status_32 (by decide) ?_
          refine lvn_icmp_ge (tgt := 52) hx hb dX4_status_34 (by decide) (by omega) (by omega) (fun c_34 => ?_) (fun c_34 => ?_)
          · skip
            have hE : statL fd q 7 0 (nI 0) = acc := hF
            refine lv_iload_n hx hb dX4_status_52 rfl (lv_at hl 1 rfl) ?_
            subst hQ
            exact cp_ri hx hb hr hlocks hP hS dX4_status_53 (by first | (simp only [fnd, hE, c_7, if_pos c_17, if_pos c_34, Bool.false_eq_true, Bool.true_eq_false, and_true, true_and, false_and, and_false, and_self, not_true_eq_false, not_false_eq_true, if_true, if_false, reduceIte, or_false, false_or, true_or, or_true]; done) | (subst_vars; simp only [fnd, hE, c_7, if_pos c_17, if_pos c_34, Bool.false_eq_true, Bool.true_eq_false, and_true, true_and, false_and, and_false, and_self, not_true_eq_false, not_false_eq_true, if_true, if_false, reduceIte, or_false, false_or, true_or, or_true]; done) | (simp only [fnd, hE, c_7, if_pos c_17, if_pos c_34, Bool.false_eq_true, Bool.true_eq_false, and_true, true_and, false_and, and_false, and_self, not_true_eq_false, not_false_eq_true, if_true, if_false, reduceIte, or_false, false_or, true_or, or_true, stat_i h_i]; done)) (by first | (simp only [fnd, hE, c_7, if_pos c_17, if_pos c_34, Bool.false_eq_true, Bool.true_eq_false, and_true, true_and, false_and, and_false, and_self, not_true_eq_false, not_false_eq_true, if_true, if_false, reduceIte, or_false, false_or, true_or, or_true]; done) | (subst_vars; simp only [fnd, hE, c_7, if_pos c_17, if_pos c_34, Bool.false_eq_true, Bool.true_eq_false, and_true, true_and, false_and, and_false, and_self, not_true_eq_false, not_false_eq_true, if_true, if_false, reduceIte, or_false, false_or, true_or, or_true]; done) | (simp only [fnd, hE, c_7, if_pos c_17, if_pos c_34, Bool.false_eq_true, Bool.true_eq_false, and_true, true_and, false_and, and_false, and_self, not_true_eq_false, not_false_eq_true, if_true, if_false, reduceIte, or_false, false_or, true_or, or_true, stat_i h_i]; done))
          · skip
            exfalso; omega
        | succ n ih_31 =>
          intro j acc H locs ls hj hF hP hS hl
          refine lv_iload_n hx hb dX4_status_31 rfl (lv_at hl 0 rfl) ?_
          refine lv_bipush (v := nI 7) hx hb dX4_status_32 (by decide) ?_
          refine lvn_icmp_ge (tgt := 52) hx hb dX4_status_34 (by decide) (by omega) (by omega) (fun c_34 => ?_) (fun c_34 => ?_)
          · skip
            exfalso; omega
          · skip
            refine lv_iload_n hx hb dX4_status_37 rfl (lv_at hl 1 rfl) ?_
            refine lv_aload_n hx hb dX4_status_38 rfl (lv_at hl 2 rfl) ?_
            refine c_get (v := .ref (ad 42)) (C := RX4) (T := TX4) (N := 7) hx hb hts hin4 hown hK hP (0) (by decide) cE_0 rfl 6 (by decide) (Or.inl (hts (.fieldLink RX4 39 "PennyRoad" "found" "[I") (by decide +kernel))) rfl dX4_status_39 ?_
            refine lv_iload_n hx hb dX4_status_42 rfl (lv_at hl 0 rfl) ?_
            refine c_aldF hx hb hK hP (by omega) dX4_status_43 ?_
            refine lv_iadd hx hb dX4_status_44 ?_
            refine lv_istore_n (lv' := [(2, .int ((acc) + (fd j))), (3, .int (nI j)), (0, .ref (ad 0)), (1, .int (q))]) hx hb dX4_status_45 rfl hl (by decide) rfl (fun ls hl => ?_)
            refine lv_iinc (v := nI (j + 1)) (lv' := [(3, .int (nI (j + 1))), (2, .int ((acc) + (fd j))), (0, .ref (ad 0)), (1, .int (q))]) hx hb dX4_status_46 hl (k := 1) rfl (nI_add _ _) (by decide) rfl (fun ls hl => ?_)
            refine lv_goto (tgt := 31) hx hb dX4_status_49 (by decide) ?_
            exact ih_31 (j + 1) _ _ _ ls (by omega) (hF.trans (congrArg (fun t => statL fd q n (j + 1) (acc + t)) (if_pos c_17))) hP hS hl
      exact L_31 7 0 (nI 0) _ _ ls (by omega) rfl hP hS hl
    · skip
      obtain ⟨i, h_i, rfl⟩ := st_ix c_7 c_17
      have hcl_i : (nI i).toNatClampNeg = i := nI_clamp (by omega)
      refine lv_aload_n hx hb dX4_status_20 rfl (lv_at hl 0 rfl) ?_
      refine c_get (v := .ref (ad 42)) (C := RX4) (T := TX4) (N := 7) hx hb hts hin4 hown hK hP (0) (by decide) cE_0 rfl 6 (by decide) (Or.inl (hts (.fieldLink RX4 39 "PennyRoad" "found" "[I") (by decide +kernel))) rfl dX4_status_21 ?_
      refine lv_iload_n hx hb dX4_status_24 rfl (lv_at hl 1 rfl) ?_
      refine c_aldF hx hb hK hP (by omega) dX4_status_25 ?_
      subst hQ
      exact cp_ri hx hb hr hlocks hP hS dX4_status_26 (by first | (simp only [fnd, hcl_i, c_7, if_neg c_17, Bool.false_eq_true, Bool.true_eq_false, and_true, true_and, false_and, and_false, and_self, not_true_eq_false, not_false_eq_true, if_true, if_false, reduceIte, or_false, false_or, true_or, or_true]; done) | (subst_vars; simp only [fnd, hcl_i, c_7, if_neg c_17, Bool.false_eq_true, Bool.true_eq_false, and_true, true_and, false_and, and_false, and_self, not_true_eq_false, not_false_eq_true, if_true, if_false, reduceIte, or_false, false_or, true_or, or_true]; done) | (simp only [fnd, hcl_i, c_7, if_neg c_17, Bool.false_eq_true, Bool.true_eq_false, and_true, true_and, false_and, and_false, and_self, not_true_eq_false, not_false_eq_true, if_true, if_false, reduceIte, or_false, false_or, true_or, or_true, stat_i h_i]; done)) (by first | (simp only [fnd, hcl_i, c_7, if_neg c_17, Bool.false_eq_true, Bool.true_eq_false, and_true, true_and, false_and, and_false, and_self, not_true_eq_false, not_false_eq_true, if_true, if_false, reduceIte, or_false, false_or, true_or, or_true]; done) | (subst_vars; simp only [fnd, hcl_i, c_7, if_neg c_17, Bool.false_eq_true, Bool.true_eq_false, and_true, true_and, false_and, and_false, and_self, not_true_eq_false, not_false_eq_true, if_true, if_false, reduceIte, or_false, false_or, true_or, or_true]; done) | (simp only [fnd, hcl_i, c_7, if_neg c_17, Bool.false_eq_true, Bool.true_eq_false, and_true, true_and, false_and, and_false, and_self, not_true_eq_false, not_false_eq_true, if_true, if_false, reduceIte, or_false, false_or, true_or, or_true, stat_i h_i]; done))
  · skip
    refine lv_aload_n hx hb dX4_status_10 rfl (lv_at hl 0 rfl) ?_
    refine lv_iconst (v := nI 0) hx hb dX4_status_11 (by decide) ?_
    refine wq_V S cK_ok hK hP hS (c_X4_finding (t := 0) (by decide)) gX4_status_X4_finding i_X4_finding rfl (c_rec hK hP 0 (by decide) cE_0 rfl) ⟨Nat.le_of_ble_eq_true rfl, Nat.le_of_ble_eq_true rfl⟩ rfl hl.1 (As := [.int (nI 0)]) (rest := []) (st1 := [.int ((-1000000001))]) rfl rfl (Nat.le_of_ble_eq_true rfl) ⟨Nat.le_of_ble_eq_true rfl, Nat.le_of_ble_eq_true rfl⟩ dX4_status_12 (fun H locs hP hS => ?_)
    subst hQ
    exact cp_ri hx hb hr hlocks hP hS dX4_status_15 (by first | (simp only [fnd, c_7, Bool.false_eq_true, Bool.true_eq_false, and_true, true_and, false_and, and_false, and_self, not_true_eq_false, not_false_eq_true, if_true, if_false, reduceIte, or_false, false_or, true_or, or_true]; done) | (subst_vars; simp only [fnd, c_7, Bool.false_eq_true, Bool.true_eq_false, and_true, true_and, false_and, and_false, and_self, not_true_eq_false, not_false_eq_true, if_true, if_false, reduceIte, or_false, false_or, true_or, or_true]; done) | (simp only [fnd, c_7, Bool.false_eq_true, Bool.true_eq_false, and_true, true_and, false_and, and_false, and_self, not_true_eq_false, not_false_eq_true, if_true, if_false, reduceIte, or_false, false_or, true_or, or_true, stat_i h_i]; done)) (by first | (simp only [fnd, c_7, Bool.false_eq_true, Bool.true_eq_false, and_true, true_and, false_and, and_false, and_self, not_true_eq_false, not_false_eq_true, if_true, if_false, reduceIte, or_false, false_or, true_or, or_true]; done) | (subst_vars; simp only [fnd, c_7, Bool.false_eq_true, Bool.true_eq_false, and_true, true_and, false_and, and_false, and_self, not_true_eq_false, not_false_eq_true, if_true, if_false, reduceIte, or_false, false_or, true_or, or_true]; done) | (simp only [fnd, c_7, Bool.false_eq_true, Bool.true_eq_false, and_true, true_and, false_and, and_false, and_self, not_true_eq_false, not_false_eq_true, if_true, if_false, reduceIte, or_false, false_or, true_or, or_true, stat_i h_i]; done))
theorem i_X4_status : ciOk yX4_status cX4_status 4 (some .int) wsX4_status 1 := ⟨⟨_, rfl⟩, by decide +kernel⟩
