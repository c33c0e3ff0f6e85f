set_option maxHeartbeats 1000000 in
set_option maxRecDepth 100000 in
theorem c_X2_takeNumber {l : Launch} {D : va_G} {cy : Nat → ClassId} {ad : Nat → Nat} {p0 : Nat → Int32} {p1 : Nat → Int32} {p2 : Nat → Int32} {ke : Int32} {tb : Nat → Int32} {sb : Nat → Int32} {ss : Nat → Int32} {sw : Nat → Nat → Int64} {fd : Nat → Int32} {v : Int32} {T : Nat} {X : TX} (hX : X.2.1 ≤ T) (hT2 : T ≤ 120) : Met l yX2_takeNumber wsX2_takeNumber (rmz 2 41) (wPre D (cK D cy ad) (cw cy ad (rr p0 p1 p2) ke tb (nI T) (sortF (bu tb) T X.1) (nI X.1) (nI X.2.1) X.2.2 sb ss sw fd) [.ref (ad 31), .int (v)]) (wPost D (cw cy ad (rr p0 p1 p2) ke tb (nI T) (sortF (bu tb) T (tnF (bu tb) T X v).1) (nI (tnF (bu tb) T X v).1) (nI (tnF (bu tb) T X v).2.1) ((tnF (bu tb) T X v).2.2) sb ss sw fd) (some (.int (if tnC (bu tb) T X v = true then X.2.2 else -1))) (cA ad)) 0 0 (cA ad) := by
  refine wq_entry rfl rfl (Nat.le_of_ble_eq_true rfl) ?_
  intro p e s0 m args below meth c S hr hlocks hK hP ls hl
  have S : CallFix p m c cX2_takeNumber 3 s0 args wsX2_takeNumber RX2 := S
  obtain ⟨hx, hb, hml, hown, hts⟩ := id S
  have hin2 : ∀ w ∈ wsX20, w ∈ wsX2_takeNumber := fun w h => List.mem_cons_of_mem _ (List.mem_append_right _ h)
  have hS : va_S (cA ad) s0.heap s0.heap [] := va_S.rf
  have hl : lv_has ls 3 [(0, .ref (ad 31)), (1, .int (v))] := hl
  generalize hQ : MQ below (wPost D (cw cy ad (rr p0 p1 p2) ke tb (nI T) (sortF (bu tb) T (tnF (bu tb) T X v).1) (nI (tnF (bu tb) T X v).1) (nI (tnF (bu tb) T X v).2.1) ((tnF (bu tb) T X v).2.2) sb ss sw fd) (some (.int (if tnC (bu tb) T X v = true then X.2.2 else -1))) (cA ad)) args s0 0 0 (cA ad) = Q
  refine lv_aload_n hx hb dX2_takeNumber_0 rfl (lv_at hl 0 rfl) ?_
  refine c_get (v := .int (sortF (bu tb) T X.1)) (C := RX2) (T := TX2) (N := 6) hx hb hts hin2 hown hK hP (31) (by decide) cE_tp rfl 2 (by decide) (Or.inl (hts (.fieldLink RX2 19 "PennyRoad$Tape" "sort" "I") (by decide +kernel))) rfl dX2_takeNumber_1 ?_
  refine lv_iconst (v := nI 2) hx hb dX2_takeNumber_4 (by decide) ?_
  refine lv_icmp_ne (tgt := 16) hx hb dX2_takeNumber_5 (by decide) (fun c_5 => ?_) (fun c_5 => ?_)
  · skip
    refine lv_iconst (v := (-1)) hx hb dX2_takeNumber_16 (by decide) ?_
    subst hQ
    exact wq_ri hx hb hr hlocks hP hS dX2_takeNumber_17 (by simp only [tnC, decide_eq_false c_5, Bool.true_and, Bool.false_and, Bool.and_true, Bool.and_false, Bool.and_self, Bool.false_eq_true, if_true, if_false, reduceIte]) (by simp only [tnF, tnC, advT, decide_eq_false c_5, Bool.true_and, Bool.false_and, Bool.and_true, Bool.and_false, Bool.and_self, Bool.false_eq_true, if_true, if_false, reduceIte])
  · skip
    refine lv_aload_n hx hb dX2_takeNumber_8 rfl (lv_at hl 0 rfl) ?_
    refine c_get (v := .int (X.2.2)) (C := RX2) (T := TX2) (N := 6) hx hb hts hin2 hown hK hP (31) (by decide) cE_tp rfl 5 (by decide) (Or.inl (hts (.fieldLink RX2 28 "PennyRoad$Tape" "number" "I") (by decide +kernel))) rfl dX2_takeNumber_9 ?_
    refine lv_iload_n hx hb dX2_takeNumber_12 rfl (lv_at hl 1 rfl) ?_
    refine lv_icmp_le (tgt := 18) hx hb dX2_takeNumber_13 (by decide) (fun c_13 => ?_) (fun c_13 => ?_)
    · skip
      refine lv_aload_n hx hb dX2_takeNumber_18 rfl (lv_at hl 0 rfl) ?_
      refine c_get (v := .int (X.2.2)) (C := RX2) (T := TX2) (N := 6) hx hb hts hin2 hown hK hP (31) (by decide) cE_tp rfl 5 (by decide) (Or.inl (hts (.fieldLink RX2 28 "PennyRoad$Tape" "number" "I") (by decide +kernel))) rfl dX2_takeNumber_19 ?_
      refine lv_istore_n (lv' := [(2, .int (X.2.2)), (0, .ref (ad 31)), (1, .int (v))]) hx hb dX2_takeNumber_22 rfl hl (by decide) rfl (fun ls hl => ?_)
      refine lv_aload_n hx hb dX2_takeNumber_23 rfl (lv_at hl 1 rfl) ?_
      refine wq_V S cK_ok hK hP hS (c_X2_advance (by omega) (by omega)) gX2_takeNumber_X2_advance i_X2_advance rfl (c_rec hK hP 31 (by decide) cE_tp rfl) ⟨Nat.le_of_ble_eq_true rfl, Nat.le_of_ble_eq_true rfl⟩ rfl hl.1 (As := []) (rest := []) (st1 := []) rfl rfl (Nat.le_of_ble_eq_true rfl) ⟨Nat.le_of_ble_eq_true rfl, Nat.le_of_ble_eq_true rfl⟩ dX2_takeNumber_24 (fun H locs hP hS => ?_)
      refine lv_iload_n hx hb dX2_takeNumber_27 rfl (lv_at hl 0 rfl) ?_
      subst hQ
      exact wq_ri hx hb hr hlocks hP hS dX2_takeNumber_28 (by simp only [tnC, decide_eq_true c_5, decide_eq_true c_13, Bool.true_and, Bool.false_and, Bool.and_true, Bool.and_false, Bool.and_self, Bool.false_eq_true, if_true, if_false, reduceIte]) (by simp only [tnF, tnC, advT, decide_eq_true c_5, decide_eq_true c_13, Bool.true_and, Bool.false_and, Bool.and_true, Bool.and_false, Bool.and_self, Bool.false_eq_true, if_true, if_false, reduceIte])
    · skip
      refine lv_iconst (v := (-1)) hx hb dX2_takeNumber_16 (by decide) ?_
      subst hQ
      exact wq_ri hx hb hr hlocks hP hS dX2_takeNumber_17 (by simp only [tnC, decide_eq_true c_5, decide_eq_false c_13, Bool.true_and, Bool.false_and, Bool.and_true, Bool.and_false, Bool.and_self, Bool.false_eq_true, if_true, if_false, reduceIte]) (by simp only [tnF, tnC, advT, decide_eq_true c_5, decide_eq_false c_13, Bool.true_and, Bool.false_and, Bool.and_true, Bool.and_false, Bool.and_self, Bool.false_eq_true, if_true, if_false, reduceIte])
theorem i_X2_takeNumber : ciOk yX2_takeNumber cX2_takeNumber 3 (some .int) wsX2_takeNumber 1 := ⟨⟨_, rfl⟩, by decide +kernel⟩
