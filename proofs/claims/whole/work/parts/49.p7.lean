set_option maxHeartbeats 1000000 in
set_option maxRecDepth 100000 in
theorem c_X2_isLetter {l : Launch} {q : Int32} : Met l yX2_isLetter wsX2_isLetter (rmz 0 0) (sPre [.int (q)]) (sPost (some (.int (z (rg 97 122 q))))) 0 0 (fun _ => False) := by
  refine sq_entry rfl rfl (Nat.le_of_ble_eq_true rfl) ?_
  intro p e s0 m args below meth c S hr hlocks ls hl
  have S : CallFix p m c cX2_isLetter 1 s0 args wsX2_isLetter RX2 := S
  obtain ⟨hx, hb, hml, hown, hts⟩ := id S
  have hl : lv_has ls 1 [(0, .int (q))] := hl
  generalize hQ : MQ below (sPost (some (.int (z (rg 97 122 q))))) args s0 0 0 (fun _ => False) = Q
  refine lv_iload_n hx hb dX2_isLetter_0 rfl (lv_at hl 0 rfl) ?_
  refine lv_bipush (v := nI 97) hx hb dX2_isLetter_1 (by decide) ?_
  refine lv_icmp_lt (tgt := 16) hx hb dX2_isLetter_3 (by decide) (fun c_3 => ?_) (fun c_3 => ?_)
  · skip
    refine lv_iconst (v := nI 0) hx hb dX2_isLetter_16 (by decide) ?_
    subst hQ
    exact sq_rz hx hb hr hlocks dX2_isLetter_17 (by subst_vars; first | (left; rfl) | (right; rfl) | (split <;> simp)) (by first | exact rvI (wi_1 (hi := nI 122) c_3) | exact rvI (wi_2 (lo := nI 97) c_9) | exact rvI (wi_3 c_3 c_9))
  · skip
    refine lv_iload_n hx hb dX2_isLetter_6 rfl (lv_at hl 0 rfl) ?_
    refine lv_bipush (v := nI 122) hx hb dX2_isLetter_7 (by decide) ?_
    refine lv_icmp_gt (tgt := 16) hx hb dX2_isLetter_9 (by decide) (fun c_9 => ?_) (fun c_9 => ?_)
    · skip
      refine lv_iconst (v := nI 0) hx hb dX2_isLetter_16 (by decide) ?_
      subst hQ
      exact sq_rz hx hb hr hlocks dX2_isLetter_17 (by subst_vars; first | (left; rfl) | (right; rfl) | (split <;> simp)) (by first | exact rvI (wi_1 (hi := nI 122) c_3) | exact rvI (wi_2 (lo := nI 97) c_9) | exact rvI (wi_3 c_3 c_9))
    · skip
      refine lv_iconst (v := nI 1) hx hb dX2_isLetter_12 (by decide) ?_
      refine lv_goto (tgt := 17) hx hb dX2_isLetter_13 (by decide) ?_
      subst hQ
      exact sq_rz hx hb hr hlocks dX2_isLetter_17 (by subst_vars; first | (left; rfl) | (right; rfl) | (split <;> simp)) (by first | exact rvI (wi_1 (hi := nI 122) c_3) | exact rvI (wi_2 (lo := nI 97) c_9) | exact rvI (wi_3 c_3 c_9))
theorem i_X2_isLetter : ciOk yX2_isLetter cX2_isLetter 1 (some .boolean) wsX2_isLetter 1 := ⟨⟨_, rfl⟩, by decide +kernel⟩
set_option maxHeartbeats 1000000 in
set_option maxRecDepth 100000 in
theorem c_X2_isDigit {l : Launch} {q : Int32} : Met l yX2_isDigit wsX2_isDigit (rmz 0 0) (sPre [.int (q)]) (sPost (some (.int (z (rg 48 57 q))))) 0 0 (fun _ => False) := by
  refine sq_entry rfl rfl (Nat.le_of_ble_eq_true rfl) ?_
  intro p e s0 m args below meth c S hr hlocks ls hl
  have S : CallFix p m c cX2_isDigit 1 s0 args wsX2_isDigit RX2 := S
  obtain ⟨hx, hb, hml, hown, hts⟩ := id S
  have hl : lv_has ls 1 [(0, .int (q))] := hl
  generalize hQ : MQ below (sPost (some (.int (z (rg 48 57 q))))) args s0 0 0 (fun _ => False) = Q
  refine lv_iload_n hx hb dX2_isDigit_0 rfl (lv_at hl 0 rfl) ?_
  refine lv_bipush (v := nI 48) hx hb dX2_isDigit_1 (by decide) ?_
  refine lv_icmp_lt (tgt := 16) hx hb dX2_isDigit_3 (by decide) (fun c_3 => ?_) (fun c_3 => ?_)
  · skip
    refine lv_iconst (v := nI 0) hx hb dX2_isDigit_16 (by decide) ?_
    subst hQ
    exact sq_rz hx hb hr hlocks dX2_isDigit_17 (by subst_vars; first | (left; rfl) | (right; rfl) | (split <;> simp)) (by first | exact rvI (wi_1 (hi := nI 57) c_3) | exact rvI (wi_2 (lo := nI 48) c_9) | exact rvI (wi_3 c_3 c_9))
  · skip
    refine lv_iload_n hx hb dX2_isDigit_6 rfl (lv_at hl 0 rfl) ?_
    refine lv_bipush (v := nI 57) hx hb dX2_isDigit_7 (by decide) ?_
    refine lv_icmp_gt (tgt := 16) hx hb dX2_isDigit_9 (by decide) (fun c_9 => ?_) (fun c_9 => ?_)
    · skip
      refine lv_iconst (v := nI 0) hx hb dX2_isDigit_16 (by decide) ?_
      subst hQ
      exact sq_rz hx hb hr hlocks dX2_isDigit_17 (by subst_vars; first | (left; rfl) | (right; rfl) | (split <;> simp)) (by first | exact rvI (wi_1 (hi := nI 57) c_3) | exact rvI (wi_2 (lo := nI 48) c_9) | exact rvI (wi_3 c_3 c_9))
    · skip
      refine lv_iconst (v := nI 1) hx hb dX2_isDigit_12 (by decide) ?_
      refine lv_goto (tgt := 17) hx hb dX2_isDigit_13 (by decide) ?_
      subst hQ
      exact sq_rz hx hb hr hlocks dX2_isDigit_17 (by subst_vars; first | (left; rfl) | (right; rfl) | (split <;> simp)) (by first | exact rvI (wi_1 (hi := nI 57) c_3) | exact rvI (wi_2 (lo := nI 48) c_9) | exact rvI (wi_3 c_3 c_9))
theorem i_X2_isDigit : ciOk yX2_isDigit cX2_isDigit 1 (some .boolean) wsX2_isDigit 1 := ⟨⟨_, rfl⟩, by decide +kernel⟩
set_option maxHeartbeats 1000000 in
set_option maxRecDepth 100000 in
theorem c_X2_byteAt {l : Launch} {D : va_G} {cy : Nat → ClassId} {ad : Nat → Nat} {p0 : Nat → Int32} {p1 : Nat → Int32} {p2 : Nat → Int32} {ke : Int32} {tb : Nat → Int32} {t2 : Int32} {t3 : Int32} {t4 : Int32} {t5 : Int32} {sb : Nat → Int32} {ss : Nat → Int32} {sw : Nat → Nat → Int64} {fd : Nat → Int32} {k : Nat} {T : Nat} (hk : k < T) (hT2 : T ≤ 120) : Met l yX2_byteAt wsX2_byteAt (rmz 0 0) (wPre D (cK D cy ad) (cw cy ad (rr p0 p1 p2) ke tb (nI T) t2 t3 t4 t5 sb ss sw fd) [.ref (ad 31), .int (nI k)]) (wPost D (cw cy ad (rr p0 p1 p2) ke tb (nI T) t2 t3 t4 t5 sb ss sw fd) (some (.int (bAt (bu tb) T k))) (cA ad)) 0 0 (cA ad) := by
  refine wq_entry rfl rfl (Nat.le_of_ble_eq_true rfl) ?_
  intro p e s0 m args below meth c S hr hlocks hK hP ls hl
  have S : CallFix p m c cX2_byteAt 2 s0 args wsX2_byteAt RX2 := S
  obtain ⟨hx, hb, hml, hown, hts⟩ := id S
  have hin2 : ∀ w ∈ wsX20, w ∈ wsX2_byteAt := fun w h => List.mem_cons_of_mem _ (List.mem_append_right _ h)
  have hS : va_S (cA ad) s0.heap s0.heap [] := va_S.rf
  have hl : lv_has ls 2 [(0, .ref (ad 31)), (1, .int (nI k))] := hl
  generalize hQ : MQ below (wPost D (cw cy ad (rr p0 p1 p2) ke tb (nI T) t2 t3 t4 t5 sb ss sw fd) (some (.int (bAt (bu tb) T k))) (cA ad)) args s0 0 0 (cA ad) = Q
  refine lv_iload_n hx hb dX2_byteAt_0 rfl (lv_at hl 1 rfl) ?_
  refine lv_if_lt (tgt := 25) hx hb dX2_byteAt_1 (by decide) (fun c_1 => ?_) (fun c_1 => ?_)
  · skip
    exact absurd c_1 (nI_pos (by omega))
  · skip
    refine lv_iload_n hx hb dX2_byteAt_4 rfl (lv_at hl 1 rfl) ?_
    refine lv_aload_n hx hb dX2_byteAt_5 rfl (lv_at hl 0 rfl) ?_
    refine c_get (v := .int (nI T)) (C := RX2) (T := TX2) (N := 6) hx hb hts hin2 hown hK hP (31) (by decide) cE_tp rfl 1 (by decide) (Or.inl (hts (.fieldLink RX2 15 "PennyRoad$Tape" "length" "I") (by decide +kernel))) rfl dX2_byteAt_6 ?_
    refine lvn_icmp_ge (tgt := 25) hx hb dX2_byteAt_9 (by decide) (by omega) (by omega) (fun c_9 => ?_) (fun c_9 => ?_)
    · skip
      exfalso; omega
    · skip
      refine lv_aload_n hx hb dX2_byteAt_12 rfl (lv_at hl 0 rfl) ?_
      refine c_get (v := .ref (ad 32)) (C := RX2) (T := TX2) (N := 6) hx hb hts hin2 hown hK hP (31) (by decide) cE_tp rfl 0 (by decide) (Or.inl (hts (.fieldLink RX2 9 "PennyRoad$Tape" "bytes" "[B") (by decide +kernel))) rfl dX2_byteAt_13 ?_
      refine lv_iload_n hx hb dX2_byteAt_16 rfl (lv_at hl 1 rfl) ?_
      refine c_aldB hx hb hK hP (by omega) dX2_byteAt_17 ?_
      refine lv_sipush (v := nI 255) hx hb dX2_byteAt_18 (by decide) ?_
      refine lv_iand hx hb dX2_byteAt_21 ?_
      refine lv_goto (tgt := 26) hx hb dX2_byteAt_22 (by decide) ?_
      subst hQ
      exact wq_ri hx hb hr hlocks hP hS dX2_byteAt_26 (by rw [bu_in hk]) rfl
theorem i_X2_byteAt : ciOk yX2_byteAt cX2_byteAt 2 (some .int) wsX2_byteAt 1 := ⟨⟨_, rfl⟩, by decide +kernel⟩
