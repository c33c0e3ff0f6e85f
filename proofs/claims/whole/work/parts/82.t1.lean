theorem c_X0_isFull_r1 {l : Launch} {D : va_G} {cy : Nat → ClassId} {ad : Nat → Nat} {p0 p1 p2 : Nat → Int32} {ke : Int32} {tb : Nat → Int32} {t1 : Int32} {t2 : Int32} {t3 : Int32} {t4 : Int32} {t5 : Int32} {sb : Nat → Int32} {ss : Nat → Int32} {sw : Nat → Nat → Int64} {fd : Nat → Int32} {N : Nat} (hN : p1 0 = nI N) (h8 : N ≤ 8) : Met l yX0_isFull wsX0_isFull (rmz 0 0) (wPre D (cK D cy ad) (cw cy ad (rr p0 p1 p2) ke tb t1 t2 t3 t4 t5 sb ss sw fd) [.ref (ad (1 + 10 * 1))]) (wPost D (cw cy ad (rr p0 p1 p2) ke tb t1 t2 t3 t4 t5 sb ss sw fd) (some (.int (z (8 ≤ N)))) (cA ad)) 0 0 (cA ad) := by
  have h := c_X0_isFull (l := l) (D := D) (cy := cy) (ad := ad) (rd := rr p0 p1 p2) (ke := ke) (tb := tb) (t1 := t1) (t2 := t2) (t3 := t3) (t4 := t4) (t5 := t5) (sb := sb) (ss := ss) (sw := sw) (fd := fd) (sg := p1) (r := 1) (N := N) (by decide) hN h8
  simp only [rr_up1] at h
  exact h
theorem c_X0_join_r1 {l : Launch} {D : va_G} {cy : Nat → ClassId} {ad : Nat → Nat} {p0 p1 p2 : Nat → Int32} {ke : Int32} {tb : Nat → Int32} {t1 : Int32} {t2 : Int32} {t3 : Int32} {t4 : Int32} {t5 : Int32} {sb : Nat → Int32} {ss : Nat → Int32} {sw : Nat → Nat → Int64} {fd : Nat → Int32} {kd : Int32} {ml : Int32} {N : Nat} (hN : p1 0 = nI N) (h8 : N < 8) : Met l yX0_join wsX0_join (rmz 1 22) (wPre D (cK D cy ad) (cw cy ad (rr p0 p1 p2) ke tb t1 t2 t3 t4 t5 sb ss sw fd) [.ref (ad (1 + 10 * 1)), .int (kd), .int (ml)]) (wPost D (cw cy ad (rr p0 (addF p1 N kd ml) p2) ke tb t1 t2 t3 t4 t5 sb ss sw fd) (some (.ref (ad (3 + 10 * 1 + N)))) (cA ad)) 0 0 (cA ad) := by
  have h := c_X0_join (l := l) (D := D) (cy := cy) (ad := ad) (rd := rr p0 p1 p2) (ke := ke) (tb := tb) (t1 := t1) (t2 := t2) (t3 := t3) (t4 := t4) (t5 := t5) (sb := sb) (ss := ss) (sw := sw) (fd := fd) (sg := p1) (r := 1) (kd := kd) (ml := ml) (N := N) (by decide) hN h8
  simp only [rr_up1] at h
  exact h
theorem c_X2_advT {l : Launch} {D : va_G} {cy : Nat → ClassId} {ad : Nat → Nat} {p0 : Nat → Int32} {p1 : Nat → Int32} {p2 : Nat → Int32} {ke : Int32} {tb : Nat → Int32} {t2 : Int32} {t3 : Int32} {sb : Nat → Int32} {ss : Nat → Int32} {sw : Nat → Nat → Int64} {fd : Nat → Int32} {T : Nat} {X : TX} (hX : okX T X) (hT2 : T ≤ 120) : Met l yX2_advance wsX2_advance (rmz 1 21) (wPre D (cK D cy ad) (cw cy ad (rr p0 p1 p2) ke tb (nI T) t2 t3 (nI X.2.1) X.2.2 sb ss sw fd) [.ref (ad 31)]) (wPost D (cw cy ad (rr p0 p1 p2) ke tb (nI T) (sortF (bu tb) T (advT (bu tb) T X).1) (nI ((advT (bu tb) T X).1)) (nI ((advT (bu tb) T X).2.1)) ((advT (bu tb) T X).2.2) sb ss sw fd) none (cA ad)) 0 0 (cA ad) := c_X2_advance (t := X.2.1) hX.2 hT2
set_option maxHeartbeats 1000000 in
set_option maxRecDepth 100000 in
theorem c_X2_isWord {l : Launch} {D : va_G} {cy : Nat → ClassId} {ad : Nat → Nat} {kS vS : Nat → Nat} {p0 : Nat → Int32} {p1 : Nat → Int32} {p2 : Nat → Int32} {ke : Int32} {tb : Nat → Int32} {sb : Nat → Int32} {ss : Nat → Int32} {sw : Nat → Nat → Int64} {fd : Nat → Int32} {i : Nat} {T : Nat} {X : TX} (hi : i < 13) (hX : okX T X) (hT2 : T ≤ 120) : Met l yX2_isWord wsX2_isWord (rmz 4 85) (tPre D cy ad kS vS (cw cy ad (rr p0 p1 p2) ke tb (nI T) (sortF (bu tb) T X.1) (nI (X.1)) (nI (X.2.1)) X.2.2 sb ss sw fd) [.ref (ad 31), .ref (kS i)]) (wPost D (cw cy ad (rr p0 p1 p2) ke tb (nI T) (sortF (bu tb) T X.1) (nI (X.1)) (nI (X.2.1)) X.2.2 sb ss sw fd) (some (.int (z (isW (bu tb) T X i = true)))) (cA ad)) 0 0 (cA ad) := by
  refine tq_entry rfl rfl (Nat.le_of_ble_eq_true rfl) ?_
  intro p e s0 m args below meth c S hr hlocks hK hT hP ls hl
  have S : CallFix p m c cX2_isWord 3 s0 args wsX2_isWord RX2 := S
  obtain ⟨hx, hb, hml, hown, hts⟩ := id S
  have hin2 : ∀ w ∈ wsX20, w ∈ wsX2_isWord := fun w h => List.mem_cons_of_mem _ (List.mem_append_right _ h)
  have hS : va_S (cA ad) s0.heap s0.heap [] := va_S.rf
  have hl : lv_has ls 3 [(0, .ref (ad 31)), (1, .ref (kS i))] := hl
  generalize hQ : MQ below (wPost D (cw cy ad (rr p0 p1 p2) ke tb (nI T) (sortF (bu tb) T X.1) (nI (X.1)) (nI (X.2.1)) X.2.2 sb ss sw fd) (some (.int (z (isW (bu tb) T X i = true)))) (cA ad)) args s0 0 0 (cA ad) = Q
  have hX1 := hX.1
  have hX2 := hX.2
  have h7 := tgN_le i hi
  refine lv_aload_n hx hb dX2_isWord_0 rfl (lv_at hl 0 rfl) ?_
  refine c_get (v := .int (sortF (bu tb) T X.1)) (C := RX2) (T := TX2) (N := 6) hx hb hts hin2 hown hK hP (31) (by decide) cE_tp rfl 2 (by decide) (Or.inl (hts (.fieldLink RX2 19 "PennyRoad$Tape" "sort" "I") (by decide +kernel))) rfl dX2_isWord_1 ?_
  refine lv_iconst (v := nI 1) hx hb dX2_isWord_4 (by decide) ?_
  refine lv_icmp_ne (tgt := 24) hx hb dX2_isWord_5 (by decide) (fun c_5 => ?_) (fun c_5 => ?_)
  · skip
    refine lv_iconst (v := nI 0) hx hb dX2_isWord_24 (by decide) ?_
    subst hQ
    exact wq_rz hx hb hr hlocks hP hS dX2_isWord_25 (by subst_vars; first | (left; rfl) | (right; rfl) | (split <;> simp)) (by first | exact rvI (z_f (isW_1 c_5)) | exact rvI (z_f (isW_2 c_21)) | exact rvI (z_f (by rw [hF]; exact eqW_f c_51)) | exact rvI (z_t (by rw [hF]; rfl))) rfl
  · skip
    refine lv_aload_n hx hb dX2_isWord_8 rfl (lv_at hl 0 rfl) ?_
    refine c_get (v := .int (nI (X.2.1))) (C := RX2) (T := TX2) (N := 6) hx hb hts hin2 hown hK hP (31) (by decide) cE_tp rfl 4 (by decide) (Or.inl (hts (.fieldLink RX2 25 "PennyRoad$Tape" "next" "I") (by decide +kernel))) rfl dX2_isWord_9 ?_
    refine lv_aload_n hx hb dX2_isWord_12 rfl (lv_at hl 0 rfl) ?_
    refine c_get (v := .int (nI (X.1))) (C := RX2) (T := TX2) (N := 6) hx hb hts hin2 hown hK hP (31) (by decide) cE_tp rfl 3 (by decide) (Or.inl (hts (.fieldLink RX2 22 "PennyRoad$Tape" "first" "I") (by decide +kernel))) rfl dX2_isWord_13 ?_
    refine lv_isub hx hb dX2_isWord_16 ?_
    refine lv_top (pk_sub hX1) ?_
    refine lv_aload_n hx hb dX2_isWord_17 rfl (lv_at hl 1 rfl) ?_
    refine jq_V S hT hS (c_J0_length hi) gX2_isWord_J0_length_8abf5 i_J0_length rfl (vk_recv hT.1 hi hS) ⟨Nat.le_of_ble_eq_true rfl, Nat.le_of_ble_eq_true rfl⟩ rfl hl.1 (As := []) (rest := [.int (nI (X.2.1 - X.1))]) (st1 := [.int (nI (tgN i)), .int (nI (X.2.1 - X.1))]) rfl rfl (Nat.le_of_ble_eq_true rfl) ⟨Nat.le_of_ble_eq_true rfl, Nat.le_of_ble_eq_true rfl⟩ dX2_isWord_18 ?_
    refine lvn_icmp_eq (tgt := 26) hx hb dX2_isWord_21 (by decide) (by omega) (by omega) (fun c_21 => ?_) (fun c_21 => ?_)
    · skip
      refine lv_iconst (v := nI 0) hx hb dX2_isWord_26 (by decide) ?_
      refine lv_istore_n (lv' := [(2, .int (nI 0)), (0, .ref (ad 31)), (1, .ref (kS i))]) hx hb dX2_isWord_27 rfl hl (by decide) rfl (fun ls hl => ?_)
      have L_28 : ∀ (n : Nat) (k : Nat) (H : Heap) (locs : List Loc) (ls : Array Slot), (k + n = tgN i) → (isW (bu tb) T X i = eqW (bu tb) T X.1 i n k) → va_P D vwCl (cw cy ad (rr p0 p1 p2) ke tb (nI T) (sortF (bu tb) T X.1) (nI (X.1)) (nI (X.2.1)) X.2.2 sb ss sw fd) H → va_S (cA ad) s0.heap H locs → lv_has ls 3 [(2, .int (nI k)), (0, .ref (ad 31)), (1, .ref (kS i))] → W p l e (rmz 4 85) s0 m args below meth c H locs 0 0 Q (F0 m 28 ls []) := by
        intro n
        induction n with
        | zero =>
          intro k H locs ls hj hF hP hS hl
          refine lv_iload_n hx hb dX2_isWord_28 rfl (lv_at hl 0 rfl) ?_
          refine lv_aload_n hx hb dX2_isWord_29 rfl (lv_at hl 2 rfl) ?_
          refine jq_V S hT hS (c_J0_length hi) gX2_isWord_J0_length_8abf5 i_J0_length rfl (vk_recv hT.1 hi hS) ⟨Nat.le_of_ble_eq_true rfl, Nat.le_of_ble_eq_true rfl⟩ rfl hl.1 (As := []) (rest := [.int (nI k)]) (st1 := [.int (nI (tgN i)), .int (nI k)]) rfl rfl (Nat.le_of_ble_eq_true rfl) ⟨Nat.le_of_ble_eq_true rfl, Nat.le_of_ble_eq_true rfl⟩ dX2_isWord_30 ?_
          refine lvn_icmp_ge (tgt := 62) hx hb dX2_isWord_33 (by decide) (by omega) (by omega) (fun c_33 => ?_) (fun c_33 => ?_)
          · skip
            refine lv_iconst (v := nI 1) hx hb dX2_isWord_62 (by decide) ?_
            subst hQ
            exact wq_rz hx hb hr hlocks hP hS dX2_isWord_63 (by subst_vars; first | (left; rfl) | (right; rfl) | (split <;> simp)) (by first | exact rvI (z_f (isW_1 c_5)) | exact rvI (z_f (isW_2 c_21)) | exact rvI (z_f (by rw [hF]; exact eqW_f c_51)) | exact rvI (z_t (by rw [hF]; rfl))) rfl
          · skip
            exfalso; omega
        | succ n ih_28 =>
          intro k H locs ls hj hF hP hS hl
          refine lv_iload_n hx hb dX2_isWord_28 rfl (lv_at hl 0 rfl) ?_
          refine lv_aload_n hx hb dX2_isWord_29 rfl (lv_at hl 2 rfl) ?_
          refine jq_V S hT hS (c_J0_length hi) gX2_isWord_J0_length_8abf5 i_J0_length rfl (vk_recv hT.1 hi hS) ⟨Nat.le_of_ble_eq_true rfl, Nat.le_of_ble_eq_true rfl⟩ rfl hl.1 (As := []) (rest := [.int (nI k)]) (st1 := [.int (nI (tgN i)), .int (nI k)]) rfl rfl (Nat.le_of_ble_eq_true rfl) ⟨Nat.le_of_ble_eq_true rfl, Nat.le_of_ble_eq_true rfl⟩ dX2_isWord_30 ?_
          refine lvn_icmp_ge (tgt := 62) hx hb dX2_isWord_33 (by decide) (by omega) (by omega) (fun c_33 => ?_) (fun c_33 => ?_)
          · skip
            exfalso; omega
          · skip
            refine lv_aload_n hx hb dX2_isWord_36 rfl (lv_at hl 1 rfl) ?_
            refine lv_aload_n hx hb dX2_isWord_37 rfl (lv_at hl 1 rfl) ?_
            refine c_get (v := .int (nI (X.1))) (C := RX2) (T := TX2) (N := 6) hx hb hts hin2 hown hK hP (31) (by decide) cE_tp rfl 3 (by decide) (Or.inl (hts (.fieldLink RX2 22 "PennyRoad$Tape" "first" "I") (by decide +kernel))) rfl dX2_isWord_38 ?_
            refine lv_iload_n hx hb dX2_isWord_41 rfl (lv_at hl 0 rfl) ?_
            refine lvn_iadd hx hb dX2_isWord_42 ?_
            refine wq_V S cK_ok hK hP hS (c_X2_byteAt (by omega) (by omega)) gX2_isWord_X2_byteAt i_X2_byteAt rfl (c_rec hK hP 31 (by decide) cE_tp rfl) ⟨Nat.le_of_ble_eq_true rfl, Nat.le_of_ble_eq_true rfl⟩ rfl hl.1 (As := [.int (nI ((X.1) + k))]) (rest := []) (st1 := [.int (bAt (bu tb) T ((X.1) + k))]) rfl rfl (Nat.le_of_ble_eq_true rfl) ⟨Nat.le_of_ble_eq_true rfl, Nat.le_of_ble_eq_true rfl⟩ dX2_isWord_43 (fun H locs hP hS => ?_)
            refine lv_aload_n hx hb dX2_isWord_46 rfl (lv_at hl 2 rfl) ?_
            refine lv_iload_n hx hb dX2_isWord_47 rfl (lv_at hl 0 rfl) ?_
            refine jq_V S hT hS (c_J0_charAt hi (by omega)) gX2_isWord_J0_charAt_5068e i_J0_charAt rfl (vk_recv hT.1 hi hS) ⟨Nat.le_of_ble_eq_true rfl, Nat.le_of_ble_eq_true rfl⟩ rfl hl.1 (As := [.int (nI k)]) (rest := [.int (bAt (bu tb) T ((X.1) + k))]) (st1 := [.int (tgC i k), .int (bAt (bu tb) T ((X.1) + k))]) rfl rfl (Nat.le_of_ble_eq_true rfl) ⟨Nat.le_of_ble_eq_true rfl, Nat.le_of_ble_eq_true rfl⟩ dX2_isWord_48 ?_
            refine lv_icmp_eq (tgt := 56) hx hb dX2_isWord_51 (by decide) (fun c_51 => ?_) (fun c_51 => ?_)
            · skip
              refine lv_iinc (v := nI (k + 1)) (lv' := [(2, .int (nI (k + 1))), (0, .ref (ad 31)), (1, .ref (kS i))]) hx hb dX2_isWord_56 hl (k := 0) rfl (nI_add _ _) (by decide) rfl (fun ls hl => ?_)
              refine lv_goto (tgt := 28) hx hb dX2_isWord_59 (by decide) ?_
              exact ih_28 (k + 1) _ _ ls (by omega) (hF.trans (eqW_t c_51)) hP hS hl
            · skip
              refine lv_iconst (v := nI 0) hx hb dX2_isWord_54 (by decide) ?_
              subst hQ
              exact wq_rz hx hb hr hlocks hP hS dX2_isWord_55 (by subst_vars; first | (left; rfl) | (right; rfl) | (split <;> simp)) (by first | exact rvI (z_f (isW_1 c_5)) | exact rvI (z_f (isW_2 c_21)) | exact rvI (z_f (by rw [hF]; exact eqW_f c_51)) | exact rvI (z_t (by rw [hF]; rfl))) rfl
      exact L_28 (tgN i) 0 _ _ ls (by omega) (isW_3 c_5 c_21) hP hS hl
    · skip
      refine lv_iconst (v := nI 0) hx hb dX2_isWord_24 (by decide) ?_
      subst hQ
      exact wq_rz hx hb hr hlocks hP hS dX2_isWord_25 (by subst_vars; first | (left; rfl) | (right; rfl) | (split <;> simp)) (by first | exact rvI (z_f (isW_1 c_5)) | exact rvI (z_f (isW_2 c_21)) | exact rvI (z_f (by rw [hF]; exact eqW_f c_51)) | exact rvI (z_t (by rw [hF]; rfl))) rfl
theorem i_X2_isWord : ciOk yX2_isWord cX2_isWord 3 (some .boolean) wsX2_isWord 1 := ⟨⟨_, rfl⟩, by decide +kernel⟩
set_option maxHeartbeats 1000000 in
set_option maxRecDepth 100000 in
theorem c_X2_takeWord {l : Launch} {D : va_G} {cy : Nat → ClassId} {ad : Nat → Nat} {kS vS : Nat → Nat} {p0 : Nat → Int32} {p1 : Nat → Int32} {p2 : Nat → Int32} {ke : Int32} {tb : Nat → Int32} {sb : Nat → Int32} {ss : Nat → Int32} {sw : Nat → Nat → Int64} {fd : Nat → Int32} {i : Nat} {T : Nat} {X : TX} (hi : i < 13) (hX : okX T X) (hT2 : T ≤ 120) : Met l yX2_takeWord wsX2_takeWord (rmz 5 107) (tPre D cy ad kS vS (cw cy ad (rr p0 p1 p2) ke tb (nI T) (sortF (bu tb) T X.1) (nI (X.1)) (nI (X.2.1)) X.2.2 sb ss sw fd) [.ref (ad 31), .ref (kS i)]) (wPost D (cw cy ad (rr p0 p1 p2) ke tb (nI T) (sortF (bu tb) T (twF (bu tb) T i X).1) (nI ((twF (bu tb) T i X).1)) (nI ((twF (bu tb) T i X).2.1)) ((twF (bu tb) T i X).2.2) sb ss sw fd) (some (.int (z (isW (bu tb) T X i = true)))) (cA ad)) 0 0 (cA ad) := by
  refine tq_entry rfl rfl (Nat.le_of_ble_eq_true rfl) ?_
  intro p e s0 m args below meth c S hr hlocks hK hT hP ls hl
  have S : CallFix p m c cX2_takeWord 2 s0 args wsX2_takeWord RX2 := S
  obtain ⟨hx, hb, hml, hown, hts⟩ := id S
  have hin2 : ∀ w ∈ wsX20, w ∈ wsX2_takeWord := fun w h => List.mem_cons_of_mem _ (List.mem_append_right _ h)
  have hS : va_S (cA ad) s0.heap s0.heap [] := va_S.rf
  have hl : lv_has ls 2 [(0, .ref (ad 31)), (1, .ref (kS i))] := hl
  generalize hQ : MQ below (wPost D (cw cy ad (rr p0 p1 p2) ke tb (nI T) (sortF (bu tb) T (twF (bu tb) T i X).1) (nI ((twF (bu tb) T i X).1)) (nI ((twF (bu tb) T i X).2.1)) ((twF (bu tb) T i X).2.2) sb ss sw fd) (some (.int (z (isW (bu tb) T X i = true)))) (cA ad)) args s0 0 0 (cA ad) = Q
  refine lv_aload_n hx hb dX2_takeWord_0 rfl (lv_at hl 0 rfl) ?_
  refine lv_aload_n hx hb dX2_takeWord_1 rfl (lv_at hl 1 rfl) ?_
  refine tq_V S hK hT hP hS (c_X2_isWord (i := i) (X := X) (by omega) hX hT2) gX2_takeWord_X2_isWord i_X2_isWord rfl (c_rec hK hP 31 (by decide) cE_tp rfl) ⟨Nat.le_of_ble_eq_true rfl, Nat.le_of_ble_eq_true rfl⟩ rfl hl.1 (As := [.ref (kS i)]) (rest := []) (st1 := [.int (z (isW (bu tb) T X i = true))]) rfl rfl (Nat.le_of_ble_eq_true rfl) ⟨Nat.le_of_ble_eq_true rfl, Nat.le_of_ble_eq_true rfl⟩ dX2_takeWord_2 (fun H locs hP hS => ?_)
  refine lvz_if_ne (tgt := 10) hx hb dX2_takeWord_5 (by decide) (fun c_5 => ?_) (fun c_5 => ?_)
  · skip
    refine lv_aload_n hx hb dX2_takeWord_10 rfl (lv_at hl 0 rfl) ?_
    refine wq_V S cK_ok hK hP hS (c_X2_advT (X := X) hX hT2) gX2_takeWord_X2_advance i_X2_advance rfl (c_rec hK hP 31 (by decide) cE_tp rfl) ⟨Nat.le_of_ble_eq_true rfl, Nat.le_of_ble_eq_true rfl⟩ rfl hl.1 (As := []) (rest := []) (st1 := []) rfl rfl (Nat.le_of_ble_eq_true rfl) ⟨Nat.le_of_ble_eq_true rfl, Nat.le_of_ble_eq_true rfl⟩ dX2_takeWord_11 (fun H locs hP hS => ?_)
    refine lv_iconst (v := nI 1) hx hb dX2_takeWord_14 (by decide) ?_
    subst hQ
    exact wq_rz hx hb hr hlocks hP hS dX2_takeWord_15 (by subst_vars; first | (left; rfl) | (right; rfl) | (split <;> simp)) (by first | exact rvI (z_f c_5) | exact rvI (z_t c_5)) (by first | (unfold twF; rw [if_pos c_5]) | (unfold twF; rw [if_neg c_5]))
  · skip
    refine lv_iconst (v := nI 0) hx hb dX2_takeWord_8 (by decide) ?_
    subst hQ
    exact wq_rz hx hb hr hlocks hP hS dX2_takeWord_9 (by subst_vars; first | (left; rfl) | (right; rfl) | (split <;> simp)) (by first | exact rvI (z_f c_5) | exact rvI (z_t c_5)) (by first | (unfold twF; rw [if_pos c_5]) | (unfold twF; rw [if_neg c_5]))
theorem i_X2_takeWord : ciOk yX2_takeWord cX2_takeWord 2 (some .boolean) wsX2_takeWord 1 := ⟨⟨_, rfl⟩, by decide +kernel⟩
set_option maxHeartbeats 1000000 in
set_option maxRecDepth 100000 in
theorem c_X2_kindNamed {l : Launch} {D : va_G} {cy : Nat → ClassId} {ad : Nat → Nat} {kS vS : Nat → Nat} {p0 : Nat → Int32} {p1 : Nat → Int32} {p2 : Nat → Int32} {ke : Int32} {tb : Nat → Int32} {sb : Nat → Int32} {ss : Nat → Int32} {sw : Nat → Nat → Int64} {fd : Nat → Int32} {T : Nat} {X : TX} (hX : okX T X) (hT2 : T ≤ 120) : Met l yX2_kindNamed wsX2_kindNamed (rmz 5 107) (tPre D cy ad kS vS (cw cy ad (rr p0 p1 p2) ke tb (nI T) (sortF (bu tb) T X.1) (nI (X.1)) (nI (X.2.1)) X.2.2 sb ss sw fd) [.ref (ad 31)]) (wPost D (cw cy ad (rr p0 p1 p2) ke tb (nI T) (sortF (bu tb) T X.1) (nI (X.1)) (nI (X.2.1)) X.2.2 sb ss sw fd) (some (.int (kdL (bu tb) T X 6 0))) (cA ad)) 0 0 (cA ad) := by
  refine tq_entry rfl rfl (Nat.le_of_ble_eq_true rfl) ?_
  intro p e s0 m args below meth c S hr hlocks hK hT hP ls hl
  have S : CallFix p m c cX2_kindNamed 2 s0 args wsX2_kindNamed RX2 := S
  obtain ⟨hx, hb, hml, hown, hts⟩ := id S
  have hin2 : ∀ w ∈ wsX20, w ∈ wsX2_kindNamed := fun w h => List.mem_cons_of_mem _ (List.mem_append_right _ h)
  have hS : va_S (cA ad) s0.heap s0.heap [] := va_S.rf
  have hl : lv_has ls 2 [(0, .ref (ad 31))] := hl
  generalize hQ : MQ below (wPost D (cw cy ad (rr p0 p1 p2) ke tb (nI T) (sortF (bu tb) T X.1) (nI (X.1)) (nI (X.2.1)) X.2.2 sb ss sw fd) (some (.int (kdL (bu tb) T X 6 0))) (cA ad)) args s0 0 0 (cA ad) = Q
  refine lv_iconst (v := nI 0) hx hb dX2_kindNamed_0 (by decide) ?_
  refine lv_istore_n (lv' := [(1, .int (nI 0)), (0, .ref (ad 31))]) hx hb dX2_kindNamed_1 rfl hl (by decide) rfl (fun ls hl => ?_)
  have L_2 : ∀ (n : Nat) (k : Nat) (H : Heap) (locs : List Loc) (ls : Array Slot), (k + n = 6) → (kdL (bu tb) T X 6 0 = kdL (bu tb) T X n k) → va_P D vwCl (cw cy ad (rr p0 p1 p2) ke tb (nI T) (sortF (bu tb) T X.1) (nI (X.1)) (nI (X.2.1)) X.2.2 sb ss sw fd) H → va_S (cA ad) s0.heap H locs → lv_has ls 2 [(1, .int (nI k)), (0, .ref (ad 31))] → W p l e (rmz 5 107) s0 m args below meth c H locs 0 0 Q (F0 m 2 ls []) := by
    intro n
    induction n with
    | zero =>
      intro k H locs ls hj hF hP hS hl
      refine lv_iload_n hx hb dX2_kindNamed_2 rfl (lv_at hl 0 rfl) ?_
      refine lv_iconst (v := nI 5) hx hb dX2_kindNamed_3 (by decide) ?_
      refine lvn_icmp_gt (tgt := 26) hx hb dX2_kindNamed_4 (by decide) (by omega) (by omega) (fun c_4 => ?_) (fun c_4 => ?_)
      · skip
        refine lv_iconst (v := (-1)) hx hb dX2_kindNamed_26 (by decide) ?_
        subst hQ
        exact wq_ri hx hb hr hlocks hP hS dX2_kindNamed_27 (by rw [hF]; first | exact rvI (if_pos c_15) | rfl) rfl
      · skip
        exfalso; omega
    | succ n ih_2 =>
      intro k H locs ls hj hF hP hS hl
      refine lv_iload_n hx hb dX2_kindNamed_2 rfl (lv_at hl 0 rfl) ?_
      refine lv_iconst (v := nI 5) hx hb dX2_kindNamed_3 (by decide) ?_
      refine lvn_icmp_gt (tgt := 26) hx hb dX2_kindNamed_4 (by decide) (by omega) (by omega) (fun c_4 => ?_) (fun c_4 => ?_)
      · skip
        exfalso; omega
      · skip
        refine lv_aload_n hx hb dX2_kindNamed_7 rfl (lv_at hl 1 rfl) ?_
        refine lv_iload_n hx hb dX2_kindNamed_8 rfl (lv_at hl 0 rfl) ?_
        refine jq_S S hT hS (c_X2_nameOf (by omega)) gX2_kindNamed_X2_nameOf i_X2_nameOf ⟨Nat.le_of_ble_eq_true rfl, Nat.le_of_ble_eq_true rfl⟩ rfl hl.1 (As := [.int (nI k)]) (rest := [.ref (ad 31)]) (st1 := [.ref (kS k), .ref (ad 31)]) rfl rfl (Nat.le_of_ble_eq_true rfl) ⟨Nat.le_of_ble_eq_true rfl, Nat.le_of_ble_eq_true rfl⟩ dX2_kindNamed_9 ?_
        refine tq_V S hK hT hP hS (c_X2_isWord (i := k) (X := X) (by omega) hX hT2) gX2_kindNamed_X2_isWord i_X2_isWord rfl (c_rec hK hP 31 (by decide) cE_tp rfl) ⟨Nat.le_of_ble_eq_true rfl, Nat.le_of_ble_eq_true rfl⟩ rfl hl.1 (As := [.ref (kS k)]) (rest := []) (st1 := [.int (z (isW (bu tb) T X k = true))]) rfl rfl (Nat.le_of_ble_eq_true rfl) ⟨Nat.le_of_ble_eq_true rfl, Nat.le_of_ble_eq_true rfl⟩ dX2_kindNamed_12 (fun H locs hP hS => ?_)
        refine lvz_if_eq (tgt := 20) hx hb dX2_kindNamed_15 (by decide) (fun c_15 => ?_) (fun c_15 => ?_)
        · skip
          refine lv_iinc (v := nI (k + 1)) (lv' := [(1, .int (nI (k + 1))), (0, .ref (ad 31))]) hx hb dX2_kindNamed_20 hl (k := 0) rfl (nI_add _ _) (by decide) rfl (fun ls hl => ?_)
          refine lv_goto (tgt := 2) hx hb dX2_kindNamed_23 (by decide) ?_
          exact ih_2 (k + 1) _ _ ls (by omega) (hF.trans (if_neg c_15)) hP hS hl
        · skip
          refine lv_iload_n hx hb dX2_kindNamed_18 rfl (lv_at hl 0 rfl) ?_
          subst hQ
          exact wq_ri hx hb hr hlocks hP hS dX2_kindNamed_19 (by rw [hF]; first | exact rvI (if_pos c_15) | rfl) rfl
  exact L_2 6 0 _ _ ls (by omega) rfl hP hS hl
theorem i_X2_kindNamed : ciOk yX2_kindNamed cX2_kindNamed 2 (some .int) wsX2_kindNamed 0 := ⟨⟨_, rfl⟩, by decide +kernel⟩
set_option maxHeartbeats 1000000 in
set_option maxRecDepth 100000 in
theorem c_X2_takeWalker {l : Launch} {D : va_G} {cy : Nat → ClassId} {ad : Nat → Nat} {kS vS : Nat → Nat} {p0 : Nat → Int32} {p2 : Nat → Int32} {ke : Int32} {tb : Nat → Int32} {sb : Nat → Int32} {ss : Nat → Int32} {sw : Nat → Nat → Int64} {fd : Nat → Int32} {kd : Int32} {T : Nat} {Y : CS} {N : Nat} (hX : okX T Y.2) (hT2 : T ≤ 120) (hN1 : Y.1 0 = nI N) (h8 : N ≤ 8) : Met l yX2_takeWalker wsX2_takeWalker (rmz 6 128) (tPre D cy ad kS vS (cw cy ad (rr p0 Y.1 p2) ke tb (nI T) (sortF (bu tb) T (Y.2).1) (nI ((Y.2).1)) (nI ((Y.2).2.1)) ((Y.2).2.2) sb ss sw fd) [.ref (ad 31), .ref (ad (1 + 10 * 1)), .int (kd)]) (wPost D (cw cy ad (rr p0 ((walkS (bu tb) T N kd Y).1.1) p2) ke tb (nI T) (sortF (bu tb) T ((walkS (bu tb) T N kd Y).1.2).1) (nI (((walkS (bu tb) T N kd Y).1.2).1)) (nI (((walkS (bu tb) T N kd Y).1.2).2.1)) (((walkS (bu tb) T N kd Y).1.2).2.2) sb ss sw fd) (some (.int (z ((walkS (bu tb) T N kd Y).2 = true)))) (cA ad)) 0 0 (cA ad) := by
  refine tq_entry rfl rfl (Nat.le_of_ble_eq_true rfl) ?_
  intro p e s0 m args below meth c S hr hlocks hK hT hP ls hl
  have S : CallFix p m c cX2_takeWalker 4 s0 args wsX2_takeWalker RX2 := S
  obtain ⟨hx, hb, hml, hown, hts⟩ := id S
  have hin3 : ∀ w ∈ wsX30, w ∈ wsX2_takeWalker := fun w h => List.mem_cons_of_mem _ (List.mem_append_left _ (List.mem_append_left _ (List.mem_append_right _ h)))
  have hin0 : ∀ w ∈ wsX00, w ∈ wsX2_takeWalker := fun w h => List.mem_cons_of_mem _ (List.mem_append_left _ (List.mem_append_right _ h))
  have hin2 : ∀ w ∈ wsX20, w ∈ wsX2_takeWalker := fun w h => List.mem_cons_of_mem _ (List.mem_append_right _ h)
  have hS : va_S (cA ad) s0.heap s0.heap [] := va_S.rf
  have hl : lv_has ls 4 [(0, .ref (ad 31)), (1, .ref (ad (1 + 10 * 1))), (2, .int (kd))] := hl
  generalize hQ : MQ below (wPost D (cw cy ad (rr p0 ((walkS (bu tb) T N kd Y).1.1) p2) ke tb (nI T) (sortF (bu tb) T ((walkS (bu tb) T N kd Y).1.2).1) (nI (((walkS (bu tb) T N kd Y).1.2).1)) (nI (((walkS (bu tb) T N kd Y).1.2).2.1)) (((walkS (bu tb) T N kd Y).1.2).2.2) sb ss sw fd) (some (.int (z ((walkS (bu tb) T N kd Y).2 = true)))) (cA ad)) args s0 0 0 (cA ad) = Q
  refine lv_aload_n hx hb dX2_takeWalker_0 rfl (lv_at hl 1 rfl) ?_
  refine wq_VN (host := "PennyRoad") S cK_ok hK hP hS (c_X0_isFull_r1 hN1 h8) gX2_takeWalker_X0_isFull_n70 i_X0_isFull (c_nest hK 52 rfl) (hts (.initialized RX0) (by decide +kernel)) (hts (.instanceMethod yX0_isFull) (by decide +kernel)) (hts (.selects RX0 yX0_isFull yX0_isFull) (by decide +kernel)) (c_rec hK hP (1 + 10 * 1) (by decide) (cE_rd (by decide)) rfl) ⟨Nat.le_of_ble_eq_true rfl, Nat.le_of_ble_eq_true rfl⟩ rfl hl.1 (As := []) (rest := []) (st1 := [.int (z (8 ≤ N))]) rfl rfl (Nat.le_of_ble_eq_true rfl) ⟨Nat.le_of_ble_eq_true rfl, Nat.le_of_ble_eq_true rfl⟩ dX2_takeWalker_1 (fun H locs hP hS => ?_)
  refine lvz_if_eq (tgt := 9) hx hb dX2_takeWalker_4 (by decide) (fun c_4 => ?_) (fun c_4 => ?_)
  · skip
    refine lv_aload_n hx hb dX2_takeWalker_9 rfl (lv_at hl 0 rfl) ?_
    refine wq_V S cK_ok hK hP hS (c_X2_advT (X := Y.2) hX hT2) gX2_takeWalker_X2_advance i_X2_advance rfl (c_rec hK hP 31 (by decide) cE_tp rfl) ⟨Nat.le_of_ble_eq_true rfl, Nat.le_of_ble_eq_true rfl⟩ rfl hl.1 (As := []) (rest := []) (st1 := []) rfl rfl (Nat.le_of_ble_eq_true rfl) ⟨Nat.le_of_ble_eq_true rfl, Nat.le_of_ble_eq_true rfl⟩ dX2_takeWalker_10 (fun H locs hP hS => ?_)
    refine lv_aload_n hx hb dX2_takeWalker_13 rfl (lv_at hl 1 rfl) ?_
    refine lv_iload_n hx hb dX2_takeWalker_14 rfl (lv_at hl 2 rfl) ?_
    refine lv_iconst (v := nI 0) hx hb dX2_takeWalker_15 (by decide) ?_
    refine wq_VN (host := "PennyRoad") S cK_ok hK hP hS (c_X0_join_r1 hN1 (by omega)) gX2_takeWalker_X0_join_n74 i_X0_join (c_nest hK 53 rfl) (hts (.initialized RX0) (by decide +kernel)) (hts (.instanceMethod yX0_join) (by decide +kernel)) (hts (.selects RX0 yX0_join yX0_join) (by decide +kernel)) (c_rec hK hP (1 + 10 * 1) (by decide) (cE_rd (by decide)) rfl) ⟨Nat.le_of_ble_eq_true rfl, Nat.le_of_ble_eq_true rfl⟩ rfl hl.1 (As := [.int (kd), .int (nI 0)]) (rest := []) (st1 := [.ref (ad (3 + 10 * 1 + N))]) rfl rfl (Nat.le_of_ble_eq_true rfl) ⟨Nat.le_of_ble_eq_true rfl, Nat.le_of_ble_eq_true rfl⟩ dX2_takeWalker_16 (fun H locs hP hS => ?_)
    refine lv_astore_n (lv' := [(3, .ref (ad (3 + 10 * 1 + N))), (0, .ref (ad 31)), (1, .ref (ad (1 + 10 * 1))), (2, .int (kd))]) hx hb dX2_takeWalker_19 rfl hl (by decide) rfl (fun ls hl => ?_)
    refine lv_aload_n hx hb dX2_takeWalker_20 rfl (lv_at hl 1 rfl) ?_
    refine va_ldcS hx hb hown (show vk_R RX2 78 "at" (kS 6) s0 from hT.2.2.2 6 (by decide)) dX2_takeWalker_21 ?_
    refine tq_V S hK hT hP hS (c_X2_takeWord (i := 6) (X := advT (bu tb) T Y.2) (by omega) (advT_ok hX) hT2) gX2_takeWalker_X2_takeWord i_X2_takeWord rfl (c_rec hK hP 31 (by decide) cE_tp rfl) ⟨Nat.le_of_ble_eq_true rfl, Nat.le_of_ble_eq_true rfl⟩ rfl hl.1 (As := [.ref (kS 6)]) (rest := []) (st1 := [.int (z (isW (bu tb) T (advT (bu tb) T Y.2) 6 = true))]) rfl rfl (Nat.le_of_ble_eq_true rfl) ⟨Nat.le_of_ble_eq_true rfl, Nat.le_of_ble_eq_true rfl⟩ dX2_takeWalker_23 (fun H locs hP hS => ?_)
    refine lvz_if_eq (tgt := 48) hx hb dX2_takeWalker_26 (by decide) (fun c_26 => ?_) (fun c_26 => ?_)
    · skip
      rw [show twF (bu tb) T 6 (advT (bu tb) T Y.2) = advT (bu tb) T Y.2 from if_neg c_26] at hP
      refine lv_aload_n hx hb dX2_takeWalker_48 rfl (lv_at hl 1 rfl) ?_
      refine va_ldcS hx hb hown (show vk_R RX2 85 "down" (kS 7) s0 from hT.2.2.2 7 (by decide)) dX2_takeWalker_49 ?_
      refine tq_V S hK hT hP hS (c_X2_takeWord (i := 7) (X := advT (bu tb) T Y.2) (by omega) (advT_ok hX) hT2) gX2_takeWalker_X2_takeWord i_X2_takeWord rfl (c_rec hK hP 31 (by decide) cE_tp rfl) ⟨Nat.le_of_ble_eq_true rfl, Nat.le_of_ble_eq_true rfl⟩ rfl hl.1 (As := [.ref (kS 7)]) (rest := []) (st1 := [.int (z (isW (bu tb) T (advT (bu tb) T Y.2) 7 = true))]) rfl rfl (Nat.le_of_ble_eq_true rfl) ⟨Nat.le_of_ble_eq_true rfl, Nat.le_of_ble_eq_true rfl⟩ dX2_takeWalker_51 (fun H locs hP hS => ?_)
      refine lvz_if_eq (tgt := 62) hx hb dX2_takeWalker_54 (by decide) (fun c_54 => ?_) (fun c_54 => ?_)
      · skip
        rw [show twF (bu tb) T 7 (advT (bu tb) T Y.2) = advT (bu tb) T Y.2 from if_neg c_54] at hP
        refine lv_aload_n hx hb dX2_takeWalker_62 rfl (lv_at hl 1 rfl) ?_
        refine va_ldcS hx hb hown (show vk_R RX2 90 "reason" (kS 8) s0 from hT.2.2.2 8 (by decide)) dX2_takeWalker_63 ?_
        refine tq_V S hK hT hP hS (c_X2_takeWord (i := 8) (X := advT (bu tb) T Y.2) (by omega) (advT_ok hX) hT2) gX2_takeWalker_X2_takeWord i_X2_takeWord rfl (c_rec hK hP 31 (by decide) cE_tp rfl) ⟨Nat.le_of_ble_eq_true rfl, Nat.le_of_ble_eq_true rfl⟩ rfl hl.1 (As := [.ref (kS 8)]) (rest := []) (st1 := [.int (z (isW (bu tb) T (advT (bu tb) T Y.2) 8 = true))]) rfl rfl (Nat.le_of_ble_eq_true rfl) ⟨Nat.le_of_ble_eq_true rfl, Nat.le_of_ble_eq_true rfl⟩ dX2_takeWalker_65 (fun H locs hP hS => ?_)
        refine lvz_if_eq (tgt := 81) hx hb dX2_takeWalker_68 (by decide) (fun c_68 => ?_) (fun c_68 => ?_)
        · skip
          rw [show twF (bu tb) T 8 (advT (bu tb) T Y.2) = advT (bu tb) T Y.2 from if_neg c_68] at hP
          refine lv_aload_n hx hb dX2_takeWalker_81 rfl (lv_at hl 0 rfl) ?_
          refine c_get (v := .int ((addF Y.1 N (kd) (nI 0)) (5 + 8 * N + 3))) (C := RX3) (T := TX3) (N := 8) hx hb hts hin3 hown hK hP (3 + 10 * 1 + N) (by omega) (cE_wk (by decide) (by omega)) rfl 3 (by decide) (Or.inr (c_nest hK 7 rfl)) rfl dX2_takeWalker_82 ?_
          refine lv_if_lt (tgt := 92) hx hb dX2_takeWalker_85 (by decide) (fun c_85 => ?_) (fun c_85 => ?_)
          · skip
            refine lv_iconst (v := nI 0) hx hb dX2_takeWalker_92 (by decide) ?_
            have hE : walkS (bu tb) T N kd Y = ((addF Y.1 N (kd) (nI 0), advT (bu tb) T Y.2), false) := by simp only [walkS, wk1, wk2, wk3, wk4, wk5, numS, if_neg c_4, if_neg c_26, if_neg c_54, if_neg c_68, if_pos c_85]
            subst hQ
            exact wq_rz hx hb hr hlocks hP hS dX2_takeWalker_93 (by subst_vars; first | (left; rfl) | (right; rfl) | (split <;> simp)) (by rw [hE] <;> rfl) (by rw [hE])
          · skip
            refine lv_iconst (v := nI 1) hx hb dX2_takeWalker_88 (by decide) ?_
            refine lv_goto (tgt := 93) hx hb dX2_takeWalker_89 (by decide) ?_
            have hE : walkS (bu tb) T N kd Y = ((addF Y.1 N (kd) (nI 0), advT (bu tb) T Y.2), true) := by simp only [walkS, wk1, wk2, wk3, wk4, wk5, numS, if_neg c_4, if_neg c_26, if_neg c_54, if_neg c_68, if_neg c_85]
            subst hQ
            exact wq_rz hx hb hr hlocks hP hS dX2_takeWalker_93 (by subst_vars; first | (left; rfl) | (right; rfl) | (split <;> simp)) (by rw [hE] <;> rfl) (by rw [hE])
        · skip
          rw [show twF (bu tb) T 8 (advT (bu tb) T Y.2) = advT (bu tb) T (advT (bu tb) T Y.2) from if_pos c_68] at hP
          refine lv_aload_n hx hb dX2_takeWalker_71 rfl (lv_at hl 0 rfl) ?_
          refine lv_aload_n hx hb dX2_takeWalker_72 rfl (lv_at hl 1 rfl) ?_
          refine lv_bipush (v := nI 9) hx hb dX2_takeWalker_73 (by decide) ?_
          refine wq_V S cK_ok hK hP hS (c_X2_takeNumber (X := advT (bu tb) T (advT (bu tb) T Y.2)) (advT_ok (advT_ok hX)).2 hT2) gX2_takeWalker_X2_takeNumber i_X2_takeNumber rfl (c_rec hK hP 31 (by decide) cE_tp rfl) ⟨Nat.le_of_ble_eq_true rfl, Nat.le_of_ble_eq_true rfl⟩ rfl hl.1 (As := [.int (nI 9)]) (rest := [.ref (ad (3 + 10 * 1 + N))]) (st1 := [.int (if tnC (bu tb) T (advT (bu tb) T (advT (bu tb) T Y.2)) (nI 9) = true then (advT (bu tb) T (advT (bu tb) T Y.2)).2.2 else -1), .ref (ad (3 + 10 * 1 + N))]) rfl rfl (Nat.le_of_ble_eq_true rfl) ⟨Nat.le_of_ble_eq_true rfl, Nat.le_of_ble_eq_true rfl⟩ dX2_takeWalker_75 (fun H locs hP hS => ?_)
          refine c_put (w' := (cw cy ad (rr p0 (upd (addF Y.1 N (kd) (nI 0)) (5 + 8 * N + 3) (if tnC (bu tb) T (advT (bu tb) T (advT (bu tb) T Y.2)) (nI 9) = true then (advT (bu tb) T (advT (bu tb) T Y.2)).2.2 else -1)) p2) ke tb (nI T) (sortF (bu tb) T (tnF (bu tb) T (advT (bu tb) T (advT (bu tb) T Y.2)) (nI 9)).1) (nI ((tnF (bu tb) T (advT (bu tb) T (advT (bu tb) T Y.2)) (nI 9)).1)) (nI ((tnF (bu tb) T (advT (bu tb) T (advT (bu tb) T Y.2)) (nI 9)).2.1)) ((tnF (bu tb) T (advT (bu tb) T (advT (bu tb) T Y.2)) (nI 9)).2.2) sb ss sw fd)) (ty := .int) (C := RX3) (T := TX3) (N := 8) hx hb hts hin3 tyX3 tyX3_ok nmX3 hown hK hP hS (3 + 10 * 1 + N) (by omega) (cE_wk (by decide) (by omega)) rfl 3 (by decide) (Or.inr (c_nest hK 7 rfl)) rfl (by decide +kernel) rfl rfl (by show _ < 8; decide) ((cs_W (by decide) (by omega) (by decide)).trans (by rw [rr_up1]; rfl)) dX2_takeWalker_78 (fun H locs hP hS => ?_)
          refine lv_aload_n hx hb dX2_takeWalker_81 rfl (lv_at hl 0 rfl) ?_
          refine c_get (v := .int ((upd (addF Y.1 N (kd) (nI 0)) (5 + 8 * N + 3) (if tnC (bu tb) T (advT (bu tb) T (advT (bu tb) T Y.2)) (nI 9) = true then (advT (bu tb) T (advT (bu tb) T Y.2)).2.2 else -1)) (5 + 8 * N + 3))) (C := RX3) (T := TX3) (N := 8) hx hb hts hin3 hown hK hP (3 + 10 * 1 + N) (by omega) (cE_wk (by decide) (by omega)) rfl 3 (by decide) (Or.inr (c_nest hK 7 rfl)) rfl dX2_takeWalker_82 ?_
          refine lv_if_lt (tgt := 92) hx hb dX2_takeWalker_85 (by decide) (fun c_85 => ?_) (fun c_85 => ?_)
          · skip
            refine lv_iconst (v := nI 0) hx hb dX2_takeWalker_92 (by decide) ?_
            have hE : walkS (bu tb) T N kd Y = ((upd (addF Y.1 N (kd) (nI 0)) (5 + 8 * N + 3) (if tnC (bu tb) T (advT (bu tb) T (advT (bu tb) T Y.2)) (nI 9) = true then (advT (bu tb) T (advT (bu tb) T Y.2)).2.2 else -1), tnF (bu tb) T (advT (bu tb) T (advT (bu tb) T Y.2)) (nI 9)), false) := by simp only [walkS, wk1, wk2, wk3, wk4, wk5, numS, if_neg c_4, if_neg c_26, if_neg c_54, if_pos c_68, if_pos c_85]
            subst hQ
            exact wq_rz hx hb hr hlocks hP hS dX2_takeWalker_93 (by subst_vars; first | (left; rfl) | (right; rfl) | (split <;> simp)) (by rw [hE] <;> rfl) (by rw [hE])
          · skip
            refine lv_iconst (v := nI 1) hx hb dX2_takeWalker_88 (by decide) ?_
            refine lv_goto (tgt := 93) hx hb dX2_takeWalker_89 (by decide) ?_
            have hE : walkS (bu tb) T N kd Y = ((upd (addF Y.1 N (kd) (nI 0)) (5 + 8 * N + 3) (if tnC (bu tb) T (advT (bu tb) T (advT (bu tb) T Y.2)) (nI 9) = true then (advT (bu tb) T (advT (bu tb) T Y.2)).2.2 else -1), tnF (bu tb) T (advT (bu tb) T (advT (bu tb) T Y.2)) (nI 9)), true) := by simp only [walkS, wk1, wk2, wk3, wk4, wk5, numS, if_neg c_4, if_neg c_26, if_neg c_54, if_pos c_68, if_neg c_85]
            subst hQ
            exact wq_rz hx hb hr hlocks hP hS dX2_takeWalker_93 (by subst_vars; first | (left; rfl) | (right; rfl) | (split <;> simp)) (by rw [hE] <;> rfl) (by rw [hE])
      · skip
        rw [show twF (bu tb) T 7 (advT (bu tb) T Y.2) = advT (bu tb) T (advT (bu tb) T Y.2) from if_pos c_54] at hP
        refine lv_aload_n hx hb dX2_takeWalker_57 rfl (lv_at hl 0 rfl) ?_
        refine lv_iconst (v := nI 0) hx hb dX2_takeWalker_58 (by decide) ?_
        refine c_put (w' := (cw cy ad (rr p0 (upd (addF Y.1 N (kd) (nI 0)) (5 + 8 * N + 2) (nI 0)) p2) ke tb (nI T) (sortF (bu tb) T (advT (bu tb) T (advT (bu tb) T Y.2)).1) (nI ((advT (bu tb) T (advT (bu tb) T Y.2)).1)) (nI ((advT (bu tb) T (advT (bu tb) T Y.2)).2.1)) ((advT (bu tb) T (advT (bu tb) T Y.2)).2.2) sb ss sw fd)) (ty := .int) (C := RX3) (T := TX3) (N := 8) hx hb hts hin3 tyX3 tyX3_ok nmX3 hown hK hP hS (3 + 10 * 1 + N) (by omega) (cE_wk (by decide) (by omega)) rfl 2 (by decide) (Or.inr (c_nest hK 5 rfl)) rfl (by decide +kernel) rfl rfl (by show _ < 8; decide) ((cs_W (by decide) (by omega) (by decide)).trans (by rw [rr_up1]; rfl)) dX2_takeWalker_59 (fun H locs hP hS => ?_)
        refine lv_aload_n hx hb dX2_takeWalker_62 rfl (lv_at hl 1 rfl) ?_
        refine va_ldcS hx hb hown (show vk_R RX2 90 "reason" (kS 8) s0 from hT.2.2.2 8 (by decide)) dX2_takeWalker_63 ?_
        refine tq_V S hK hT hP hS (c_X2_takeWord (i := 8) (X := advT (bu tb) T (advT (bu tb) T Y.2)) (by omega) (advT_ok (advT_ok hX)) hT2) gX2_takeWalker_X2_takeWord i_X2_takeWord rfl (c_rec hK hP 31 (by decide) cE_tp rfl) ⟨Nat.le_of_ble_eq_true rfl, Nat.le_of_ble_eq_true rfl⟩ rfl hl.1 (As := [.ref (kS 8)]) (rest := []) (st1 := [.int (z (isW (bu tb) T (advT (bu tb) T (advT (bu tb) T Y.2)) 8 = true))]) rfl rfl (Nat.le_of_ble_eq_true rfl) ⟨Nat.le_of_ble_eq_true rfl, Nat.le_of_ble_eq_true rfl⟩ dX2_takeWalker_65 (fun H locs hP hS => ?_)
        refine lvz_if_eq (tgt := 81) hx hb dX2_takeWalker_68 (by decide) (fun c_68 => ?_) (fun c_68 => ?_)
        · skip
          rw [show twF (bu tb) T 8 (advT (bu tb) T (advT (bu tb) T Y.2)) = advT (bu tb) T (advT (bu tb) T Y.2) from if_neg c_68] at hP
          refine lv_aload_n hx hb dX2_takeWalker_81 rfl (lv_at hl 0 rfl) ?_
          refine c_get (v := .int ((upd (addF Y.1 N (kd) (nI 0)) (5 + 8 * N + 2) (nI 0)) (5 + 8 * N + 3))) (C := RX3) (T := TX3) (N := 8) hx hb hts hin3 hown hK hP (3 + 10 * 1 + N) (by omega) (cE_wk (by decide) (by omega)) rfl 3 (by decide) (Or.inr (c_nest hK 7 rfl)) rfl dX2_takeWalker_82 ?_
          refine lv_if_lt (tgt := 92) hx hb dX2_takeWalker_85 (by decide) (fun c_85 => ?_) (fun c_85 => ?_)
          · skip
            refine lv_iconst (v := nI 0) hx hb dX2_takeWalker_92 (by decide) ?_
            have hE : walkS (bu tb) T N kd Y = ((upd (addF Y.1 N (kd) (nI 0)) (5 + 8 * N + 2) (nI 0), advT (bu tb) T (advT (bu tb) T Y.2)), false) := by simp only [walkS, wk1, wk2, wk3, wk4, wk5, numS, if_neg c_4, if_neg c_26, if_pos c_54, if_neg c_68, if_pos c_85]
            subst hQ
            exact wq_rz hx hb hr hlocks hP hS dX2_takeWalker_93 (by subst_vars; first | (left; rfl) | (right; rfl) | (split <;> simp)) (by rw [hE] <;> rfl) (by rw [hE])
          · skip
            refine lv_iconst (v := nI 1) hx hb dX2_takeWalker_88 (by decide) ?_
            refine lv_goto (tgt := 93) hx hb dX2_takeWalker_89 (by decide) ?_
            have hE : walkS (bu tb) T N kd Y = ((upd (addF Y.1 N (kd) (nI 0)) (5 + 8 * N + 2) (nI 0), advT (bu tb) T (advT (bu tb) T Y.2)), true) := by simp only [walkS, wk1, wk2, wk3, wk4, wk5, numS, if_neg c_4, if_neg c_26, if_pos c_54, if_neg c_68, if_neg c_85]
            subst hQ
            exact wq_rz hx hb hr hlocks hP hS dX2_takeWalker_93 (by subst_vars; first | (left; rfl) | (right; rfl) | (split <;> simp)) (by rw [hE] <;> rfl) (by rw [hE])
        · skip
          rw [show twF (bu tb) T 8 (advT (bu tb) T (advT (bu tb) T Y.2)) = advT (bu tb) T (advT (bu tb) T (advT (bu tb) T Y.2)) from if_pos c_68] at hP
          refine lv_aload_n hx hb dX2_takeWalker_71 rfl (lv_at hl 0 rfl) ?_
          refine lv_aload_n hx hb dX2_takeWalker_72 rfl (lv_at hl 1 rfl) ?_
          refine lv_bipush (v := nI 9) hx hb dX2_takeWalker_73 (by decide) ?_
          refine wq_V S cK_ok hK hP hS (c_X2_takeNumber (X := advT (bu tb) T (advT (bu tb) T (advT (bu tb) T Y.2))) (advT_ok (advT_ok (advT_ok hX))).2 hT2) gX2_takeWalker_X2_takeNumber i_X2_takeNumber rfl (c_rec hK hP 31 (by decide) cE_tp rfl) ⟨Nat.le_of_ble_eq_true rfl, Nat.le_of_ble_eq_true rfl⟩ rfl hl.1 (As := [.int (nI 9)]) (rest := [.ref (ad (3 + 10 * 1 + N))]) (st1 := [.int (if tnC (bu tb) T (advT (bu tb) T (advT (bu tb) T (advT (bu tb) T Y.2))) (nI 9) = true then (advT (bu tb) T (advT (bu tb) T (advT (bu tb) T Y.2))).2.2 else -1), .ref (ad (3 + 10 * 1 + N))]) rfl rfl (Nat.le_of_ble_eq_true rfl) ⟨Nat.le_of_ble_eq_true rfl, Nat.le_of_ble_eq_true rfl⟩ dX2_takeWalker_75 (fun H locs hP hS => ?_)
          refine c_put (w' := (cw cy ad (rr p0 (upd (upd (addF Y.1 N (kd) (nI 0)) (5 + 8 * N + 2) (nI 0)) (5 + 8 * N + 3) (if tnC (bu tb) T (advT (bu tb) T (advT (bu tb) T (advT (bu tb) T Y.2))) (nI 9) = true then (advT (bu tb) T (advT (bu tb) T (advT (bu tb) T Y.2))).2.2 else -1)) p2) ke tb (nI T) (sortF (bu tb) T (tnF (bu tb) T (advT (bu tb) T (advT (bu tb) T (advT (bu tb) T Y.2))) (nI 9)).1) (nI ((tnF (bu tb) T (advT (bu tb) T (advT (bu tb) T (advT (bu tb) T Y.2))) (nI 9)).1)) (nI ((tnF (bu tb) T (advT (bu tb) T (advT (bu tb) T (advT (bu tb) T Y.2))) (nI 9)).2.1)) ((tnF (bu tb) T (advT (bu tb) T (advT (bu tb) T (advT (bu tb) T Y.2))) (nI 9)).2.2) sb ss sw fd)) (ty := .int) (C := RX3) (T := TX3) (N := 8) hx hb hts hin3 tyX3 tyX3_ok nmX3 hown hK hP hS (3 + 10 * 1 + N) (by omega) (cE_wk (by decide) (by omega)) rfl 3 (by decide) (Or.inr (c_nest hK 7 rfl)) rfl (by decide +kernel) rfl rfl (by show _ < 8; decide) ((cs_W (by decide) (by omega) (by decide)).trans (by rw [rr_up1]; rfl)) dX2_takeWalker_78 (fun H locs hP hS => ?_)
          refine lv_aload_n hx hb dX2_takeWalker_81 rfl (lv_at hl 0 rfl) ?_
          refine c_get (v := .int ((upd (upd (addF Y.1 N (kd) (nI 0)) (5 + 8 * N + 2) (nI 0)) (5 + 8 * N + 3) (if tnC (bu tb) T (advT (bu tb) T (advT (bu tb) T (advT (bu tb) T Y.2))) (nI 9) = true then (advT (bu tb) T (advT (bu tb) T (advT (bu tb) T Y.2))).2.2 else -1)) (5 + 8 * N + 3))) (C := RX3) (T := TX3) (N := 8) hx hb hts hin3 hown hK hP (3 + 10 * 1 + N) (by omega) (cE_wk (by decide) (by omega)) rfl 3 (by decide) (Or.inr (c_nest hK 7 rfl)) rfl dX2_takeWalker_82 ?_
          refine lv_if_lt (tgt := 92) hx hb dX2_takeWalker_85 (by decide) (fun c_85 => ?_) (fun c_85 => ?_)
          · skip
            refine lv_iconst (v := nI 0) hx hb dX2_takeWalker_92 (by decide) ?_
            have hE : walkS (bu tb) T N kd Y = ((upd (upd (addF Y.1 N (kd) (nI 0)) (5 + 8 * N + 2) (nI 0)) (5 + 8 * N + 3) (if tnC (bu tb) T (advT (bu tb) T (advT (bu tb) T (advT (bu tb) T Y.2))) (nI 9) = true then (advT (bu tb) T (advT (bu tb) T (advT (bu tb) T Y.2))).2.2 else -1), tnF (bu tb) T (advT (bu tb) T (advT (bu tb) T (advT (bu tb) T Y.2))) (nI 9)), false) := by simp only [walkS, wk1, wk2, wk3, wk4, wk5, numS, if_neg c_4, if_neg c_26, if_pos c_54, if_pos c_68, if_pos c_85]
            subst hQ
            exact wq_rz hx hb hr hlocks hP hS dX2_takeWalker_93 (by subst_vars; first | (left; rfl) | (right; rfl) | (split <;> simp)) (by rw [hE] <;> rfl) (by rw [hE])
          · skip
            refine lv_iconst (v := nI 1) hx hb dX2_takeWalker_88 (by decide) ?_
            refine lv_goto (tgt := 93) hx hb dX2_takeWalker_89 (by decide) ?_
            have hE : walkS (bu tb) T N kd Y = ((upd (upd (addF Y.1 N (kd) (nI 0)) (5 + 8 * N + 2) (nI 0)) (5 + 8 * N + 3) (if tnC (bu tb) T (advT (bu tb) T (advT (bu tb) T (advT (bu tb) T Y.2))) (nI 9) = true then (advT (bu tb) T (advT (bu tb) T (advT (bu tb) T Y.2))).2.2 else -1), tnF (bu tb) T (advT (bu tb) T (advT (bu tb) T (advT (bu tb) T Y.2))) (nI 9)), true) := by simp only [walkS, wk1, wk2, wk3, wk4, wk5, numS, if_neg c_4, if_neg c_26, if_pos c_54, if_pos c_68, if_neg c_85]
            subst hQ
            exact wq_rz hx hb hr hlocks hP hS dX2_takeWalker_93 (by subst_vars; first | (left; rfl) | (right; rfl) | (split <;> simp)) (by rw [hE] <;> rfl) (by rw [hE])
    · skip
      rw [show twF (bu tb) T 6 (advT (bu tb) T Y.2) = advT (bu tb) T (advT (bu tb) T Y.2) from if_pos c_26] at hP
      refine lv_aload_n hx hb dX2_takeWalker_29 rfl (lv_at hl 0 rfl) ?_
      refine lv_aload_n hx hb dX2_takeWalker_30 rfl (lv_at hl 1 rfl) ?_
      refine lv_bipush (v := nI 12) hx hb dX2_takeWalker_31 (by decide) ?_
      refine wq_V S cK_ok hK hP hS (c_X2_takeNumber (X := advT (bu tb) T (advT (bu tb) T Y.2)) (advT_ok (advT_ok hX)).2 hT2) gX2_takeWalker_X2_takeNumber i_X2_takeNumber rfl (c_rec hK hP 31 (by decide) cE_tp rfl) ⟨Nat.le_of_ble_eq_true rfl, Nat.le_of_ble_eq_true rfl⟩ rfl hl.1 (As := [.int (nI 12)]) (rest := [.ref (ad (3 + 10 * 1 + N))]) (st1 := [.int (if tnC (bu tb) T (advT (bu tb) T (advT (bu tb) T Y.2)) (nI 12) = true then (advT (bu tb) T (advT (bu tb) T Y.2)).2.2 else -1), .ref (ad (3 + 10 * 1 + N))]) rfl rfl (Nat.le_of_ble_eq_true rfl) ⟨Nat.le_of_ble_eq_true rfl, Nat.le_of_ble_eq_true rfl⟩ dX2_takeWalker_33 (fun H locs hP hS => ?_)
      refine c_put (w' := (cw cy ad (rr p0 (upd (addF Y.1 N (kd) (nI 0)) (5 + 8 * N + 1) (if tnC (bu tb) T (advT (bu tb) T (advT (bu tb) T Y.2)) (nI 12) = true then (advT (bu tb) T (advT (bu tb) T Y.2)).2.2 else -1)) p2) ke tb (nI T) (sortF (bu tb) T (tnF (bu tb) T (advT (bu tb) T (advT (bu tb) T Y.2)) (nI 12)).1) (nI ((tnF (bu tb) T (advT (bu tb) T (advT (bu tb) T Y.2)) (nI 12)).1)) (nI ((tnF (bu tb) T (advT (bu tb) T (advT (bu tb) T Y.2)) (nI 12)).2.1)) ((tnF (bu tb) T (advT (bu tb) T (advT (bu tb) T Y.2)) (nI 12)).2.2) sb ss sw fd)) (ty := .int) (C := RX3) (T := TX3) (N := 8) hx hb hts hin3 tyX3 tyX3_ok nmX3 hown hK hP hS (3 + 10 * 1 + N) (by omega) (cE_wk (by decide) (by omega)) rfl 1 (by decide) (Or.inr (c_nest hK 3 rfl)) rfl (by decide +kernel) rfl rfl (by show _ < 8; decide) ((cs_W (by decide) (by omega) (by decide)).trans (by rw [rr_up1]; rfl)) dX2_takeWalker_36 (fun H locs hP hS => ?_)
      refine lv_aload_n hx hb dX2_takeWalker_39 rfl (lv_at hl 0 rfl) ?_
      refine c_get (v := .int ((upd (addF Y.1 N (kd) (nI 0)) (5 + 8 * N + 1) (if tnC (bu tb) T (advT (bu tb) T (advT (bu tb) T Y.2)) (nI 12) = true then (advT (bu tb) T (advT (bu tb) T Y.2)).2.2 else -1)) (5 + 8 * N + 1))) (C := RX3) (T := TX3) (N := 8) hx hb hts hin3 hown hK hP (3 + 10 * 1 + N) (by omega) (cE_wk (by decide) (by omega)) rfl 1 (by decide) (Or.inr (c_nest hK 3 rfl)) rfl dX2_takeWalker_40 ?_
      refine lv_if_ge (tgt := 48) hx hb dX2_takeWalker_43 (by decide) (fun c_43 => ?_) (fun c_43 => ?_)
      · skip
        refine lv_aload_n hx hb dX2_takeWalker_48 rfl (lv_at hl 1 rfl) ?_
        refine va_ldcS hx hb hown (show vk_R RX2 85 "down" (kS 7) s0 from hT.2.2.2 7 (by decide)) dX2_takeWalker_49 ?_
        refine tq_V S hK hT hP hS (c_X2_takeWord (i := 7) (X := tnF (bu tb) T (advT (bu tb) T (advT (bu tb) T Y.2)) (nI 12)) (by omega) (tnF_ok (advT_ok (advT_ok hX))) hT2) gX2_takeWalker_X2_takeWord i_X2_takeWord rfl (c_rec hK hP 31 (by decide) cE_tp rfl) ⟨Nat.le_of_ble_eq_true rfl, Nat.le_of_ble_eq_true rfl⟩ rfl hl.1 (As := [.ref (kS 7)]) (rest := []) (st1 := [.int (z (isW (bu tb) T (tnF (bu tb) T (advT (bu tb) T (advT (bu tb) T Y.2)) (nI 12)) 7 = true))]) rfl rfl (Nat.le_of_ble_eq_true rfl) ⟨Nat.le_of_ble_eq_true rfl, Nat.le_of_ble_eq_true rfl⟩ dX2_takeWalker_51 (fun H locs hP hS => ?_)
        refine lvz_if_eq (tgt := 62) hx hb dX2_takeWalker_54 (by decide) (fun c_54 => ?_) (fun c_54 => ?_)
        · skip
          rw [show twF (bu tb) T 7 (tnF (bu tb) T (advT (bu tb) T (advT (bu tb) T Y.2)) (nI 12)) = tnF (bu tb) T (advT (bu tb) T (advT (bu tb) T Y.2)) (nI 12) from if_neg c_54] at hP
          refine lv_aload_n hx hb dX2_takeWalker_62 rfl (lv_at hl 1 rfl) ?_
          refine va_ldcS hx hb hown (show vk_R RX2 90 "reason" (kS 8) s0 from hT.2.2.2 8 (by decide)) dX2_takeWalker_63 ?_
          refine tq_V S hK hT hP hS (c_X2_takeWord (i := 8) (X := tnF (bu tb) T (advT (bu tb) T (advT (bu tb) T Y.2)) (nI 12)) (by omega) (tnF_ok (advT_ok (advT_ok hX))) hT2) gX2_takeWalker_X2_takeWord i_X2_takeWord rfl (c_rec hK hP 31 (by decide) cE_tp rfl) ⟨Nat.le_of_ble_eq_true rfl, Nat.le_of_ble_eq_true rfl⟩ rfl hl.1 (As := [.ref (kS 8)]) (rest := []) (st1 := [.int (z (isW (bu tb) T (tnF (bu tb) T (advT (bu tb) T (advT (bu tb) T Y.2)) (nI 12)) 8 = true))]) rfl rfl (Nat.le_of_ble_eq_true rfl) ⟨Nat.le_of_ble_eq_true rfl, Nat.le_of_ble_eq_true rfl⟩ dX2_takeWalker_65 (fun H locs hP hS => ?_)
          refine lvz_if_eq (tgt := 81) hx hb dX2_takeWalker_68 (by decide) (fun c_68 => ?_) (fun c_68 => ?_)
          · skip
            rw [show twF (bu tb) T 8 (tnF (bu tb) T (advT (bu tb) T (advT (bu tb) T Y.2)) (nI 12)) = tnF (bu tb) T (advT (bu tb) T (advT (bu tb) T Y.2)) (nI 12) from if_neg c_68] at hP
            refine lv_aload_n hx hb dX2_takeWalker_81 rfl (lv_at hl 0 rfl) ?_
            refine c_get (v := .int ((upd (addF Y.1 N (kd) (nI 0)) (5 + 8 * N + 1) (if tnC (bu tb) T (advT (bu tb) T (advT (bu tb) T Y.2)) (nI 12) = true then (advT (bu tb) T (advT (bu tb) T Y.2)).2.2 else -1)) (5 + 8 * N + 3))) (C := RX3) (T := TX3) (N := 8) hx hb hts hin3 hown hK hP (3 + 10 * 1 + N) (by omega) (cE_wk (by decide) (by omega)) rfl 3 (by decide) (Or.inr (c_nest hK 7 rfl)) rfl dX2_takeWalker_82 ?_
            refine lv_if_lt (tgt := 92) hx hb dX2_takeWalker_85 (by decide) (fun c_85 => ?_) (fun c_85 => ?_)
            · skip
              refine lv_iconst (v := nI 0) hx hb dX2_takeWalker_92 (by decide) ?_
              have hE : walkS (bu tb) T N kd Y = ((upd (addF Y.1 N (kd) (nI 0)) (5 + 8 * N + 1) (if tnC (bu tb) T (advT (bu tb) T (advT (bu tb) T Y.2)) (nI 12) = true then (advT (bu tb) T (advT (bu tb) T Y.2)).2.2 else -1), tnF (bu tb) T (advT (bu tb) T (advT (bu tb) T Y.2)) (nI 12)), false) := by simp only [walkS, wk1, wk2, wk3, wk4, wk5, numS, if_neg c_4, if_pos c_26, if_pos c_43, if_neg c_54, if_neg c_68, if_pos c_85]
              subst hQ
              exact wq_rz hx hb hr hlocks hP hS dX2_takeWalker_93 (by subst_vars; first | (left; rfl) | (right; rfl) | (split <;> simp)) (by rw [hE] <;> rfl) (by rw [hE])
            · skip
              refine lv_iconst (v := nI 1) hx hb dX2_takeWalker_88 (by decide) ?_
              refine lv_goto (tgt := 93) hx hb dX2_takeWalker_89 (by decide) ?_
              have hE : walkS (bu tb) T N kd Y = ((upd (addF Y.1 N (kd) (nI 0)) (5 + 8 * N + 1) (if tnC (bu tb) T (advT (bu tb) T (advT (bu tb) T Y.2)) (nI 12) = true then (advT (bu tb) T (advT (bu tb) T Y.2)).2.2 else -1), tnF (bu tb) T (advT (bu tb) T (advT (bu tb) T Y.2)) (nI 12)), true) := by simp only [walkS, wk1, wk2, wk3, wk4, wk5, numS, if_neg c_4, if_pos c_26, if_pos c_43, if_neg c_54, if_neg c_68, if_neg c_85]
              subst hQ
              exact wq_rz hx hb hr hlocks hP hS dX2_takeWalker_93 (by subst_vars; first | (left; rfl) | (right; rfl) | (split <;> simp)) (by rw [hE] <;> rfl) (by rw [hE])
          · skip
            rw [show twF (bu tb) T 8 (tnF (bu tb) T (advT (bu tb) T (advT (bu tb) T Y.2)) (nI 12)) = advT (bu tb) T (tnF (bu tb) T (advT (bu tb) T (advT (bu tb) T Y.2)) (nI 12)) from if_pos c_68] at hP
            refine lv_aload_n hx hb dX2_takeWalker_71 rfl (lv_at hl 0 rfl) ?_
            refine lv_aload_n hx hb dX2_takeWalker_72 rfl (lv_at hl 1 rfl) ?_
            refine lv_bipush (v := nI 9) hx hb dX2_takeWalker_73 (by decide) ?_
            refine wq_V S cK_ok hK hP hS (c_X2_takeNumber (X := advT (bu tb) T (tnF (bu tb) T (advT (bu tb) T (advT (bu tb) T Y.2)) (nI 12))) (advT_ok (tnF_ok (advT_ok (advT_ok hX)))).2 hT2) gX2_takeWalker_X2_takeNumber i_X2_takeNumber rfl (c_rec hK hP 31 (by decide) cE_tp rfl) ⟨Nat.le_of_ble_eq_true rfl, Nat.le_of_ble_eq_true rfl⟩ rfl hl.1 (As := [.int (nI 9)]) (rest := [.ref (ad (3 + 10 * 1 + N))]) (st1 := [.int (if tnC (bu tb) T (advT (bu tb) T (tnF (bu tb) T (advT (bu tb) T (advT (bu tb) T Y.2)) (nI 12))) (nI 9) = true then (advT (bu tb) T (tnF (bu tb) T (advT (bu tb) T (advT (bu tb) T Y.2)) (nI 12))).2.2 else -1), .ref (ad (3 + 10 * 1 + N))]) rfl rfl (Nat.le_of_ble_eq_true rfl) ⟨Nat.le_of_ble_eq_true rfl, Nat.le_of_ble_eq_true rfl⟩ dX2_takeWalker_75 (fun H locs hP hS => ?_)
            refine c_put (w' := (cw cy ad (rr p0 (upd (upd (addF Y.1 N (kd) (nI 0)) (5 + 8 * N + 1) (if tnC (bu tb) T (advT (bu tb) T (advT (bu tb) T Y.2)) (nI 12) = true then (advT (bu tb) T (advT (bu tb) T Y.2)).2.2 else -1)) (5 + 8 * N + 3) (if tnC (bu tb) T (advT (bu tb) T (tnF (bu tb) T (advT (bu tb) T (advT (bu tb) T Y.2)) (nI 12))) (nI 9) = true then (advT (bu tb) T (tnF (bu tb) T (advT (bu tb) T (advT (bu tb) T Y.2)) (nI 12))).2.2 else -1)) p2) ke tb (nI T) (sortF (bu tb) T (tnF (bu tb) T (advT (bu tb) T (tnF (bu tb) T (advT (bu tb) T (advT (bu tb) T Y.2)) (nI 12))) (nI 9)).1) (nI ((tnF (bu tb) T (advT (bu tb) T (tnF (bu tb) T (advT (bu tb) T (advT (bu tb) T Y.2)) (nI 12))) (nI 9)).1)) (nI ((tnF (bu tb) T (advT (bu tb) T (tnF (bu tb) T (advT (bu tb) T (advT (bu tb) T Y.2)) (nI 12))) (nI 9)).2.1)) ((tnF (bu tb) T (advT (bu tb) T (tnF (bu tb) T (advT (bu tb) T (advT (bu tb) T Y.2)) (nI 12))) (nI 9)).2.2) sb ss sw fd)) (ty := .int) (C := RX3) (T := TX3) (N := 8) hx hb hts hin3 tyX3 tyX3_ok nmX3 hown hK hP hS (3 + 10 * 1 + N) (by omega) (cE_wk (by decide) (by omega)) rfl 3 (by decide) (Or.inr (c_nest hK 7 rfl)) rfl (by decide +kernel) rfl rfl (by show _ < 8; decide) ((cs_W (by decide) (by omega) (by decide)).trans (by rw [rr_up1]; rfl)) dX2_takeWalker_78 (fun H locs hP hS => ?_)
            refine lv_aload_n hx hb dX2_takeWalker_81 rfl (lv_at hl 0 rfl) ?_
            refine c_get (v := .int ((upd (upd (addF Y.1 N (kd) (nI 0)) (5 + 8 * N + 1) (if tnC (bu tb) T (advT (bu tb) T (advT (bu tb) T Y.2)) (nI 12) = true then (advT (bu tb) T (advT (bu tb) T Y.2)).2.2 else -1)) (5 + 8 * N + 3) (if tnC (bu tb) T (advT (bu tb) T (tnF (bu tb) T (advT (bu tb) T (advT (bu tb) T Y.2)) (nI 12))) (nI 9) = true then (advT (bu tb) T (tnF (bu tb) T (advT (bu tb) T (advT (bu tb) T Y.2)) (nI 12))).2.2 else -1)) (5 + 8 * N + 3))) (C := RX3) (T := TX3) (N := 8) hx hb hts hin3 hown hK hP (3 + 10 * 1 + N) (by omega) (cE_wk (by decide) (by omega)) rfl 3 (by decide) (Or.inr (c_nest hK 7 rfl)) rfl dX2_takeWalker_82 ?_
            refine lv_if_lt (tgt := 92) hx hb dX2_takeWalker_85 (by decide) (fun c_85 => ?_) (fun c_85 => ?_)
            · skip
              refine lv_iconst (v := nI 0) hx hb dX2_takeWalker_92 (by decide) ?_
              have hE : walkS (bu tb) T N kd Y = ((upd (upd (addF Y.1 N (kd) (nI 0)) (5 + 8 * N + 1) (if tnC (bu tb) T (advT (bu tb) T (advT (bu tb) T Y.2)) (nI 12) = true then (advT (bu tb) T (advT (bu tb) T Y.2)).2.2 else -1)) (5 + 8 * N + 3) (if tnC (bu tb) T (advT (bu tb) T (tnF (bu tb) T (advT (bu tb) T (advT (bu tb) T Y.2)) (nI 12))) (nI 9) = true then (advT (bu tb) T (tnF (bu tb) T (advT (bu tb) T (advT (bu tb) T Y.2)) (nI 12))).2.2 else -1), tnF (bu tb) T (advT (bu tb) T (tnF (bu tb) T (advT (bu tb) T (advT (bu tb) T Y.2)) (nI 12))) (nI 9)), false) := by simp only [walkS, wk1, wk2, wk3, wk4, wk5, numS, if_neg c_4, if_pos c_26, if_pos c_43, if_neg c_54, if_pos c_68, if_pos c_85]
              subst hQ
              exact wq_rz hx hb hr hlocks hP hS dX2_takeWalker_93 (by subst_vars; first | (left; rfl) | (right; rfl) | (split <;> simp)) (by rw [hE] <;> rfl) (by rw [hE])
            · skip
              refine lv_iconst (v := nI 1) hx hb dX2_takeWalker_88 (by decide) ?_
              refine lv_goto (tgt := 93) hx hb dX2_takeWalker_89 (by decide) ?_
              have hE : walkS (bu tb) T N kd Y = ((upd (upd (addF Y.1 N (kd) (nI 0)) (5 + 8 * N + 1) (if tnC (bu tb) T (advT (bu tb) T (advT (bu tb) T Y.2)) (nI 12) = true then (advT (bu tb) T (advT (bu tb) T Y.2)).2.2 else -1)) (5 + 8 * N + 3) (if tnC (bu tb) T (advT (bu tb) T (tnF (bu tb) T (advT (bu tb) T (advT (bu tb) T Y.2)) (nI 12))) (nI 9) = true then (advT (bu tb) T (tnF (bu tb) T (advT (bu tb) T (advT (bu tb) T Y.2)) (nI 12))).2.2 else -1), tnF (bu tb) T (advT (bu tb) T (tnF (bu tb) T (advT (bu tb) T (advT (bu tb) T Y.2)) (nI 12))) (nI 9)), true) := by simp only [walkS, wk1, wk2, wk3, wk4, wk5, numS, if_neg c_4, if_pos c_26, if_pos c_43, if_neg c_54, if_pos c_68, if_neg c_85]
              subst hQ
              exact wq_rz hx hb hr hlocks hP hS dX2_takeWalker_93 (by subst_vars; first | (left; rfl) | (right; rfl) | (split <;> simp)) (by rw [hE] <;> rfl) (by rw [hE])
        · skip
          rw [show twF (bu tb) T 7 (tnF (bu tb) T (advT (bu tb) T (advT (bu tb) T Y.2)) (nI 12)) = advT (bu tb) T (tnF (bu tb) T (advT (bu tb) T (advT (bu tb) T Y.2)) (nI 12)) from if_pos c_54] at hP
          refine lv_aload_n hx hb dX2_takeWalker_57 rfl (lv_at hl 0 rfl) ?_
          refine lv_iconst (v := nI 0) hx hb dX2_takeWalker_58 (by decide) ?_
          refine c_put (w' := (cw cy ad (rr p0 (upd (upd (addF Y.1 N (kd) (nI 0)) (5 + 8 * N + 1) (if tnC (bu tb) T (advT (bu tb) T (advT (bu tb) T Y.2)) (nI 12) = true then (advT (bu tb) T (advT (bu tb) T Y.2)).2.2 else -1)) (5 + 8 * N + 2) (nI 0)) p2) ke tb (nI T) (sortF (bu tb) T (advT (bu tb) T (tnF (bu tb) T (advT (bu tb) T (advT (bu tb) T Y.2)) (nI 12))).1) (nI ((advT (bu tb) T (tnF (bu tb) T (advT (bu tb) T (advT (bu tb) T Y.2)) (nI 12))).1)) (nI ((advT (bu tb) T (tnF (bu tb) T (advT (bu tb) T (advT (bu tb) T Y.2)) (nI 12))).2.1)) ((advT (bu tb) T (tnF (bu tb) T (advT (bu tb) T (advT (bu tb) T Y.2)) (nI 12))).2.2) sb ss sw fd)) (ty := .int) (C := RX3) (T := TX3) (N := 8) hx hb hts hin3 tyX3 tyX3_ok nmX3 hown hK hP hS (3 + 10 * 1 + N) (by omega) (cE_wk (by decide) (by omega)) rfl 2 (by decide) (Or.inr (c_nest hK 5 rfl)) rfl (by decide +kernel) rfl rfl (by show _ < 8; decide) ((cs_W (by decide) (by omega) (by decide)).trans (by rw [rr_up1]; rfl)) dX2_takeWalker_59 (fun H locs hP hS => ?_)
          refine lv_aload_n hx hb dX2_takeWalker_62 rfl (lv_at hl 1 rfl) ?_
          refine va_ldcS hx hb hown (show vk_R RX2 90 "reason" (kS 8) s0 from hT.2.2.2 8 (by decide)) dX2_takeWalker_63 ?_
          refine tq_V S hK hT hP hS (c_X2_takeWord (i := 8) (X := advT (bu tb) T (tnF (bu tb) T (advT (bu tb) T (advT (bu tb) T Y.2)) (nI 12))) (by omega) (advT_ok (tnF_ok (advT_ok (advT_ok hX)))) hT2) gX2_takeWalker_X2_takeWord i_X2_takeWord rfl (c_rec hK hP 31 (by decide) cE_tp rfl) ⟨Nat.le_of_ble_eq_true rfl, Nat.le_of_ble_eq_true rfl⟩ rfl hl.1 (As := [.ref (kS 8)]) (rest := []) (st1 := [.int (z (isW (bu tb) T (advT (bu tb) T (tnF (bu tb) T (advT (bu tb) T (advT (bu tb) T Y.2)) (nI 12))) 8 = true))]) rfl rfl (Nat.le_of_ble_eq_true rfl) ⟨Nat.le_of_ble_eq_true rfl, Nat.le_of_ble_eq_true rfl⟩ dX2_takeWalker_65 (fun H locs hP hS => ?_)
          refine lvz_if_eq (tgt := 81) hx hb dX2_takeWalker_68 (by decide) (fun c_68 => ?_) (fun c_68 => ?_)
          · skip
            rw [show twF (bu tb) T 8 (advT (bu tb) T (tnF (bu tb) T (advT (bu tb) T (advT (bu tb) T Y.2)) (nI 12))) = advT (bu tb) T (tnF (bu tb) T (advT (bu tb) T (advT (bu tb) T Y.2)) (nI 12)) from if_neg c_68] at hP
            refine lv_aload_n hx hb dX2_takeWalker_81 rfl (lv_at hl 0 rfl) ?_
            refine c_get (v := .int ((upd (upd (addF Y.1 N (kd) (nI 0)) (5 + 8 * N + 1) (if tnC (bu tb) T (advT (bu tb) T (advT (bu tb) T Y.2)) (nI 12) = true then (advT (bu tb) T (advT (bu tb) T Y.2)).2.2 else -1)) (5 + 8 * N + 2) (nI 0)) (5 + 8 * N + 3))) (C := RX3) (T := TX3) (N := 8) hx hb hts hin3 hown hK hP (3 + 10 * 1 + N) (by omega) (cE_wk (by decide) (by omega)) rfl 3 (by decide) (Or.inr (c_nest hK 7 rfl)) rfl dX2_takeWalker_82 ?_
            refine lv_if_lt (tgt := 92) hx hb dX2_takeWalker_85 (by decide) (fun c_85 => ?_) (fun c_85 => ?_)
            · skip
              refine lv_iconst (v := nI 0) hx hb dX2_takeWalker_92 (by decide) ?_
              have hE : walkS (bu tb) T N kd Y = ((upd (upd (addF Y.1 N (kd) (nI 0)) (5 + 8 * N + 1) (if tnC (bu tb) T (advT (bu tb) T (advT (bu tb) T Y.2)) (nI 12) = true then (advT (bu tb) T (advT (bu tb) T Y.2)).2.2 else -1)) (5 + 8 * N + 2) (nI 0), advT (bu tb) T (tnF (bu tb) T (advT (bu tb) T (advT (bu tb) T Y.2)) (nI 12))), false) := by simp only [walkS, wk1, wk2, wk3, wk4, wk5, numS, if_neg c_4, if_pos c_26, if_pos c_43, if_pos c_54, if_neg c_68, if_pos c_85]
              subst hQ
              exact wq_rz hx hb hr hlocks hP hS dX2_takeWalker_93 (by subst_vars; first | (left; rfl) | (right; rfl) | (split <;> simp)) (by rw [hE] <;> rfl) (by rw [hE])
            · skip
              refine lv_iconst (v := nI 1) hx hb dX2_takeWalker_88 (by decide) ?_
              refine lv_goto (tgt := 93) hx hb dX2_takeWalker_89 (by decide) ?_
              have hE : walkS (bu tb) T N kd Y = ((upd (upd (addF Y.1 N (kd) (nI 0)) (5 + 8 * N + 1) (if tnC (bu tb) T (advT (bu tb) T (advT (bu tb) T Y.2)) (nI 12) = true then (advT (bu tb) T (advT (bu tb) T Y.2)).2.2 else -1)) (5 + 8 * N + 2) (nI 0), advT (bu tb) T (tnF (bu tb) T (advT (bu tb) T (advT (bu tb) T Y.2)) (nI 12))), true) := by simp only [walkS, wk1, wk2, wk3, wk4, wk5, numS, if_neg c_4, if_pos c_26, if_pos c_43, if_pos c_54, if_neg c_68, if_neg c_85]
              subst hQ
              exact wq_rz hx hb hr hlocks hP hS dX2_takeWalker_93 (by subst_vars; first | (left; rfl) | (right; rfl) | (split <;> simp)) (by rw [hE] <;> rfl) (by rw [hE])
          · skip
            rw [show twF (bu tb) T 8 (advT (bu tb) T (tnF (bu tb) T (advT (bu tb) T (advT (bu tb) T Y.2)) (nI 12))) = advT (bu tb) T (advT (bu tb) T (tnF (bu tb) T (advT (bu tb) T (advT (bu tb) T Y.2)) (nI 12))) from if_pos c_68] at hP
            refine lv_aload_n hx hb dX2_takeWalker_71 rfl (lv_at hl 0 rfl) ?_
            refine lv_aload_n hx hb dX2_takeWalker_72 rfl (lv_at hl 1 rfl) ?_
            refine lv_bipush (v := nI 9) hx hb dX2_takeWalker_73 (by decide) ?_
            refine wq_V S cK_ok hK hP hS (c_X2_takeNumber (X := advT (bu tb) T (advT (bu tb) T (tnF (bu tb) T (advT (bu tb) T (advT (bu tb) T Y.2)) (nI 12)))) (advT_ok (advT_ok (tnF_ok (advT_ok (advT_ok hX))))).2 hT2) gX2_takeWalker_X2_takeNumber i_X2_takeNumber rfl (c_rec hK hP 31 (by decide) cE_tp rfl) ⟨Nat.le_of_ble_eq_true rfl, Nat.le_of_ble_eq_true rfl⟩ rfl hl.1 (As := [.int (nI 9)]) (rest := [.ref (ad (3 + 10 * 1 + N))]) (st1 := [.int (if tnC (bu tb) T (advT (bu tb) T (advT (bu tb) T (tnF (bu tb) T (advT (bu tb) T (advT (bu tb) T Y.2)) (nI 12)))) (nI 9) = true then (advT (bu tb) T (advT (bu tb) T (tnF (bu tb) T (advT (bu tb) T (advT (bu tb) T Y.2)) (nI 12)))).2.2 else -1), .ref (ad (3 + 10 * 1 + N))]) rfl rfl (Nat.le_of_ble_eq_true rfl) ⟨Nat.le_of_ble_eq_true rfl, Nat.le_of_ble_eq_true rfl⟩ dX2_takeWalker_75 (fun H locs hP hS => ?_)
            refine c_put (w' := (cw cy ad (rr p0 (upd (upd (upd (addF Y.1 N (kd) (nI 0)) (5 + 8 * N + 1) (if tnC (bu tb) T (advT (bu tb) T (advT (bu tb) T Y.2)) (nI 12) = true then (advT (bu tb) T (advT (bu tb) T Y.2)).2.2 else -1)) (5 + 8 * N + 2) (nI 0)) (5 + 8 * N + 3) (if tnC (bu tb) T (advT (bu tb) T (advT (bu tb) T (tnF (bu tb) T (advT (bu tb) T (advT (bu tb) T Y.2)) (nI 12)))) (nI 9) = true then (advT (bu tb) T (advT (bu tb) T (tnF (bu tb) T (advT (bu tb) T (advT (bu tb) T Y.2)) (nI 12)))).2.2 else -1)) p2) ke tb (nI T) (sortF (bu tb) T (tnF (bu tb) T (advT (bu tb) T (advT (bu tb) T (tnF (bu tb) T (advT (bu tb) T (advT (bu tb) T Y.2)) (nI 12)))) (nI 9)).1) (nI ((tnF (bu tb) T (advT (bu tb) T (advT (bu tb) T (tnF (bu tb) T (advT (bu tb) T (advT (bu tb) T Y.2)) (nI 12)))) (nI 9)).1)) (nI ((tnF (bu tb) T (advT (bu tb) T (advT (bu tb) T (tnF (bu tb) T (advT (bu tb) T (advT (bu tb) T Y.2)) (nI 12)))) (nI 9)).2.1)) ((tnF (bu tb) T (advT (bu tb) T (advT (bu tb) T (tnF (bu tb) T (advT (bu tb) T (advT (bu tb) T Y.2)) (nI 12)))) (nI 9)).2.2) sb ss sw fd)) (ty := .int) (C := RX3) (T := TX3) (N := 8) hx hb hts hin3 tyX3 tyX3_ok nmX3 hown hK hP hS (3 + 10 * 1 + N) (by omega) (cE_wk (by decide) (by omega)) rfl 3 (by decide) (Or.inr (c_nest hK 7 rfl)) rfl (by decide +kernel) rfl rfl (by show _ < 8; decide) ((cs_W (by decide) (by omega) (by decide)).trans (by rw [rr_up1]; rfl)) dX2_takeWalker_78 (fun H locs hP hS => ?_)
            refine lv_aload_n hx hb dX2_takeWalker_81 rfl (lv_at hl 0 rfl) ?_
            refine c_get (v := .int ((upd (upd (upd (addF Y.1 N (kd) (nI 0)) (5 + 8 * N + 1) (if tnC (bu tb) T (advT (bu tb) T (advT (bu tb) T Y.2)) (nI 12) = true then (advT (bu tb) T (advT (bu tb) T Y.2)).2.2 else -1)) (5 + 8 * N + 2) (nI 0)) (5 + 8 * N + 3) (if tnC (bu tb) T (advT (bu tb) T (advT (bu tb) T (tnF (bu tb) T (advT (bu tb) T (advT (bu tb) T Y.2)) (nI 12)))) (nI 9) = true then (advT (bu tb) T (advT (bu tb) T (tnF (bu tb) T (advT (bu tb) T (advT (bu tb) T Y.2)) (nI 12)))).2.2 else -1)) (5 + 8 * N + 3))) (C := RX3) (T := TX3) (N := 8) hx hb hts hin3 hown hK hP (3 + 10 * 1 + N) (by omega) (cE_wk (by decide) (by omega)) rfl 3 (by decide) (Or.inr (c_nest hK 7 rfl)) rfl dX2_takeWalker_82 ?_
            refine lv_if_lt (tgt := 92) hx hb dX2_takeWalker_85 (by decide) (fun c_85 => ?_) (fun c_85 => ?_)
            · skip
              refine lv_iconst (v := nI 0) hx hb dX2_takeWalker_92 (by decide) ?_
              have hE : walkS (bu tb) T N kd Y = ((upd (upd (upd (addF Y.1 N (kd) (nI 0)) (5 + 8 * N + 1) (if tnC (bu tb) T (advT (bu tb) T (advT (bu tb) T Y.2)) (nI 12) = true then (advT (bu tb) T (advT (bu tb) T Y.2)).2.2 else -1)) (5 + 8 * N + 2) (nI 0)) (5 + 8 * N + 3) (if tnC (bu tb) T (advT (bu tb) T (advT (bu tb) T (tnF (bu tb) T (advT (bu tb) T (advT (bu tb) T Y.2)) (nI 12)))) (nI 9) = true then (advT (bu tb) T (advT (bu tb) T (tnF (bu tb) T (advT (bu tb) T (advT (bu tb) T Y.2)) (nI 12)))).2.2 else -1), tnF (bu tb) T (advT (bu tb) T (advT (bu tb) T (tnF (bu tb) T (advT (bu tb) T (advT (bu tb) T Y.2)) (nI 12)))) (nI 9)), false) := by simp only [walkS, wk1, wk2, wk3, wk4, wk5, numS, if_neg c_4, if_pos c_26, if_pos c_43, if_pos c_54, if_pos c_68, if_pos c_85]
              subst hQ
              exact wq_rz hx hb hr hlocks hP hS dX2_takeWalker_93 (by subst_vars; first | (left; rfl) | (right; rfl) | (split <;> simp)) (by rw [hE] <;> rfl) (by rw [hE])
            · skip
              refine lv_iconst (v := nI 1) hx hb dX2_takeWalker_88 (by decide) ?_
              refine lv_goto (tgt := 93) hx hb dX2_takeWalker_89 (by decide) ?_
              have hE : walkS (bu tb) T N kd Y = ((upd (upd (upd (addF Y.1 N (kd) (nI 0)) (5 + 8 * N + 1) (if tnC (bu tb) T (advT (bu tb) T (advT (bu tb) T Y.2)) (nI 12) = true then (advT (bu tb) T (advT (bu tb) T Y.2)).2.2 else -1)) (5 + 8 * N + 2) (nI 0)) (5 + 8 * N + 3) (if tnC (bu tb) T (advT (bu tb) T (advT (bu tb) T (tnF (bu tb) T (advT (bu tb) T (advT (bu tb) T Y.2)) (nI 12)))) (nI 9) = true then (advT (bu tb) T (advT (bu tb) T (tnF (bu tb) T (advT (bu tb) T (advT (bu tb) T Y.2)) (nI 12)))).2.2 else -1), tnF (bu tb) T (advT (bu tb) T (advT (bu tb) T (tnF (bu tb) T (advT (bu tb) T (advT (bu tb) T Y.2)) (nI 12)))) (nI 9)), true) := by simp only [walkS, wk1, wk2, wk3, wk4, wk5, numS, if_neg c_4, if_pos c_26, if_pos c_43, if_pos c_54, if_pos c_68, if_neg c_85]
              subst hQ
              exact wq_rz hx hb hr hlocks hP hS dX2_takeWalker_93 (by subst_vars; first | (left; rfl) | (right; rfl) | (split <;> simp)) (by rw [hE] <;> rfl) (by rw [hE])
      · skip
        refine lv_iconst (v := nI 0) hx hb dX2_takeWalker_46 (by decide) ?_
        have hE : walkS (bu tb) T N kd Y = ((upd (addF Y.1 N (kd) (nI 0)) (5 + 8 * N + 1) (if tnC (bu tb) T (advT (bu tb) T (advT (bu tb) T Y.2)) (nI 12) = true then (advT (bu tb) T (advT (bu tb) T Y.2)).2.2 else -1), tnF (bu tb) T (advT (bu tb) T (advT (bu tb) T Y.2)) (nI 12)), false) := by simp only [walkS, wk1, wk2, numS, if_neg c_4, if_pos c_26, if_neg c_43]
        subst hQ
        exact wq_rz hx hb hr hlocks hP hS dX2_takeWalker_47 (by subst_vars; first | (left; rfl) | (right; rfl) | (split <;> simp)) (by rw [hE] <;> rfl) (by rw [hE])
  · skip
    refine lv_iconst (v := nI 0) hx hb dX2_takeWalker_7 (by decide) ?_
    have hE : walkS (bu tb) T N kd Y = ((Y.1, Y.2), false) := by simp only [walkS, if_pos c_4]
    subst hQ
    exact wq_rz hx hb hr hlocks hP hS dX2_takeWalker_8 (by subst_vars; first | (left; rfl) | (right; rfl) | (split <;> simp)) (by rw [hE] <;> rfl) (by rw [hE])
theorem i_X2_takeWalker : ciOk yX2_takeWalker cX2_takeWalker 4 (some .boolean) wsX2_takeWalker 2 := ⟨⟨_, rfl⟩, by decide +kernel⟩
set_option maxHeartbeats 1000000 in
set_option maxRecDepth 100000 in
theorem c_X2_takeItem {l : Launch} {D : va_G} {cy : Nat → ClassId} {ad : Nat → Nat} {kS vS : Nat → Nat} {p0 : Nat → Int32} {p2 : Nat → Int32} {ke : Int32} {tb : Nat → Int32} {sb : Nat → Int32} {ss : Nat → Int32} {sw : Nat → Nat → Int64} {fd : Nat → Int32} {T : Nat} {Y : CS} {N : Nat} (hX : okX T Y.2) (hT2 : T ≤ 120) (hN1 : Y.1 0 = nI N) (h8 : N ≤ 8) : Met l yX2_takeItem wsX2_takeItem (rmz 7 151) (tPre D cy ad kS vS (cw cy ad (rr p0 Y.1 p2) ke tb (nI T) (sortF (bu tb) T (Y.2).1) (nI ((Y.2).1)) (nI ((Y.2).2.1)) ((Y.2).2.2) sb ss sw fd) [.ref (ad 31), .ref (ad (1 + 10 * 1))]) (wPost D (cw cy ad (rr p0 ((itemS (bu tb) T N Y).1.1) p2) ke tb (nI T) (sortF (bu tb) T ((itemS (bu tb) T N Y).1.2).1) (nI (((itemS (bu tb) T N Y).1.2).1)) (nI (((itemS (bu tb) T N Y).1.2).2.1)) (((itemS (bu tb) T N Y).1.2).2.2) sb ss sw fd) (some (.int (z ((itemS (bu tb) T N Y).2 = true)))) (cA ad)) 0 0 (cA ad) := by
  refine tq_entry rfl rfl (Nat.le_of_ble_eq_true rfl) ?_
  intro p e s0 m args below meth c S hr hlocks hK hT hP ls hl
  have S : CallFix p m c cX2_takeItem 3 s0 args wsX2_takeItem RX2 := S
  obtain ⟨hx, hb, hml, hown, hts⟩ := id S
  have hin0 : ∀ w ∈ wsX00, w ∈ wsX2_takeItem := fun w h => List.mem_cons_of_mem _ (List.mem_append_left _ (List.mem_append_left _ (List.mem_append_right _ h)))
  have hin2 : ∀ w ∈ wsX20, w ∈ wsX2_takeItem := fun w h => List.mem_cons_of_mem _ (List.mem_append_left _ (List.mem_append_right _ h))
  have hin3 : ∀ w ∈ wsX30, w ∈ wsX2_takeItem := fun w h => List.mem_cons_of_mem _ (List.mem_append_right _ h)
  have hS : va_S (cA ad) s0.heap s0.heap [] := va_S.rf
  have hl : lv_has ls 3 [(0, .ref (ad 31)), (1, .ref (ad (1 + 10 * 1)))] := hl
  generalize hQ : MQ below (wPost D (cw cy ad (rr p0 ((itemS (bu tb) T N Y).1.1) p2) ke tb (nI T) (sortF (bu tb) T ((itemS (bu tb) T N Y).1.2).1) (nI (((itemS (bu tb) T N Y).1.2).1)) (nI (((itemS (bu tb) T N Y).1.2).2.1)) (((itemS (bu tb) T N Y).1.2).2.2) sb ss sw fd) (some (.int (z ((itemS (bu tb) T N Y).2 = true)))) (cA ad)) args s0 0 0 (cA ad) = Q
  refine lv_aload_n hx hb dX2_takeItem_0 rfl (lv_at hl 0 rfl) ?_
  refine tq_V S hK hT hP hS (c_X2_kindNamed (X := Y.2) hX hT2) gX2_takeItem_X2_kindNamed i_X2_kindNamed rfl (c_rec hK hP 31 (by decide) cE_tp rfl) ⟨Nat.le_of_ble_eq_true rfl, Nat.le_of_ble_eq_true rfl⟩ rfl hl.1 (As := []) (rest := []) (st1 := [.int (kdL (bu tb) T Y.2 6 0)]) rfl rfl (Nat.le_of_ble_eq_true rfl) ⟨Nat.le_of_ble_eq_true rfl, Nat.le_of_ble_eq_true rfl⟩ dX2_takeItem_1 (fun H locs hP hS => ?_)
  refine lv_istore_n (lv' := [(2, .int (kdL (bu tb) T Y.2 6 0)), (0, .ref (ad 31)), (1, .ref (ad (1 + 10 * 1)))]) hx hb dX2_takeItem_4 rfl hl (by decide) rfl (fun ls hl => ?_)
  refine lv_iload_n hx hb dX2_takeItem_5 rfl (lv_at hl 0 rfl) ?_
  refine lv_if_lt (tgt := 16) hx hb dX2_takeItem_6 (by decide) (fun c_6 => ?_) (fun c_6 => ?_)
  · skip
    refine lv_aload_n hx hb dX2_takeItem_16 rfl (lv_at hl 1 rfl) ?_
    refine va_ldcS hx hb hown (show vk_R RX2 46 "fund" (kS 9) s0 from hT.2.2.2 9 (by decide)) dX2_takeItem_17 ?_
    refine tq_V S hK hT hP hS (c_X2_takeWord (i := 9) (X := Y.2) (by omega) hX hT2) gX2_takeItem_X2_takeWord i_X2_takeWord rfl (c_rec hK hP 31 (by decide) cE_tp rfl) ⟨Nat.le_of_ble_eq_true rfl, Nat.le_of_ble_eq_true rfl⟩ rfl hl.1 (As := [.ref (kS 9)]) (rest := []) (st1 := [.int (z (isW (bu tb) T Y.2 9 = true))]) rfl rfl (Nat.le_of_ble_eq_true rfl) ⟨Nat.le_of_ble_eq_true rfl, Nat.le_of_ble_eq_true rfl⟩ dX2_takeItem_19 (fun H locs hP hS => ?_)
    refine lvz_if_eq (tgt := 49) hx hb dX2_takeItem_22 (by decide) (fun c_22 => ?_) (fun c_22 => ?_)
    · skip
      rw [show twF (bu tb) T 9 Y.2 = Y.2 from if_neg c_22] at hP
      refine lv_aload_n hx hb dX2_takeItem_49 rfl (lv_at hl 1 rfl) ?_
      refine va_ldcS hx hb hown (show vk_R RX2 60 "penny" (kS 10) s0 from hT.2.2.2 10 (by decide)) dX2_takeItem_50 ?_
      refine tq_V S hK hT hP hS (c_X2_takeWord (i := 10) (X := Y.2) (by omega) hX hT2) gX2_takeItem_X2_takeWord i_X2_takeWord rfl (c_rec hK hP 31 (by decide) cE_tp rfl) ⟨Nat.le_of_ble_eq_true rfl, Nat.le_of_ble_eq_true rfl⟩ rfl hl.1 (As := [.ref (kS 10)]) (rest := []) (st1 := [.int (z (isW (bu tb) T Y.2 10 = true))]) rfl rfl (Nat.le_of_ble_eq_true rfl) ⟨Nat.le_of_ble_eq_true rfl, Nat.le_of_ble_eq_true rfl⟩ dX2_takeItem_52 (fun H locs hP hS => ?_)
      refine lvz_if_eq (tgt := 81) hx hb dX2_takeItem_55 (by decide) (fun c_55 => ?_) (fun c_55 => ?_)
      · skip
        rw [show twF (bu tb) T 10 Y.2 = Y.2 from if_neg c_55] at hP
        refine lv_aload_n hx hb dX2_takeItem_81 rfl (lv_at hl 1 rfl) ?_
        refine va_ldcS hx hb hown (show vk_R RX2 64 "rain" (kS 11) s0 from hT.2.2.2 11 (by decide)) dX2_takeItem_82 ?_
        refine tq_V S hK hT hP hS (c_X2_takeWord (i := 11) (X := Y.2) (by omega) hX hT2) gX2_takeItem_X2_takeWord i_X2_takeWord rfl (c_rec hK hP 31 (by decide) cE_tp rfl) ⟨Nat.le_of_ble_eq_true rfl, Nat.le_of_ble_eq_true rfl⟩ rfl hl.1 (As := [.ref (kS 11)]) (rest := []) (st1 := [.int (z (isW (bu tb) T Y.2 11 = true))]) rfl rfl (Nat.le_of_ble_eq_true rfl) ⟨Nat.le_of_ble_eq_true rfl, Nat.le_of_ble_eq_true rfl⟩ dX2_takeItem_84 (fun H locs hP hS => ?_)
        refine lvz_if_eq (tgt := 97) hx hb dX2_takeItem_87 (by decide) (fun c_87 => ?_) (fun c_87 => ?_)
        · skip
          rw [show twF (bu tb) T 11 Y.2 = Y.2 from if_neg c_87] at hP
          refine lv_aload_n hx hb dX2_takeItem_97 rfl (lv_at hl 1 rfl) ?_
          refine va_ldcS hx hb hown (show vk_R RX2 68 "dry" (kS 12) s0 from hT.2.2.2 12 (by decide)) dX2_takeItem_98 ?_
          refine tq_V S hK hT hP hS (c_X2_takeWord (i := 12) (X := Y.2) (by omega) hX hT2) gX2_takeItem_X2_takeWord i_X2_takeWord rfl (c_rec hK hP 31 (by decide) cE_tp rfl) ⟨Nat.le_of_ble_eq_true rfl, Nat.le_of_ble_eq_true rfl⟩ rfl hl.1 (As := [.ref (kS 12)]) (rest := []) (st1 := [.int (z (isW (bu tb) T Y.2 12 = true))]) rfl rfl (Nat.le_of_ble_eq_true rfl) ⟨Nat.le_of_ble_eq_true rfl, Nat.le_of_ble_eq_true rfl⟩ dX2_takeItem_100 (fun H locs hP hS => ?_)
          refine lvz_if_eq (tgt := 113) hx hb dX2_takeItem_103 (by decide) (fun c_103 => ?_) (fun c_103 => ?_)
          · skip
            rw [show twF (bu tb) T 12 Y.2 = Y.2 from if_neg c_103] at hP
            refine lv_iconst (v := nI 0) hx hb dX2_takeItem_113 (by decide) ?_
            have hE : itemS (bu tb) T N Y = ((Y.1, Y.2), false) := by simp only [itemS, it1, it2, it3, it4, if_pos c_6, if_neg c_22, if_neg c_55, if_neg c_87, if_neg c_103]
            subst hQ
            exact wq_rz hx hb hr hlocks hP hS dX2_takeItem_114 (by subst_vars; first | (left; rfl) | (right; rfl) | (split <;> simp)) (by rw [hE] <;> rfl) (by rw [hE])
          · skip
            rw [show twF (bu tb) T 12 Y.2 = advT (bu tb) T Y.2 from if_pos c_103] at hP
            refine lv_aload_n hx hb dX2_takeItem_106 rfl (lv_at hl 2 rfl) ?_
            refine lv_iconst (v := nI 0) hx hb dX2_takeItem_107 (by decide) ?_
            refine c_put (w' := (cw cy ad (rr p0 (upd Y.1 4 (nI 0)) p2) ke tb (nI T) (sortF (bu tb) T (advT (bu tb) T Y.2).1) (nI ((advT (bu tb) T Y.2).1)) (nI ((advT (bu tb) T Y.2).2.1)) ((advT (bu tb) T Y.2).2.2) sb ss sw fd)) (ty := .int) (C := RX0) (T := TX0) (N := 6) hx hb hts hin0 tyX0 tyX0_ok nmX0 hown hK hP hS (1 + 10 * 1) (by decide) (cE_rd (by decide)) rfl 3 (by decide) (Or.inr (c_nest hK 24 rfl)) rfl (by decide +kernel) rfl rfl (by show _ < 6; decide) ((cs_R (by decide) (by decide)).trans (by rw [rr_up1]; rfl)) dX2_takeItem_108 (fun H locs hP hS => ?_)
            refine lv_iconst (v := nI 1) hx hb dX2_takeItem_111 (by decide) ?_
            have hE : itemS (bu tb) T N Y = ((upd Y.1 4 (nI 0), advT (bu tb) T Y.2), true) := by simp only [itemS, it1, it2, it3, it4, if_pos c_6, if_neg c_22, if_neg c_55, if_neg c_87, if_pos c_103]
            subst hQ
            exact wq_rz hx hb hr hlocks hP hS dX2_takeItem_112 (by subst_vars; first | (left; rfl) | (right; rfl) | (split <;> simp)) (by rw [hE] <;> rfl) (by rw [hE])
        · skip
          rw [show twF (bu tb) T 11 Y.2 = advT (bu tb) T Y.2 from if_pos c_87] at hP
          refine lv_aload_n hx hb dX2_takeItem_90 rfl (lv_at hl 2 rfl) ?_
          refine lv_iconst (v := nI 1) hx hb dX2_takeItem_91 (by decide) ?_
          refine c_put (w' := (cw cy ad (rr p0 (upd Y.1 4 (nI 1)) p2) ke tb (nI T) (sortF (bu tb) T (advT (bu tb) T Y.2).1) (nI ((advT (bu tb) T Y.2).1)) (nI ((advT (bu tb) T Y.2).2.1)) ((advT (bu tb) T Y.2).2.2) sb ss sw fd)) (ty := .int) (C := RX0) (T := TX0) (N := 6) hx hb hts hin0 tyX0 tyX0_ok nmX0 hown hK hP hS (1 + 10 * 1) (by decide) (cE_rd (by decide)) rfl 3 (by decide) (Or.inr (c_nest hK 24 rfl)) rfl (by decide +kernel) rfl rfl (by show _ < 6; decide) ((cs_R (by decide) (by decide)).trans (by rw [rr_up1]; rfl)) dX2_takeItem_92 (fun H locs hP hS => ?_)
          refine lv_iconst (v := nI 1) hx hb dX2_takeItem_95 (by decide) ?_
          have hE : itemS (bu tb) T N Y = ((upd Y.1 4 (nI 1), advT (bu tb) T Y.2), true) := by simp only [itemS, it1, it2, it3, if_pos c_6, if_neg c_22, if_neg c_55, if_pos c_87]
          subst hQ
          exact wq_rz hx hb hr hlocks hP hS dX2_takeItem_96 (by subst_vars; first | (left; rfl) | (right; rfl) | (split <;> simp)) (by rw [hE] <;> rfl) (by rw [hE])
      · skip
        rw [show twF (bu tb) T 10 Y.2 = advT (bu tb) T Y.2 from if_pos c_55] at hP
        refine lv_aload_n hx hb dX2_takeItem_58 rfl (lv_at hl 2 rfl) ?_
        refine lv_aload_n hx hb dX2_takeItem_59 rfl (lv_at hl 1 rfl) ?_
        refine lv_bipush (v := nI 20) hx hb dX2_takeItem_60 (by decide) ?_
        refine wq_V S cK_ok hK hP hS (c_X2_takeNumber (X := advT (bu tb) T Y.2) (advT_ok hX).2 hT2) gX2_takeItem_X2_takeNumber i_X2_takeNumber rfl (c_rec hK hP 31 (by decide) cE_tp rfl) ⟨Nat.le_of_ble_eq_true rfl, Nat.le_of_ble_eq_true rfl⟩ rfl hl.1 (As := [.int (nI 20)]) (rest := [.ref (ad (1 + 10 * 1))]) (st1 := [.int (if tnC (bu tb) T (advT (bu tb) T Y.2) (nI 20) = true then (advT (bu tb) T Y.2).2.2 else -1), .ref (ad (1 + 10 * 1))]) rfl rfl (Nat.le_of_ble_eq_true rfl) ⟨Nat.le_of_ble_eq_true rfl, Nat.le_of_ble_eq_true rfl⟩ dX2_takeItem_62 (fun H locs hP hS => ?_)
        refine c_put (w' := (cw cy ad (rr p0 (upd Y.1 3 (if tnC (bu tb) T (advT (bu tb) T Y.2) (nI 20) = true then (advT (bu tb) T Y.2).2.2 else -1)) p2) ke tb (nI T) (sortF (bu tb) T (tnF (bu tb) T (advT (bu tb) T Y.2) (nI 20)).1) (nI ((tnF (bu tb) T (advT (bu tb) T Y.2) (nI 20)).1)) (nI ((tnF (bu tb) T (advT (bu tb) T Y.2) (nI 20)).2.1)) ((tnF (bu tb) T (advT (bu tb) T Y.2) (nI 20)).2.2) sb ss sw fd)) (ty := .int) (C := RX0) (T := TX0) (N := 6) hx hb hts hin0 tyX0 tyX0_ok nmX0 hown hK hP hS (1 + 10 * 1) (by decide) (cE_rd (by decide)) rfl 2 (by decide) (Or.inr (c_nest hK 22 rfl)) rfl (by decide +kernel) rfl rfl (by show _ < 6; decide) ((cs_R (by decide) (by decide)).trans (by rw [rr_up1]; rfl)) dX2_takeItem_65 (fun H locs hP hS => ?_)
        refine lv_aload_n hx hb dX2_takeItem_68 rfl (lv_at hl 2 rfl) ?_
        refine c_get (v := .int ((upd Y.1 3 (if tnC (bu tb) T (advT (bu tb) T Y.2) (nI 20) = true then (advT (bu tb) T Y.2).2.2 else -1)) 3)) (C := RX0) (T := TX0) (N := 6) hx hb hts hin0 hown hK hP (1 + 10 * 1) (by decide) (cE_rd (by decide)) rfl 2 (by decide) (Or.inr (c_nest hK 22 rfl)) rfl dX2_takeItem_69 ?_
        refine lv_if_lt (tgt := 79) hx hb dX2_takeItem_72 (by decide) (fun c_72 => ?_) (fun c_72 => ?_)
        · skip
          refine lv_iconst (v := nI 0) hx hb dX2_takeItem_79 (by decide) ?_
          have hE : itemS (bu tb) T N Y = ((upd Y.1 3 (if tnC (bu tb) T (advT (bu tb) T Y.2) (nI 20) = true then (advT (bu tb) T Y.2).2.2 else -1), tnF (bu tb) T (advT (bu tb) T Y.2) (nI 20)), false) := by simp only [itemS, it1, it2, finS, numS, if_pos c_6, if_neg c_22, if_pos c_55, if_pos c_72]
          subst hQ
          exact wq_rz hx hb hr hlocks hP hS dX2_takeItem_80 (by subst_vars; first | (left; rfl) | (right; rfl) | (split <;> simp)) (by rw [hE] <;> rfl) (by rw [hE])
        · skip
          refine lv_iconst (v := nI 1) hx hb dX2_takeItem_75 (by decide) ?_
          refine lv_goto (tgt := 80) hx hb dX2_takeItem_76 (by decide) ?_
          have hE : itemS (bu tb) T N Y = ((upd Y.1 3 (if tnC (bu tb) T (advT (bu tb) T Y.2) (nI 20) = true then (advT (bu tb) T Y.2).2.2 else -1), tnF (bu tb) T (advT (bu tb) T Y.2) (nI 20)), true) := by simp only [itemS, it1, it2, finS, numS, if_pos c_6, if_neg c_22, if_pos c_55, if_neg c_72]
          subst hQ
          exact wq_rz hx hb hr hlocks hP hS dX2_takeItem_80 (by subst_vars; first | (left; rfl) | (right; rfl) | (split <;> simp)) (by rw [hE] <;> rfl) (by rw [hE])
    · skip
      rw [show twF (bu tb) T 9 Y.2 = advT (bu tb) T Y.2 from if_pos c_22] at hP
      refine lv_aload_n hx hb dX2_takeItem_25 rfl (lv_at hl 2 rfl) ?_
      refine lv_aload_n hx hb dX2_takeItem_26 rfl (lv_at hl 1 rfl) ?_
      refine lv_sipush (v := nI 9999) hx hb dX2_takeItem_27 (by decide) ?_
      refine wq_V S cK_ok hK hP hS (c_X2_takeNumber (X := advT (bu tb) T Y.2) (advT_ok hX).2 hT2) gX2_takeItem_X2_takeNumber i_X2_takeNumber rfl (c_rec hK hP 31 (by decide) cE_tp rfl) ⟨Nat.le_of_ble_eq_true rfl, Nat.le_of_ble_eq_true rfl⟩ rfl hl.1 (As := [.int (nI 9999)]) (rest := [.ref (ad (1 + 10 * 1))]) (st1 := [.int (if tnC (bu tb) T (advT (bu tb) T Y.2) (nI 9999) = true then (advT (bu tb) T Y.2).2.2 else -1), .ref (ad (1 + 10 * 1))]) rfl rfl (Nat.le_of_ble_eq_true rfl) ⟨Nat.le_of_ble_eq_true rfl, Nat.le_of_ble_eq_true rfl⟩ dX2_takeItem_30 (fun H locs hP hS => ?_)
      refine c_put (w' := (cw cy ad (rr p0 (upd Y.1 2 (if tnC (bu tb) T (advT (bu tb) T Y.2) (nI 9999) = true then (advT (bu tb) T Y.2).2.2 else -1)) p2) ke tb (nI T) (sortF (bu tb) T (tnF (bu tb) T (advT (bu tb) T Y.2) (nI 9999)).1) (nI ((tnF (bu tb) T (advT (bu tb) T Y.2) (nI 9999)).1)) (nI ((tnF (bu tb) T (advT (bu tb) T Y.2) (nI 9999)).2.1)) ((tnF (bu tb) T (advT (bu tb) T Y.2) (nI 9999)).2.2) sb ss sw fd)) (ty := .int) (C := RX0) (T := TX0) (N := 6) hx hb hts hin0 tyX0 tyX0_ok nmX0 hown hK hP hS (1 + 10 * 1) (by decide) (cE_rd (by decide)) rfl 1 (by decide) (Or.inr (c_nest hK 20 rfl)) rfl (by decide +kernel) rfl rfl (by show _ < 6; decide) ((cs_R (by decide) (by decide)).trans (by rw [rr_up1]; rfl)) dX2_takeItem_33 (fun H locs hP hS => ?_)
      refine lv_aload_n hx hb dX2_takeItem_36 rfl (lv_at hl 2 rfl) ?_
      refine c_get (v := .int ((upd Y.1 2 (if tnC (bu tb) T (advT (bu tb) T Y.2) (nI 9999) = true then (advT (bu tb) T Y.2).2.2 else -1)) 2)) (C := RX0) (T := TX0) (N := 6) hx hb hts hin0 hown hK hP (1 + 10 * 1) (by decide) (cE_rd (by decide)) rfl 1 (by decide) (Or.inr (c_nest hK 20 rfl)) rfl dX2_takeItem_37 ?_
      refine lv_if_lt (tgt := 47) hx hb dX2_takeItem_40 (by decide) (fun c_40 => ?_) (fun c_40 => ?_)
      · skip
        refine lv_iconst (v := nI 0) hx hb dX2_takeItem_47 (by decide) ?_
        have hE : itemS (bu tb) T N Y = ((upd Y.1 2 (if tnC (bu tb) T (advT (bu tb) T Y.2) (nI 9999) = true then (advT (bu tb) T Y.2).2.2 else -1), tnF (bu tb) T (advT (bu tb) T Y.2) (nI 9999)), false) := by simp only [itemS, it1, finS, numS, if_pos c_6, if_pos c_22, if_pos c_40]
        subst hQ
        exact wq_rz hx hb hr hlocks hP hS dX2_takeItem_48 (by subst_vars; first | (left; rfl) | (right; rfl) | (split <;> simp)) (by rw [hE] <;> rfl) (by rw [hE])
      · skip
        refine lv_iconst (v := nI 1) hx hb dX2_takeItem_43 (by decide) ?_
        refine lv_goto (tgt := 48) hx hb dX2_takeItem_44 (by decide) ?_
        have hE : itemS (bu tb) T N Y = ((upd Y.1 2 (if tnC (bu tb) T (advT (bu tb) T Y.2) (nI 9999) = true then (advT (bu tb) T Y.2).2.2 else -1), tnF (bu tb) T (advT (bu tb) T Y.2) (nI 9999)), true) := by simp only [itemS, it1, finS, numS, if_pos c_6, if_pos c_22, if_neg c_40]
        subst hQ
        exact wq_rz hx hb hr hlocks hP hS dX2_takeItem_48 (by subst_vars; first | (left; rfl) | (right; rfl) | (split <;> simp)) (by rw [hE] <;> rfl) (by rw [hE])
  · skip
    refine lv_aload_n hx hb dX2_takeItem_9 rfl (lv_at hl 1 rfl) ?_
    refine lv_aload_n hx hb dX2_takeItem_10 rfl (lv_at hl 2 rfl) ?_
    refine lv_iload_n hx hb dX2_takeItem_11 rfl (lv_at hl 0 rfl) ?_
    refine tq_V S hK hT hP hS (c_X2_takeWalker (Y := Y) hX hT2 hN1 h8) gX2_takeItem_X2_takeWalker i_X2_takeWalker rfl (c_rec hK hP 31 (by decide) cE_tp rfl) ⟨Nat.le_of_ble_eq_true rfl, Nat.le_of_ble_eq_true rfl⟩ rfl hl.1 (As := [.ref (ad (1 + 10 * 1)), .int (kdL (bu tb) T Y.2 6 0)]) (rest := []) (st1 := [.int (z ((walkS (bu tb) T N (kdL (bu tb) T Y.2 6 0) Y).2 = true))]) rfl rfl (Nat.le_of_ble_eq_true rfl) ⟨Nat.le_of_ble_eq_true rfl, Nat.le_of_ble_eq_true rfl⟩ dX2_takeItem_12 (fun H locs hP hS => ?_)
    have hE : itemS (bu tb) T N Y = walkS (bu tb) T N (kdL (bu tb) T Y.2 6 0) Y := if_neg c_6
    subst hQ
    exact wq_rz hx hb hr hlocks hP hS dX2_takeItem_15 z_01 (by rw [hE] <;> rfl) (by rw [hE])
theorem i_X2_takeItem : ciOk yX2_takeItem cX2_takeItem 3 (some .boolean) wsX2_takeItem 1 := ⟨⟨_, rfl⟩, by decide +kernel⟩
set_option maxHeartbeats 1000000 in
set_option maxRecDepth 100000 in
theorem c_X2_tellOnto {l : Launch} {D : va_G} {cy : Nat → ClassId} {ad : Nat → Nat} {kS vS : Nat → Nat} {p0 : Nat → Int32} {p1 : Nat → Int32} {p2 : Nat → Int32} {ke : Int32} {tb : Nat → Int32} {t2 : Int32} {t3 : Int32} {t4 : Int32} {t5 : Int32} {sb : Nat → Int32} {ss : Nat → Int32} {sw : Nat → Nat → Int64} {fd : Nat → Int32} {T : Nat} {N : Nat} (hT2 : T ≤ 120) (hN1 : p1 0 = nI N) (h8 : N ≤ 8) : Met l yX2_tellOnto wsX2_tellOnto (rmz 8 173) (tPre D cy ad kS vS (cw cy ad (rr p0 p1 p2) ke tb (nI T) t2 t3 t4 t5 sb ss sw fd) [.ref (ad 31), .ref (ad (1 + 10 * 1))]) (wPost D (cw cy ad (rr p0 ((tellS (bu tb) T 120 (p1, advT (bu tb) T (0, 0, t5)) 0).1.1) p2) ke tb (nI T) (sortF (bu tb) T ((tellS (bu tb) T 120 (p1, advT (bu tb) T (0, 0, t5)) 0).1.2).1) (nI (((tellS (bu tb) T 120 (p1, advT (bu tb) T (0, 0, t5)) 0).1.2).1)) (nI (((tellS (bu tb) T 120 (p1, advT (bu tb) T (0, 0, t5)) 0).1.2).2.1)) (((tellS (bu tb) T 120 (p1, advT (bu tb) T (0, 0, t5)) 0).1.2).2.2) sb ss sw fd) (some (.int ((tellS (bu tb) T 120 (p1, advT (bu tb) T (0, 0, t5)) 0).2))) (cA ad)) 0 0 (cA ad) := by
  refine tq_entry rfl rfl (Nat.le_of_ble_eq_true rfl) ?_
  intro p e s0 m args below meth c S hr hlocks hK hT hP ls hl
  have S : CallFix p m c cX2_tellOnto 3 s0 args wsX2_tellOnto RX2 := S
  obtain ⟨hx, hb, hml, hown, hts⟩ := id S
  have hin2 : ∀ w ∈ wsX20, w ∈ wsX2_tellOnto := fun w h => List.mem_cons_of_mem _ (List.mem_append_left _ (List.mem_append_left _ (List.mem_append_right _ h)))
  have hin0 : ∀ w ∈ wsX00, w ∈ wsX2_tellOnto := fun w h => List.mem_cons_of_mem _ (List.mem_append_left _ (List.mem_append_right _ h))
  have hin3 : ∀ w ∈ wsX30, w ∈ wsX2_tellOnto := fun w h => List.mem_cons_of_mem _ (List.mem_append_right _ h)
  have hS : va_S (cA ad) s0.heap s0.heap [] := va_S.rf
  have hl : lv_has ls 3 [(0, .ref (ad 31)), (1, .ref (ad (1 + 10 * 1)))] := hl
  generalize hQ : MQ below (wPost D (cw cy ad (rr p0 ((tellS (bu tb) T 120 (p1, advT (bu tb) T (0, 0, t5)) 0).1.1) p2) ke tb (nI T) (sortF (bu tb) T ((tellS (bu tb) T 120 (p1, advT (bu tb) T (0, 0, t5)) 0).1.2).1) (nI (((tellS (bu tb) T 120 (p1, advT (bu tb) T (0, 0, t5)) 0).1.2).1)) (nI (((tellS (bu tb) T 120 (p1, advT (bu tb) T (0, 0, t5)) 0).1.2).2.1)) (((tellS (bu tb) T 120 (p1, advT (bu tb) T (0, 0, t5)) 0).1.2).2.2) sb ss sw fd) (some (.int ((tellS (bu tb) T 120 (p1, advT (bu tb) T (0, 0, t5)) 0).2))) (cA ad)) args s0 0 0 (cA ad) = Q
  refine lv_aload_n hx hb dX2_tellOnto_0 rfl (lv_at hl 0 rfl) ?_
  refine lv_iconst (v := nI 0) hx hb dX2_tellOnto_1 (by decide) ?_
  refine c_put (w' := (cw cy ad (rr p0 p1 p2) ke tb (nI T) t2 t3 (nI 0) t5 sb ss sw fd)) (ty := .int) (C := RX2) (T := TX2) (N := 6) hx hb hts hin2 tyX2 tyX2_ok nmX2 hown hK hP hS (31) (by decide) cE_tp rfl 4 (by decide) (Or.inl (hts (.fieldLink RX2 25 "PennyRoad$Tape" "next" "I") (by decide +kernel))) rfl (by decide +kernel) rfl rfl (by show _ < 6; decide) cs_tp dX2_tellOnto_2 (fun H locs hP hS => ?_)
  refine lv_aload_n hx hb dX2_tellOnto_5 rfl (lv_at hl 0 rfl) ?_
  refine wq_V S cK_ok hK hP hS (c_X2_advT (X := (0, 0, t5)) (show okX T (0, 0, t5) from ⟨Nat.le_refl 0, Nat.zero_le T⟩) hT2) gX2_tellOnto_X2_advance i_X2_advance rfl (c_rec hK hP 31 (by decide) cE_tp rfl) ⟨Nat.le_of_ble_eq_true rfl, Nat.le_of_ble_eq_true rfl⟩ rfl hl.1 (As := []) (rest := []) (st1 := []) rfl rfl (Nat.le_of_ble_eq_true rfl) ⟨Nat.le_of_ble_eq_true rfl, Nat.le_of_ble_eq_true rfl⟩ dX2_tellOnto_6 (fun H locs hP hS => ?_)
  refine lv_iconst (v := nI 0) hx hb dX2_tellOnto_9 (by decide) ?_
  refine lv_istore_n (lv' := [(2, .int (nI 0)), (0, .ref (ad 31)), (1, .ref (ad (1 + 10 * 1)))]) hx hb dX2_tellOnto_10 rfl hl (by decide) rfl (fun ls hl => ?_)
  have L_11 : ∀ (n : Nat) (k : Nat) (Y : CS) (H : Heap) (locs : List Loc) (ls : Array Slot), (k + n = 120) → (okC T Y) → (tellS (bu tb) T 120 (p1, advT (bu tb) T (0, 0, t5)) 0 = tellS (bu tb) T n Y k) → va_P D vwCl (cw cy ad (rr p0 Y.1 p2) ke tb (nI T) (sortF (bu tb) T (Y.2).1) (nI ((Y.2).1)) (nI ((Y.2).2.1)) ((Y.2).2.2) sb ss sw fd) H → va_S (cA ad) s0.heap H locs → lv_has ls 3 [(2, .int (nI k)), (0, .ref (ad 31)), (1, .ref (ad (1 + 10 * 1)))] → W p l e (rmz 8 173) s0 m args below meth c H locs 0 0 Q (F0 m 11 ls []) := by
    intro n
    induction n with
    | zero =>
      intro k Y H locs ls hj hk hF hP hS hl
      refine lv_iload_n hx hb dX2_tellOnto_11 rfl (lv_at hl 0 rfl) ?_
      refine lv_bipush (v := nI 120) hx hb dX2_tellOnto_12 (by decide) ?_
      refine lvn_icmp_ge (tgt := 55) hx hb dX2_tellOnto_14 (by decide) (by omega) (by omega) (fun c_14 => ?_) (fun c_14 => ?_)
      · skip
        refine lv_iconst (v := (-1)) hx hb dX2_tellOnto_55 (by decide) ?_
        refine lv_aload_n hx hb dX2_tellOnto_56 rfl (lv_at hl 1 rfl) ?_
        refine c_get (v := .int (nI ((Y.2).1))) (C := RX2) (T := TX2) (N := 6) hx hb hts hin2 hown hK hP (31) (by decide) cE_tp rfl 3 (by decide) (Or.inl (hts (.fieldLink RX2 22 "PennyRoad$Tape" "first" "I") (by decide +kernel))) rfl dX2_tellOnto_57 ?_
        refine lv_isub hx hb dX2_tellOnto_60 ?_
        have hE : tellS (bu tb) T 120 (p1, advT (bu tb) T (0, 0, t5)) 0 = (Y, (-1) - nI (Y.2.1)) := hF.trans rfl
        subst hQ
        exact wq_ri hx hb hr hlocks hP hS dX2_tellOnto_61 (by rw [hE] <;> rfl) (by rw [hE])
      · skip
        exfalso; omega
    | succ n ih_11 =>
      intro k Y H locs ls hj hk hF hP hS hl
      refine lv_iload_n hx hb dX2_tellOnto_11 rfl (lv_at hl 0 rfl) ?_
      refine lv_bipush (v := nI 120) hx hb dX2_tellOnto_12 (by decide) ?_
      refine lvn_icmp_ge (tgt := 55) hx hb dX2_tellOnto_14 (by decide) (by omega) (by omega) (fun c_14 => ?_) (fun c_14 => ?_)
      · skip
        exfalso; omega
      · skip
        refine lv_aload_n hx hb dX2_tellOnto_17 rfl (lv_at hl 1 rfl) ?_
        refine lv_aload_n hx hb dX2_tellOnto_18 rfl (lv_at hl 2 rfl) ?_
        refine tq_V S hK hT hP hS (c_X2_takeItem (Y := Y) hk.1 hT2 (okC_n hk).1 (okC_n hk).2) gX2_tellOnto_X2_takeItem i_X2_takeItem rfl (c_rec hK hP 31 (by decide) cE_tp rfl) ⟨Nat.le_of_ble_eq_true rfl, Nat.le_of_ble_eq_true rfl⟩ rfl hl.1 (As := [.ref (ad (1 + 10 * 1))]) (rest := []) (st1 := [.int (z ((itemS (bu tb) T (nW Y.1) Y).2 = true))]) rfl rfl (Nat.le_of_ble_eq_true rfl) ⟨Nat.le_of_ble_eq_true rfl, Nat.le_of_ble_eq_true rfl⟩ dX2_tellOnto_19 (fun H locs hP hS => ?_)
        refine lvz_if_eq (tgt := 55) hx hb dX2_tellOnto_22 (by decide) (fun c_22 => ?_) (fun c_22 => ?_)
        · skip
          refine lv_iconst (v := (-1)) hx hb dX2_tellOnto_55 (by decide) ?_
          refine lv_aload_n hx hb dX2_tellOnto_56 rfl (lv_at hl 1 rfl) ?_
          refine c_get (v := .int (nI (((itemS (bu tb) T (nW Y.1) Y).1.2).1))) (C := RX2) (T := TX2) (N := 6) hx hb hts hin2 hown hK hP (31) (by decide) cE_tp rfl 3 (by decide) (Or.inl (hts (.fieldLink RX2 22 "PennyRoad$Tape" "first" "I") (by decide +kernel))) rfl dX2_tellOnto_57 ?_
          refine lv_isub hx hb dX2_tellOnto_60 ?_
          have hE : tellS (bu tb) T 120 (p1, advT (bu tb) T (0, 0, t5)) 0 = ((itemS (bu tb) T (nW Y.1) Y).1, (-1) - nI (((itemS (bu tb) T (nW Y.1) Y).1).2.1)) := hF.trans (tellS_f c_22)
          subst hQ
          exact wq_ri hx hb hr hlocks hP hS dX2_tellOnto_61 (by rw [hE] <;> rfl) (by rw [hE])
        · skip
          refine lv_iinc (v := nI (k + 1)) (lv' := [(2, .int (nI (k + 1))), (0, .ref (ad 31)), (1, .ref (ad (1 + 10 * 1)))]) hx hb dX2_tellOnto_25 hl (k := 0) rfl (nI_add _ _) (by decide) rfl (fun ls hl => ?_)
          refine lv_aload_n hx hb dX2_tellOnto_28 rfl (lv_at hl 1 rfl) ?_
          refine c_get (v := .int (sortF (bu tb) T ((itemS (bu tb) T (nW Y.1) Y).1.2).1)) (C := RX2) (T := TX2) (N := 6) hx hb hts hin2 hown hK hP (31) (by decide) cE_tp rfl 2 (by decide) (Or.inl (hts (.fieldLink RX2 19 "PennyRoad$Tape" "sort" "I") (by decide +kernel))) rfl dX2_tellOnto_29 ?_
          refine lv_if_ne (tgt := 37) hx hb dX2_tellOnto_32 (by decide) (fun c_32 => ?_) (fun c_32 => ?_)
          · skip
            refine lv_aload_n hx hb dX2_tellOnto_37 rfl (lv_at hl 1 rfl) ?_
            refine c_get (v := .int (sortF (bu tb) T ((itemS (bu tb) T (nW Y.1) Y).1.2).1)) (C := RX2) (T := TX2) (N := 6) hx hb hts hin2 hown hK hP (31) (by decide) cE_tp rfl 2 (by decide) (Or.inl (hts (.fieldLink RX2 19 "PennyRoad$Tape" "sort" "I") (by decide +kernel))) rfl dX2_tellOnto_38 ?_
            refine lv_iconst (v := nI 3) hx hb dX2_tellOnto_41 (by decide) ?_
            refine lv_icmp_eq (tgt := 48) hx hb dX2_tellOnto_42 (by decide) (fun c_42 => ?_) (fun c_42 => ?_)
            · skip
              refine lv_aload_n hx hb dX2_tellOnto_48 rfl (lv_at hl 1 rfl) ?_
              refine wq_V S cK_ok hK hP hS (c_X2_advT (X := (itemS (bu tb) T (nW Y.1) Y).1.2) (itemS_ok hk (okC_n hk).1 (okC_n hk).2).1 hT2) gX2_tellOnto_X2_advance i_X2_advance rfl (c_rec hK hP 31 (by decide) cE_tp rfl) ⟨Nat.le_of_ble_eq_true rfl, Nat.le_of_ble_eq_true rfl⟩ rfl hl.1 (As := []) (rest := []) (st1 := []) rfl rfl (Nat.le_of_ble_eq_true rfl) ⟨Nat.le_of_ble_eq_true rfl, Nat.le_of_ble_eq_true rfl⟩ dX2_tellOnto_49 (fun H locs hP hS => ?_)
              refine lv_goto (tgt := 11) hx hb dX2_tellOnto_52 (by decide) ?_
              exact ih_11 (k + 1) ((itemS (bu tb) T (nW Y.1) Y).1.1, advT (bu tb) T ((itemS (bu tb) T (nW Y.1) Y).1.2)) _ _ ls (by omega) (okC_adv (itemS_ok hk (okC_n hk).1 (okC_n hk).2)) (hF.trans (tellS_s c_22 c_32 c_42)) hP hS hl
            · skip
              refine lv_goto (tgt := 55) hx hb dX2_tellOnto_45 (by decide) ?_
              refine lv_iconst (v := (-1)) hx hb dX2_tellOnto_55 (by decide) ?_
              refine lv_aload_n hx hb dX2_tellOnto_56 rfl (lv_at hl 1 rfl) ?_
              refine c_get (v := .int (nI (((itemS (bu tb) T (nW Y.1) Y).1.2).1))) (C := RX2) (T := TX2) (N := 6) hx hb hts hin2 hown hK hP (31) (by decide) cE_tp rfl 3 (by decide) (Or.inl (hts (.fieldLink RX2 22 "PennyRoad$Tape" "first" "I") (by decide +kernel))) rfl dX2_tellOnto_57 ?_
              refine lv_isub hx hb dX2_tellOnto_60 ?_
              have hE : tellS (bu tb) T 120 (p1, advT (bu tb) T (0, 0, t5)) 0 = ((itemS (bu tb) T (nW Y.1) Y).1, (-1) - nI (((itemS (bu tb) T (nW Y.1) Y).1).2.1)) := hF.trans (tellS_x c_22 c_32 c_42)
              subst hQ
              exact wq_ri hx hb hr hlocks hP hS dX2_tellOnto_61 (by rw [hE] <;> rfl) (by rw [hE])
          · skip
            refine lv_iload_n hx hb dX2_tellOnto_35 rfl (lv_at hl 0 rfl) ?_
            have hE : tellS (bu tb) T 120 (p1, advT (bu tb) T (0, 0, t5)) 0 = ((itemS (bu tb) T (nW Y.1) Y).1, nI (k + 1)) := hF.trans (tellS_0 c_22 c_32)
            subst hQ
            exact wq_ri hx hb hr hlocks hP hS dX2_tellOnto_36 (by rw [hE] <;> rfl) (by rw [hE])
  exact L_11 120 0 (p1, advT (bu tb) T (0, 0, t5)) _ _ ls (by omega) ⟨advT_ok ⟨Nat.le_refl 0, Nat.zero_le T⟩, N, h8, hN1⟩ rfl hP hS hl
theorem i_X2_tellOnto : ciOk yX2_tellOnto cX2_tellOnto 3 (some .int) wsX2_tellOnto 1 := ⟨⟨_, rfl⟩, by decide +kernel⟩
