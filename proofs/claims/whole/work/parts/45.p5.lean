set_option maxHeartbeats 1000000 in
set_option maxRecDepth 100000 in
theorem c_X4_goesBy {l : Launch} {D : va_G} {cy : Nat → ClassId} {ad : Nat → Nat} {p0 : Nat → Int32} {p1 : Nat → Int32} {p2 : Nat → Int32} {ke : Int32} {tb : Nat → Int32} {t1 : Int32} {t2 : Int32} {t3 : Int32} {t4 : Int32} {t5 : Int32} {sb : Nat → Int32} {ss : Nat → Int32} {sw : Nat → Nat → Int64} {fd : Nat → Int32} {i : Nat} {w : Nat} {z_ : Nat} {N : Nat} (hi : i < 4) (hw : w < N) (hze : ss i = nI z_) (hz4 : z_ ≤ 40) (hN1 : p1 0 = nI N) (h8 : N ≤ 8) : Met l yX4_goesBy wsX4_goesBy (rmz 4 88) (wPre D (cK D cy ad) (cw cy ad (rr p0 p1 p2) ke tb t1 t2 t3 t4 t5 sb ss sw fd) [.ref (ad 0), .ref (ad (34 + 2 * i)), .int (nI w)]) (wPost D (cw cy ad (rr p0 ((isBkC N w (sw i) z_ 0 p1).2) p2) ke tb t1 t2 t3 t4 t5 sb ss sw fd) (some (.int (z ((isBkC N w (sw i) z_ 0 p1).1 = true)))) (cA ad)) 0 0 (cA ad) := by
  refine wq_entry rfl rfl (Nat.le_of_ble_eq_true rfl) ?_
  intro p e s0 m args below meth c S hr hlocks hK hP ls hl
  have S : CallFix p m c cX4_goesBy 4 s0 args wsX4_goesBy RX4 := S
  obtain ⟨hx, hb, hml, hown, hts⟩ := id S
  have hin1 : ∀ w ∈ wsX10, w ∈ wsX4_goesBy := fun w h => List.mem_cons_of_mem _ (List.mem_append_left _ (List.mem_append_left _ (List.mem_append_left _ (List.mem_append_right _ h))))
  have hin4 : ∀ w ∈ wsX40, w ∈ wsX4_goesBy := fun w h => List.mem_cons_of_mem _ (List.mem_append_left _ (List.mem_append_left _ (List.mem_append_right _ h)))
  have hin0 : ∀ w ∈ wsX00, w ∈ wsX4_goesBy := fun w h => List.mem_cons_of_mem _ (List.mem_append_left _ (List.mem_append_right _ h))
  have hin3 : ∀ w ∈ wsX30, w ∈ wsX4_goesBy := fun w h => List.mem_cons_of_mem _ (List.mem_append_right _ h)
  have hS : va_S (cA ad) s0.heap s0.heap [] := va_S.rf
  have hl : lv_has ls 4 [(0, .ref (ad 0)), (1, .ref (ad (34 + 2 * i))), (2, .int (nI w))] := hl
  generalize hQ : MQ below (wPost D (cw cy ad (rr p0 ((isBkC N w (sw i) z_ 0 p1).2) p2) ke tb t1 t2 t3 t4 t5 sb ss sw fd) (some (.int (z ((isBkC N w (sw i) z_ 0 p1).1 = true)))) (cA ad)) args s0 0 0 (cA ad) = Q
  refine lv_iconst (v := nI 0) hx hb dX4_goesBy_0 (by decide) ?_
  refine lv_istore_n (lv' := [(3, .int (nI 0)), (0, .ref (ad 0)), (1, .ref (ad (34 + 2 * i))), (2, .int (nI w))]) hx hb dX4_goesBy_1 rfl hl (by decide) rfl (fun ls hl => ?_)
  have L_2 : ∀ (n : Nat) (j : Nat) (sz : Nat → Int32) (H : Heap) (locs : List Loc) (ls : Array Slot), (j + n = z_) → (sz 0 = nI N) → (isBkC N w (sw i) z_ 0 p1 = isBkC N w (sw i) n j sz) → va_P D vwCl (cw cy ad (rr p0 sz p2) ke tb t1 t2 t3 t4 t5 sb ss sw fd) H → va_S (cA ad) s0.heap H locs → lv_has ls 4 [(3, .int (nI j)), (0, .ref (ad 0)), (1, .ref (ad (34 + 2 * i))), (2, .int (nI w))] → W p l e (rmz 4 88) s0 m args below meth c H locs 0 0 Q (F0 m 2 ls []) := by
    intro n
    induction n with
    | zero =>
      intro j sz H locs ls hj hm hF hP hS hl
      refine lv_iload_n hx hb dX4_goesBy_2 rfl (lv_at hl 0 rfl) ?_
      refine lv_aload_n hx hb dX4_goesBy_3 rfl (lv_at hl 2 rfl) ?_
      refine c_get (v := .int (ss i)) (C := RX1) (T := TX1) (N := 3) hx hb hts hin1 hown hK hP (34 + 2 * i) (by omega) (cE_sh (by omega)) rfl 2 (by decide) (Or.inr (c_nest hK 30 rfl)) rfl dX4_goesBy_4 ?_
      refine lv_top hze ?_
      refine lvn_icmp_ge (tgt := 48) hx hb dX4_goesBy_7 (by decide) (by omega) (by omega) (fun c_7 => ?_) (fun c_7 => ?_)
      · skip
        have hE : isBkC N w (sw i) z_ 0 p1 = (true, sz) := hF
        refine lv_iconst (v := nI 1) hx hb dX4_goesBy_48 (by decide) ?_
        subst hQ
        exact wq_rz hx hb hr hlocks hP hS dX4_goesBy_49 (by subst_vars; first | (left; rfl) | (right; rfl) | (split <;> simp)) (by rw [hE]; first | exact rvI (z_t rfl) | exact rvI (z_f (fun h9 => Bool.false_ne_true h9))) (by rw [hE])
      · skip
        exfalso; omega
    | succ n ih_2 =>
      intro j sz H locs ls hj hm hF hP hS hl
      refine lv_iload_n hx hb dX4_goesBy_2 rfl (lv_at hl 0 rfl) ?_
      refine lv_aload_n hx hb dX4_goesBy_3 rfl (lv_at hl 2 rfl) ?_
      refine c_get (v := .int (ss i)) (C := RX1) (T := TX1) (N := 3) hx hb hts hin1 hown hK hP (34 + 2 * i) (by omega) (cE_sh (by omega)) rfl 2 (by decide) (Or.inr (c_nest hK 30 rfl)) rfl dX4_goesBy_4 ?_
      refine lv_top hze ?_
      refine lvn_icmp_ge (tgt := 48) hx hb dX4_goesBy_7 (by decide) (by omega) (by omega) (fun c_7 => ?_) (fun c_7 => ?_)
      · skip
        exfalso; omega
      · skip
        refine lv_aload_n hx hb dX4_goesBy_10 rfl (lv_at hl 1 rfl) ?_
        refine c_get (v := .ref (ad (1 + 10 * 1))) (C := RX4) (T := TX4) (N := 7) hx hb hts hin4 hown hK hP (0) (by decide) cE_0 rfl 1 (by decide) (Or.inl (hts (.fieldLink RX4 16 "PennyRoad" "ahead" "LPennyRoad$Road;") (by decide +kernel))) rfl dX4_goesBy_11 ?_
        refine c_get (v := .ref (ad (2 + 10 * 1))) (C := RX0) (T := TX0) (N := 6) hx hb hts hin0 hown hK hP (1 + 10 * 1) (by decide) (cE_rd (by decide)) rfl 5 (by decide) (Or.inr (c_nest hK 26 rfl)) rfl dX4_goesBy_14 ?_
        refine lv_iload_n hx hb dX4_goesBy_17 rfl (lv_at hl 3 rfl) ?_
        refine c_aldW hx hb hK hP 1 (by decide) (by omega) dX4_goesBy_18 ?_
        refine c_get (v := .int (sz (5 + 8 * w + 1))) (C := RX3) (T := TX3) (N := 8) hx hb hts hin3 hown hK hP (3 + 10 * 1 + w) (by omega) (cE_wk (by decide) (by omega)) rfl 1 (by decide) (Or.inr (c_nest hK 2 rfl)) rfl dX4_goesBy_19 ?_
        refine lv_i2l (v := (sz (5 + 8 * w + 1)).toInt64) hx hb dX4_goesBy_22 rfl ?_
        refine lv_aload_n hx hb dX4_goesBy_23 rfl (lv_at hl 2 rfl) ?_
        refine c_get (v := .ref (ad (35 + 2 * i))) (C := RX1) (T := TX1) (N := 3) hx hb hts hin1 hown hK hP (34 + 2 * i) (by omega) (cE_sh (by omega)) rfl 0 (by decide) (Or.inr (c_nest hK 28 rfl)) rfl dX4_goesBy_24 ?_
        refine lv_iload_n hx hb dX4_goesBy_27 rfl (lv_at hl 0 rfl) ?_
        refine c_aldL hx hb hK hP i (by omega) (by omega) dX4_goesBy_28 ?_
        refine W.lcmp hx hb dX4_goesBy_29 ?_
        refine lv_if_eq (tgt := 35) hx hb dX4_goesBy_30 (by decide) (fun c_30 => ?_) (fun c_30 => ?_)
        · skip
          rw [lg_cmp_eq] at c_30
          refine lv_aload_n hx hb dX4_goesBy_35 rfl (lv_at hl 1 rfl) ?_
          refine c_get (v := .ref (ad (1 + 10 * 1))) (C := RX4) (T := TX4) (N := 7) hx hb hts hin4 hown hK hP (0) (by decide) cE_0 rfl 1 (by decide) (Or.inl (hts (.fieldLink RX4 16 "PennyRoad" "ahead" "LPennyRoad$Road;") (by decide +kernel))) rfl dX4_goesBy_36 ?_
          refine wq_VN (host := "PennyRoad") S cK_ok hK hP hS (c_X0_passHour_r1 hm h8) gX4_goesBy_X0_passHour_n136 i_X0_passHour (c_nest hK 49 rfl) (hts (.initialized RX0) (by decide +kernel)) (hts (.instanceMethod yX0_passHour) (by decide +kernel)) (hts (.selects RX0 yX0_passHour yX0_passHour) (by decide +kernel)) (c_rec hK hP (1 + 10 * 1) (by decide) (cE_rd (by decide)) rfl) ⟨Nat.le_of_ble_eq_true rfl, Nat.le_of_ble_eq_true rfl⟩ rfl hl.1 (As := []) (rest := []) (st1 := []) rfl rfl (Nat.le_of_ble_eq_true rfl) ⟨Nat.le_of_ble_eq_true rfl, Nat.le_of_ble_eq_true rfl⟩ dX4_goesBy_39 (fun H locs hP hS => ?_)
          refine lv_iinc (v := nI (j + 1)) (lv' := [(3, .int (nI (j + 1))), (0, .ref (ad 0)), (1, .ref (ad (34 + 2 * i))), (2, .int (nI w))]) hx hb dX4_goesBy_42 hl (k := 0) rfl (nI_add _ _) (by decide) rfl (fun ls hl => ?_)
          refine lv_goto (tgt := 2) hx hb dX4_goesBy_45 (by decide) ?_
          exact ih_2 (j + 1) _ _ _ ls (by omega) (hourF_0.trans hm) (hF.trans (if_pos c_30)) hP hS hl
        · skip
          rw [lg_cmp_eq] at c_30
          have hE : isBkC N w (sw i) z_ 0 p1 = (false, sz) := hF.trans (if_neg c_30)
          refine lv_iconst (v := nI 0) hx hb dX4_goesBy_33 (by decide) ?_
          subst hQ
          exact wq_rz hx hb hr hlocks hP hS dX4_goesBy_34 (by subst_vars; first | (left; rfl) | (right; rfl) | (split <;> simp)) (by rw [hE]; first | exact rvI (z_t rfl) | exact rvI (z_f (fun h9 => Bool.false_ne_true h9))) (by rw [hE])
  exact L_2 z_ 0 p1 _ _ ls (by omega) hN1 rfl hP hS hl
theorem i_X4_goesBy : ciOk yX4_goesBy cX4_goesBy 4 (some .boolean) wsX4_goesBy 2 := ⟨⟨_, rfl⟩, by decide +kernel⟩
set_option maxHeartbeats 1000000 in
set_option maxRecDepth 100000 in
theorem c_X4_read {l : Launch} {D : va_G} {cy : Nat → ClassId} {ad : Nat → Nat} {p0 : Nat → Int32} {p1 : Nat → Int32} {p2 : Nat → Int32} {ke : Int32} {tb : Nat → Int32} {t1 : Int32} {t2 : Int32} {t3 : Int32} {t4 : Int32} {t5 : Int32} {sb : Nat → Int32} {ss : Nat → Int32} {sw : Nat → Nat → Int64} {fd : Nat → Int32} {q : Int32} {w : Int32} {N : Nat} (hN : p0 0 = nI N) (h8 : N ≤ 8) (hz : ∀ t, t < 4 → ∃ z : Nat, z ≤ 40 ∧ ss t = nI z) : Met l yX4_read wsX4_read (rmz 5 111) (wPre D (cK D cy ad) (cw cy ad (rr p0 p1 p2) ke tb t1 t2 t3 t4 t5 sb ss sw fd) [.ref (ad 0), .int (q), .int (w)]) (cPub D cy ad (some (.int (if rg 0 3 q then (if sb q.toNatClampNeg = 0 then -1000000006 else if isN N w then rdO N w.toNatClampNeg (sw q.toNatClampNeg) (ss q.toNatClampNeg).toNatClampNeg p0 6 0 (nI 0) else -1000000001) else -1000000001))) p0 p2 ke tb t1 sb ss sw (if rg 0 3 q then (if sb q.toNatClampNeg = 0 then fnd fd 5 else if isN N w then fd else fnd fd 0) else fnd fd 0)) 0 0 (cA ad) := by
  refine wq_entry rfl rfl (Nat.le_of_ble_eq_true rfl) ?_
  intro p e s0 m args below meth c S hr hlocks hK hP ls hl
  have S : CallFix p m c cX4_read 7 s0 args wsX4_read RX4 := S
  obtain ⟨hx, hb, hml, hown, hts⟩ := id S
  have hin4 : ∀ w ∈ wsX40, w ∈ wsX4_read := fun w h => List.mem_cons_of_mem _ (List.mem_append_left _ (List.mem_append_left _ (List.mem_append_left _ (List.mem_append_right _ h))))
  have hin0 : ∀ w ∈ wsX00, w ∈ wsX4_read := fun w h => List.mem_cons_of_mem _ (List.mem_append_left _ (List.mem_append_left _ (List.mem_append_right _ h)))
  have hin3 : ∀ w ∈ wsX30, w ∈ wsX4_read := fun w h => List.mem_cons_of_mem _ (List.mem_append_left _ (List.mem_append_right _ h))
  have hin1 : ∀ w ∈ wsX10, w ∈ wsX4_read := fun w h => List.mem_cons_of_mem _ (List.mem_append_right _ h)
  have hS : va_S (cA ad) s0.heap s0.heap [] := va_S.rf
  have hl : lv_has ls 7 [(0, .ref (ad 0)), (1, .int (q)), (2, .int (w))] := hl
  generalize hQ : MQ below (cPub D cy ad (some (.int (if rg 0 3 q then (if sb q.toNatClampNeg = 0 then -1000000006 else if isN N w then rdO N w.toNatClampNeg (sw q.toNatClampNeg) (ss q.toNatClampNeg).toNatClampNeg p0 6 0 (nI 0) else -1000000001) else -1000000001))) p0 p2 ke tb t1 sb ss sw (if rg 0 3 q then (if sb q.toNatClampNeg = 0 then fnd fd 5 else if isN N w then fd else fnd fd 0) else fnd fd 0)) args s0 0 0 (cA ad) = Q
  refine lv_iload_n hx hb dX4_read_0 rfl (lv_at hl 1 rfl) ?_
  refine sq_S S (c_X4_isSheet) gX4_read_X4_isSheet i_X4_isSheet ⟨Nat.le_of_ble_eq_true rfl, Nat.le_of_ble_eq_true rfl⟩ rfl hl.1 (As := [.int (q)]) (rest := []) (st1 := [.int (z (rg 0 3 (q)))]) rfl rfl (Nat.le_of_ble_eq_true rfl) ⟨Nat.le_of_ble_eq_true rfl, Nat.le_of_ble_eq_true rfl⟩ dX4_read_1 ?_
  refine lvz_if_ne (tgt := 13) hx hb dX4_read_4 (by decide) (fun c_4 => ?_) (fun c_4 => ?_)
  · skip
    obtain ⟨i, h_i, h_i2, rfl⟩ := rg_ix (a := 0) (b := 3) (by decide) c_4
    have hcl_i : (nI i).toNatClampNeg = i := nI_clamp (by omega)
    refine lv_aload_n hx hb dX4_read_13 rfl (lv_at hl 0 rfl) ?_
    refine c_get (v := .ref (ad 33)) (C := RX4) (T := TX4) (N := 7) hx hb hts hin4 hown hK hP (0) (by decide) cE_0 rfl 5 (by decide) (Or.inl (hts (.fieldLink RX4 35 "PennyRoad" "sheets" "[LPennyRoad$Sheet;") (by decide +kernel))) rfl dX4_read_14 ?_
    refine lv_iload_n hx hb dX4_read_17 rfl (lv_at hl 1 rfl) ?_
    refine c_aldS hx hb hK hP (by omega) dX4_read_18 ?_
    refine lv_astore_n (lv' := [(3, .ref (ad (34 + 2 * i))), (0, .ref (ad 0)), (1, .int (nI i)), (2, .int (w))]) hx hb dX4_read_19 rfl hl (by decide) rfl (fun ls hl => ?_)
    refine lv_aload_n hx hb dX4_read_20 rfl (lv_at hl 0 rfl) ?_
    refine wq_VN (host := "PennyRoad") S cK_ok hK hP hS (c_X1_isMissing (by omega)) gX4_read_X1_isMissing_n183 i_X1_isMissing (c_nest hK 55 rfl) (hts (.initialized RX1) (by decide +kernel)) (hts (.instanceMethod yX1_isMissing) (by decide +kernel)) (hts (.selects RX1 yX1_isMissing yX1_isMissing) (by decide +kernel)) (c_rec hK hP (34 + 2 * i) (by omega) (cE_sh (by omega)) rfl) ⟨Nat.le_of_ble_eq_true rfl, Nat.le_of_ble_eq_true rfl⟩ rfl hl.1 (As := []) (rest := []) (st1 := [.int (z (sb i = 0))]) rfl rfl (Nat.le_of_ble_eq_true rfl) ⟨Nat.le_of_ble_eq_true rfl, Nat.le_of_ble_eq_true rfl⟩ dX4_read_21 (fun H locs hP hS => ?_)
    refine lvz_if_eq (tgt := 33) hx hb dX4_read_24 (by decide) (fun c_24 => ?_) (fun c_24 => ?_)
    · skip
      obtain ⟨z_, hz4, hze⟩ := hz i (by omega)
      have hclz : (ss i).toNatClampNeg = z_ := by rw [hze]; exact nI_clamp (by omega)
      refine lv_aload_n hx hb dX4_read_33 rfl (lv_at hl 1 rfl) ?_
      refine lv_iload_n hx hb dX4_read_34 rfl (lv_at hl 3 rfl) ?_
      refine wq_V S cK_ok hK hP hS (c_X4_isThere hN h8) gX4_read_X4_isThere i_X4_isThere rfl (c_rec hK hP 0 (by decide) cE_0 rfl) ⟨Nat.le_of_ble_eq_true rfl, Nat.le_of_ble_eq_true rfl⟩ rfl hl.1 (As := [.int (w)]) (rest := []) (st1 := [.int (z (isN N (w)))]) rfl rfl (Nat.le_of_ble_eq_true rfl) ⟨Nat.le_of_ble_eq_true rfl, Nat.le_of_ble_eq_true rfl⟩ dX4_read_35 (fun H locs hP hS => ?_)
      refine lvz_if_ne (tgt := 47) hx hb dX4_read_38 (by decide) (fun c_38 => ?_) (fun c_38 => ?_)
      · skip
        obtain ⟨k, h_k, rfl⟩ := isN_ix h8 c_38
        have hcl_k : (nI k).toNatClampNeg = k := nI_clamp (by omega)
        refine lv_iconst (v := nI 0) hx hb dX4_read_47 (by decide) ?_
        refine lv_istore (lv' := [(4, .int (nI 0)), (3, .ref (ad (34 + 2 * i))), (0, .ref (ad 0)), (1, .int (nI i)), (2, .int (nI k))]) hx hb dX4_read_48 hl (by decide) rfl (fun ls hl => ?_)
        refine lv_iconst (v := nI 0) hx hb dX4_read_50 (by decide) ?_
        refine lv_istore (lv' := [(5, .int (nI 0)), (4, .int (nI 0)), (3, .ref (ad (34 + 2 * i))), (0, .ref (ad 0)), (1, .int (nI i)), (2, .int (nI k))]) hx hb dX4_read_51 hl (by decide) rfl (fun ls hl => ?_)
        have L_53 : ∀ (n : Nat) (kd : Nat) (cc : Int32) (aa : Nat → Int32) (H : Heap) (locs : List Loc) (ls : Array Slot), (kd + n = 6) → (rdO N k (sw i) z_ p0 6 0 (nI 0) = rdO N k (sw i) z_ p0 n kd cc) → va_P D vwCl (cw cy ad (rr p0 aa p2) ke tb t1 t2 t3 t4 t5 sb ss sw fd) H → va_S (cA ad) s0.heap H locs → lv_has ls 7 [(5, .int (nI kd)), (4, .int (cc)), (3, .ref (ad (34 + 2 * i))), (0, .ref (ad 0)), (1, .int (nI i)), (2, .int (nI k))] → W p l e (rmz 5 111) s0 m args below meth c H locs 0 0 Q (F0 m 53 ls []) := by
          intro n
          induction n with
          | zero =>
            intro kd cc aa H locs ls hj hF hP hS hl
            refine lv_iload hx hb dX4_read_53 (lv_at hl 0 rfl) ?_
            refine lv_iconst (v := nI 5) hx hb dX4_read_55 (by decide) ?_
            refine lvn_icmp_gt (tgt := 125) hx hb dX4_read_56 (by decide) (by omega) (by omega) (fun c_56 => ?_) (fun c_56 => ?_)
            · skip
              have hE : rdO N k (sw i) z_ p0 6 0 (nI 0) = cc := hF
              refine lv_iload hx hb dX4_read_125 (lv_at hl 1 rfl) ?_
              subst hQ
              exact cp_ri hx hb hr hlocks hP hS dX4_read_127 (by first | with_reducible rfl | (simp only [fnd, if_pos c_4, if_neg c_24, if_pos c_38, if_pos c_56]; done) | (simp only [fnd, hcl_i, hclz, hcl_k, hE, c_4, if_neg c_24, c_38, if_pos c_56, Bool.false_eq_true, Bool.true_eq_false, and_true, true_and, false_and, and_false, and_self, not_true_eq_false, not_false_eq_true, if_true, if_false, reduceIte, or_false, false_or, true_or, or_true]; done) | (subst_vars; first | with_reducible rfl | (simp only [fnd, if_pos c_4, if_neg c_24, if_pos c_38, if_pos c_56]; done) | (simp only [fnd, hcl_i, hclz, hcl_k, hE, c_4, if_neg c_24, c_38, if_pos c_56, Bool.false_eq_true, Bool.true_eq_false, and_true, true_and, false_and, and_false, and_self, not_true_eq_false, not_false_eq_true, if_true, if_false, reduceIte, or_false, false_or, true_or, or_true]; done)) | contradiction | rfl) (by first | with_reducible rfl | (simp only [fnd, if_pos c_4, if_neg c_24, if_pos c_38, if_pos c_56]; done) | (simp only [fnd, hcl_i, hclz, hcl_k, hE, c_4, if_neg c_24, c_38, if_pos c_56, Bool.false_eq_true, Bool.true_eq_false, and_true, true_and, false_and, and_false, and_self, not_true_eq_false, not_false_eq_true, if_true, if_false, reduceIte, or_false, false_or, true_or, or_true]; done) | (subst_vars; first | with_reducible rfl | (simp only [fnd, if_pos c_4, if_neg c_24, if_pos c_38, if_pos c_56]; done) | (simp only [fnd, hcl_i, hclz, hcl_k, hE, c_4, if_neg c_24, c_38, if_pos c_56, Bool.false_eq_true, Bool.true_eq_false, and_true, true_and, false_and, and_false, and_self, not_true_eq_false, not_false_eq_true, if_true, if_false, reduceIte, or_false, false_or, true_or, or_true]; done)) | contradiction | rfl)
            · skip
              exfalso; omega
          | succ n ih_53 =>
            intro kd cc aa H locs ls hj hF hP hS hl
            refine lv_iload hx hb dX4_read_53 (lv_at hl 0 rfl) ?_
            refine lv_iconst (v := nI 5) hx hb dX4_read_55 (by decide) ?_
            refine lvn_icmp_gt (tgt := 125) hx hb dX4_read_56 (by decide) (by omega) (by omega) (fun c_56 => ?_) (fun c_56 => ?_)
            · skip
              exfalso; omega
            · skip
              refine lv_iconst (v := nI 0) hx hb dX4_read_59 (by decide) ?_
              refine lv_istore (lv' := [(6, .int (nI 0)), (5, .int (nI kd)), (4, .int (cc)), (3, .ref (ad (34 + 2 * i))), (0, .ref (ad 0)), (1, .int (nI i)), (2, .int (nI k))]) hx hb dX4_read_60 hl (by decide) rfl (fun ls hl => ?_)
              have L_62 : ∀ (m_ : Nat) (t : Nat) (cd : Int32) (ab : Nat → Int32) (H : Heap) (locs : List Loc) (ls : Array Slot), (t + m_ = 11) → (rdO N k (sw i) z_ p0 6 0 (nI 0) = rdO N k (sw i) z_ p0 n (kd + 1) (rdI N k (sw i) z_ p0 kd m_ t cd)) → va_P D vwCl (cw cy ad (rr p0 ab p2) ke tb t1 t2 t3 t4 t5 sb ss sw fd) H → va_S (cA ad) s0.heap H locs → lv_has ls 7 [(6, .int (nI t)), (5, .int (nI kd)), (4, .int (cd)), (3, .ref (ad (34 + 2 * i))), (0, .ref (ad 0)), (1, .int (nI i)), (2, .int (nI k))] → W p l e (rmz 5 111) s0 m args below meth c H locs 0 0 Q (F0 m 62 ls []) := by
                intro m_
                induction m_ with
                | zero =>
                  intro t cd ab H locs ls hj2 hG hP hS hl
                  refine lv_iload hx hb dX4_read_62 (lv_at hl 0 rfl) ?_
                  refine lv_bipush (v := nI 10) hx hb dX4_read_64 (by decide) ?_
                  refine lvn_icmp_gt (tgt := 119) hx hb dX4_read_66 (by decide) (by omega) (by omega) (fun c_66 => ?_) (fun c_66 => ?_)
                  · skip
                    refine lv_iinc (v := nI (kd + 1)) (lv' := [(5, .int (nI (kd + 1))), (6, .int (nI t)), (4, .int (cd)), (3, .ref (ad (34 + 2 * i))), (0, .ref (ad 0)), (1, .int (nI i)), (2, .int (nI k))]) hx hb dX4_read_119 hl (k := 1) rfl (nI_add _ _) (by decide) rfl (fun ls hl => ?_)
                    refine lv_goto (tgt := 53) hx hb dX4_read_122 (by decide) ?_
                    exact ih_53 (kd + 1) _ _ _ _ ls (by omega) hG hP hS (lv_sub hl [0, 2, 3, 4, 5, 6] rfl)
                  · skip
                    exfalso; omega
                | succ m_ ih_62 =>
                  intro t cd ab H locs ls hj2 hG hP hS hl
                  refine lv_iload hx hb dX4_read_62 (lv_at hl 0 rfl) ?_
                  refine lv_bipush (v := nI 10) hx hb dX4_read_64 (by decide) ?_
                  refine lvn_icmp_gt (tgt := 119) hx hb dX4_read_66 (by decide) (by omega) (by omega) (fun c_66 => ?_) (fun c_66 => ?_)
                  · skip
                    exfalso; omega
                  · skip
                    refine lv_aload_n hx hb dX4_read_69 rfl (lv_at hl 4 rfl) ?_
                    refine wq_V S cK_ok hK hP hS (c_X4_lookAhead hN h8) gX4_read_X4_lookAhead i_X4_lookAhead rfl (c_rec hK hP 0 (by decide) cE_0 rfl) ⟨Nat.le_of_ble_eq_true rfl, Nat.le_of_ble_eq_true rfl⟩ rfl hl.1 (As := []) (rest := []) (st1 := []) rfl rfl (Nat.le_of_ble_eq_true rfl) ⟨Nat.le_of_ble_eq_true rfl, Nat.le_of_ble_eq_true rfl⟩ dX4_read_70 (fun H locs hP hS => ?_)
                    refine lv_aload_n hx hb dX4_read_73 rfl (lv_at hl 4 rfl) ?_
                    refine c_get (v := .ref (ad (1 + 10 * 1))) (C := RX4) (T := TX4) (N := 7) hx hb hts hin4 hown hK hP (0) (by decide) cE_0 rfl 1 (by decide) (Or.inl (hts (.fieldLink RX4 16 "PennyRoad" "ahead" "LPennyRoad$Road;") (by decide +kernel))) rfl dX4_read_74 ?_
                    refine c_get (v := .ref (ad (2 + 10 * 1))) (C := RX0) (T := TX0) (N := 6) hx hb hts hin0 hown hK hP (1 + 10 * 1) (by decide) (cE_rd (by decide)) rfl 5 (by decide) (Or.inr (c_nest hK 26 rfl)) rfl dX4_read_77 ?_
                    refine lv_iload_n hx hb dX4_read_80 rfl (lv_at hl 6 rfl) ?_
                    refine c_aldW hx hb hK hP 1 (by decide) (by omega) dX4_read_81 ?_
                    refine lv_iload hx hb dX4_read_82 (lv_at hl 1 rfl) ?_
                    refine c_put (w' := (cw cy ad (rr p0 (upd (cpn (5 + 8 * N) p0 ab) (5 + 8 * k + 0) (nI kd)) p2) ke tb t1 t2 t3 t4 t5 sb ss sw fd)) (ty := .int) (C := RX3) (T := TX3) (N := 8) hx hb hts hin3 tyX3 tyX3_ok nmX3 hown hK hP hS (3 + 10 * 1 + k) (by omega) (cE_wk (by decide) (by omega)) rfl 0 (by decide) (Or.inr (c_nest hK 0 rfl)) rfl (by decide +kernel) rfl rfl (by show _ < 8; decide) ((cs_W (by decide) (by omega) (by decide)).trans (by rw [rr_up1]; rfl)) dX4_read_84 (fun H locs hP hS => ?_)
                    refine lv_aload_n hx hb dX4_read_87 rfl (lv_at hl 4 rfl) ?_
                    refine c_get (v := .ref (ad (1 + 10 * 1))) (C := RX4) (T := TX4) (N := 7) hx hb hts hin4 hown hK hP (0) (by decide) cE_0 rfl 1 (by decide) (Or.inl (hts (.fieldLink RX4 16 "PennyRoad" "ahead" "LPennyRoad$Road;") (by decide +kernel))) rfl dX4_read_88 ?_
                    refine c_get (v := .ref (ad (2 + 10 * 1))) (C := RX0) (T := TX0) (N := 6) hx hb hts hin0 hown hK hP (1 + 10 * 1) (by decide) (cE_rd (by decide)) rfl 5 (by decide) (Or.inr (c_nest hK 26 rfl)) rfl dX4_read_91 ?_
                    refine lv_iload_n hx hb dX4_read_94 rfl (lv_at hl 6 rfl) ?_
                    refine c_aldW hx hb hK hP 1 (by decide) (by omega) dX4_read_95 ?_
                    refine lv_iload hx hb dX4_read_96 (lv_at hl 0 rfl) ?_
                    refine c_put (w' := (cw cy ad (rr p0 (upd (upd (cpn (5 + 8 * N) p0 ab) (5 + 8 * k + 0) (nI kd)) (5 + 8 * k + 4) (nI t)) p2) ke tb t1 t2 t3 t4 t5 sb ss sw fd)) (ty := .int) (C := RX3) (T := TX3) (N := 8) hx hb hts hin3 tyX3 tyX3_ok nmX3 hown hK hP hS (3 + 10 * 1 + k) (by omega) (cE_wk (by decide) (by omega)) rfl 4 (by decide) (Or.inr (c_nest hK 11 rfl)) rfl (by decide +kernel) rfl rfl (by show _ < 8; decide) ((cs_W (by decide) (by omega) (by decide)).trans (by rw [rr_up1]; rfl)) dX4_read_98 (fun H locs hP hS => ?_)
                    refine lv_aload_n hx hb dX4_read_101 rfl (lv_at hl 4 rfl) ?_
                    refine lv_aload_n hx hb dX4_read_102 rfl (lv_at hl 3 rfl) ?_
                    refine lv_iload_n hx hb dX4_read_103 rfl (lv_at hl 6 rfl) ?_
                    refine wq_V S cK_ok hK hP hS (c_X4_goesBy (by omega) (by omega) hze hz4 ((upd_0 (by omega)).trans ((upd_0 (by omega)).trans ((cpn_0' (j := N)).trans hN))) h8) gX4_read_X4_goesBy i_X4_goesBy rfl (c_rec hK hP 0 (by decide) cE_0 rfl) ⟨Nat.le_of_ble_eq_true rfl, Nat.le_of_ble_eq_true rfl⟩ rfl hl.1 (As := [.ref (ad (34 + 2 * i)), .int (nI k)]) (rest := []) (st1 := [.int (z ((isBkC N k (sw i) z_ 0 (upd (upd (cpn (5 + 8 * N) p0 ab) (5 + 8 * k + 0) (nI kd)) (5 + 8 * k + 4) (nI t))).1 = true))]) rfl rfl (Nat.le_of_ble_eq_true rfl) ⟨Nat.le_of_ble_eq_true rfl, Nat.le_of_ble_eq_true rfl⟩ dX4_read_104 (fun H locs hP hS => ?_)
                    refine lv_top (gb_l (by omega)) ?_
                    have K_1 : ∀ (x_2 : Int32) (H : Heap) (locs : List Loc) (ls : Array Slot), x_2 = (if (isBkC N k (sw i) z_ 0 (upd (upd p0 (5 + 8 * k + 0) (nI kd)) (5 + 8 * k + 4) (nI t))).1 = true then ((cd) + 1) else cd) → va_P D vwCl (cw cy ad (rr p0 ((isBkC N k (sw i) z_ 0 (upd (upd (cpn (5 + 8 * N) p0 ab) (5 + 8 * k + 0) (nI kd)) (5 + 8 * k + 4) (nI t))).2) p2) ke tb t1 t2 t3 t4 t5 sb ss sw fd) H → va_S (cA ad) s0.heap H locs → lv_has ls 7 [(6, .int (nI t)), (5, .int (nI kd)), (4, .int (x_2)), (3, .ref (ad (34 + 2 * i))), (0, .ref (ad 0)), (1, .int (nI i)), (2, .int (nI k))] → W p l e (rmz 5 111) s0 m args below meth c H locs 0 0 Q (F0 m 113 ls []) := by
                      intro x_2 H locs ls ex_2 hP hS hl
                      refine lv_iinc (v := nI (t + 1)) (lv' := [(6, .int (nI (t + 1))), (5, .int (nI kd)), (4, .int (x_2)), (3, .ref (ad (34 + 2 * i))), (0, .ref (ad 0)), (1, .int (nI i)), (2, .int (nI k))]) hx hb dX4_read_113 hl (k := 0) rfl (nI_add _ _) (by decide) rfl (fun ls hl => ?_)
                      refine lv_goto (tgt := 62) hx hb dX4_read_116 (by decide) ?_
                      exact ih_62 (t + 1) _ _ _ _ ls (by omega) (by subst ex_2; exact hG) hP hS hl
                    refine lvz_if_eq (tgt := 113) hx hb dX4_read_107 (by decide) (fun c_107 => ?_) (fun c_107 => ?_)
                    · skip
                      exact K_1 (cd) _ _ ls (by simp only [if_neg c_107]) hP hS hl
                    · skip
                      refine lv_iinc (v := (cd) + 1) (lv' := [(4, .int ((cd) + 1)), (6, .int (nI t)), (5, .int (nI kd)), (3, .ref (ad (34 + 2 * i))), (0, .ref (ad 0)), (1, .int (nI i)), (2, .int (nI k))]) hx hb dX4_read_110 hl (k := 2) rfl rfl (by decide) rfl (fun ls hl => ?_)
                      exact K_1 ((cd) + 1) _ _ ls (by simp only [if_pos c_107]) hP hS (lv_sub hl [1, 2, 0, 3, 4, 5, 6] rfl)
              exact L_62 11 0 cc aa _ _ ls (by omega) hF hP hS hl
        exact L_53 6 0 (nI 0) p1 _ _ ls (by omega) rfl hP hS hl
      · skip
        refine lv_aload_n hx hb dX4_read_41 rfl (lv_at hl 1 rfl) ?_
        refine lv_iconst (v := nI 0) hx hb dX4_read_42 (by decide) ?_
        refine wq_V S cK_ok hK hP hS (c_X4_finding (t := 0) (by decide)) gX4_read_X4_finding i_X4_finding rfl (c_rec hK hP 0 (by decide) cE_0 rfl) ⟨Nat.le_of_ble_eq_true rfl, Nat.le_of_ble_eq_true rfl⟩ rfl hl.1 (As := [.int (nI 0)]) (rest := []) (st1 := [.int ((-1000000001))]) rfl rfl (Nat.le_of_ble_eq_true rfl) ⟨Nat.le_of_ble_eq_true rfl, Nat.le_of_ble_eq_true rfl⟩ dX4_read_43 (fun H locs hP hS => ?_)
        subst hQ
        exact cp_ri hx hb hr hlocks hP hS dX4_read_46 (by first | with_reducible rfl | (simp only [fnd, if_pos c_4, if_neg c_24, if_neg c_38]; done) | (simp only [fnd, hcl_i, hclz, c_4, if_neg c_24, c_38, Bool.false_eq_true, Bool.true_eq_false, and_true, true_and, false_and, and_false, and_self, not_true_eq_false, not_false_eq_true, if_true, if_false, reduceIte, or_false, false_or, true_or, or_true]; done) | (subst_vars; first | with_reducible rfl | (simp only [fnd, if_pos c_4, if_neg c_24, if_neg c_38]; done) | (simp only [fnd, hcl_i, hclz, c_4, if_neg c_24, c_38, Bool.false_eq_true, Bool.true_eq_false, and_true, true_and, false_and, and_false, and_self, not_true_eq_false, not_false_eq_true, if_true, if_false, reduceIte, or_false, false_or, true_or, or_true]; done)) | contradiction | rfl) (by first | with_reducible rfl | (simp only [fnd, if_pos c_4, if_neg c_24, if_neg c_38]; done) | (simp only [fnd, hcl_i, hclz, c_4, if_neg c_24, c_38, Bool.false_eq_true, Bool.true_eq_false, and_true, true_and, false_and, and_false, and_self, not_true_eq_false, not_false_eq_true, if_true, if_false, reduceIte, or_false, false_or, true_or, or_true]; done) | (subst_vars; first | with_reducible rfl | (simp only [fnd, if_pos c_4, if_neg c_24, if_neg c_38]; done) | (simp only [fnd, hcl_i, hclz, c_4, if_neg c_24, c_38, Bool.false_eq_true, Bool.true_eq_false, and_true, true_and, false_and, and_false, and_self, not_true_eq_false, not_false_eq_true, if_true, if_false, reduceIte, or_false, false_or, true_or, or_true]; done)) | contradiction | rfl)
    · skip
      refine lv_aload_n hx hb dX4_read_27 rfl (lv_at hl 1 rfl) ?_
      refine lv_iconst (v := nI 5) hx hb dX4_read_28 (by decide) ?_
      refine wq_V S cK_ok hK hP hS (c_X4_finding (t := 5) (by decide)) gX4_read_X4_finding i_X4_finding rfl (c_rec hK hP 0 (by decide) cE_0 rfl) ⟨Nat.le_of_ble_eq_true rfl, Nat.le_of_ble_eq_true rfl⟩ rfl hl.1 (As := [.int (nI 5)]) (rest := []) (st1 := [.int ((-1000000006))]) rfl rfl (Nat.le_of_ble_eq_true rfl) ⟨Nat.le_of_ble_eq_true rfl, Nat.le_of_ble_eq_true rfl⟩ dX4_read_29 (fun H locs hP hS => ?_)
      subst hQ
      exact cp_ri hx hb hr hlocks hP hS dX4_read_32 (by first | with_reducible rfl | (simp only [fnd, if_pos c_4, if_pos c_24]; done) | (simp only [fnd, hcl_i, c_4, if_pos c_24, Bool.false_eq_true, Bool.true_eq_false, and_true, true_and, false_and, and_false, and_self, not_true_eq_false, not_false_eq_true, if_true, if_false, reduceIte, or_false, false_or, true_or, or_true]; done) | (subst_vars; first | with_reducible rfl | (simp only [fnd, if_pos c_4, if_pos c_24]; done) | (simp only [fnd, hcl_i, c_4, if_pos c_24, Bool.false_eq_true, Bool.true_eq_false, and_true, true_and, false_and, and_false, and_self, not_true_eq_false, not_false_eq_true, if_true, if_false, reduceIte, or_false, false_or, true_or, or_true]; done)) | contradiction | rfl) (by first | with_reducible rfl | (simp only [fnd, if_pos c_4, if_pos c_24]; done) | (simp only [fnd, hcl_i, c_4, if_pos c_24, Bool.false_eq_true, Bool.true_eq_false, and_true, true_and, false_and, and_false, and_self, not_true_eq_false, not_false_eq_true, if_true, if_false, reduceIte, or_false, false_or, true_or, or_true]; done) | (subst_vars; first | with_reducible rfl | (simp only [fnd, if_pos c_4, if_pos c_24]; done) | (simp only [fnd, hcl_i, c_4, if_pos c_24, Bool.false_eq_true, Bool.true_eq_false, and_true, true_and, false_and, and_false, and_self, not_true_eq_false, not_false_eq_true, if_true, if_false, reduceIte, or_false, false_or, true_or, or_true]; done)) | contradiction | rfl)
  · skip
    refine lv_aload_n hx hb dX4_read_7 rfl (lv_at hl 0 rfl) ?_
    refine lv_iconst (v := nI 0) hx hb dX4_read_8 (by decide) ?_
    refine wq_V S cK_ok hK hP hS (c_X4_finding (t := 0) (by decide)) gX4_read_X4_finding i_X4_finding rfl (c_rec hK hP 0 (by decide) cE_0 rfl) ⟨Nat.le_of_ble_eq_true rfl, Nat.le_of_ble_eq_true rfl⟩ rfl hl.1 (As := [.int (nI 0)]) (rest := []) (st1 := [.int ((-1000000001))]) rfl rfl (Nat.le_of_ble_eq_true rfl) ⟨Nat.le_of_ble_eq_true rfl, Nat.le_of_ble_eq_true rfl⟩ dX4_read_9 (fun H locs hP hS => ?_)
    subst hQ
    exact cp_ri hx hb hr hlocks hP hS dX4_read_12 (by first | with_reducible rfl | (simp only [fnd, if_neg c_4]; done) | (simp only [fnd, c_4, Bool.false_eq_true, Bool.true_eq_false, and_true, true_and, false_and, and_false, and_self, not_true_eq_false, not_false_eq_true, if_true, if_false, reduceIte, or_false, false_or, true_or, or_true]; done) | (subst_vars; first | with_reducible rfl | (simp only [fnd, if_neg c_4]; done) | (simp only [fnd, c_4, Bool.false_eq_true, Bool.true_eq_false, and_true, true_and, false_and, and_false, and_self, not_true_eq_false, not_false_eq_true, if_true, if_false, reduceIte, or_false, false_or, true_or, or_true]; done)) | contradiction | rfl) (by first | with_reducible rfl | (simp only [fnd, if_neg c_4]; done) | (simp only [fnd, c_4, Bool.false_eq_true, Bool.true_eq_false, and_true, true_and, false_and, and_false, and_self, not_true_eq_false, not_false_eq_true, if_true, if_false, reduceIte, or_false, false_or, true_or, or_true]; done) | (subst_vars; first | with_reducible rfl | (simp only [fnd, if_neg c_4]; done) | (simp only [fnd, c_4, Bool.false_eq_true, Bool.true_eq_false, and_true, true_and, false_and, and_false, and_self, not_true_eq_false, not_false_eq_true, if_true, if_false, reduceIte, or_false, false_or, true_or, or_true]; done)) | contradiction | rfl)
theorem i_X4_read : ciOk yX4_read cX4_read 7 (some .int) wsX4_read 2 := ⟨⟨_, rfl⟩, by decide +kernel⟩
set_option maxHeartbeats 1000000 in
set_option maxRecDepth 100000 in
theorem c_X4_book {l : Launch} {D : va_G} {cy : Nat → ClassId} {ad : Nat → Nat} {p0 : Nat → Int32} {p1 : Nat → Int32} {p2 : Nat → Int32} {ke : Int32} {tb : Nat → Int32} {t1 : Int32} {t2 : Int32} {t3 : Int32} {t4 : Int32} {t5 : Int32} {sb : Nat → Int32} {ss : Nat → Int32} {sw : Nat → Nat → Int64} {fd : Nat → Int32} {q : Int32} {w : Int32} {N : Nat} (hN : p0 0 = nI N) (h8 : N ≤ 8) (hz : ∀ t, t < 4 → ∃ z : Nat, z ≤ 40 ∧ ss t = nI z) : Met l yX4_book wsX4_book (rmz 4 88) (wPre D (cK D cy ad) (cw cy ad (rr p0 p1 p2) ke tb t1 t2 t3 t4 t5 sb ss sw fd) [.ref (ad 0), .int (q), .int (w)]) (cPub D cy ad (some (.int (if rg 0 3 q then (if sb q.toNatClampNeg = 0 then -1000000006 else if isN N w then ss q.toNatClampNeg else -1000000001) else -1000000001))) p0 p2 ke tb t1 sb ss (if rg 0 3 q then (if sb q.toNatClampNeg = 0 then sw else if isN N w then va_up sw q.toNatClampNeg (bookC N w.toNatClampNeg (sb q.toNatClampNeg) (ss q.toNatClampNeg).toNatClampNeg 0 p0 (sw q.toNatClampNeg)) else sw) else sw) (if rg 0 3 q then (if sb q.toNatClampNeg = 0 then fnd fd 5 else if isN N w then fd else fnd fd 0) else fnd fd 0)) 0 0 (cA ad) := by
  refine wq_entry rfl rfl (Nat.le_of_ble_eq_true rfl) ?_
  intro p e s0 m args below meth c S hr hlocks hK hP ls hl
  have S : CallFix p m c cX4_book 5 s0 args wsX4_book RX4 := S
  obtain ⟨hx, hb, hml, hown, hts⟩ := id S
  have hin4 : ∀ w ∈ wsX40, w ∈ wsX4_book := fun w h => List.mem_cons_of_mem _ (List.mem_append_left _ (List.mem_append_left _ (List.mem_append_left _ (List.mem_append_right _ h))))
  have hin1 : ∀ w ∈ wsX10, w ∈ wsX4_book := fun w h => List.mem_cons_of_mem _ (List.mem_append_left _ (List.mem_append_left _ (List.mem_append_right _ h)))
  have hin0 : ∀ w ∈ wsX00, w ∈ wsX4_book := fun w h => List.mem_cons_of_mem _ (List.mem_append_left _ (List.mem_append_right _ h))
  have hin3 : ∀ w ∈ wsX30, w ∈ wsX4_book := fun w h => List.mem_cons_of_mem _ (List.mem_append_right _ h)
  have hS : va_S (cA ad) s0.heap s0.heap [] := va_S.rf
  have hl : lv_has ls 5 [(0, .ref (ad 0)), (1, .int (q)), (2, .int (w))] := hl
  generalize hQ : MQ below (cPub D cy ad (some (.int (if rg 0 3 q then (if sb q.toNatClampNeg = 0 then -1000000006 else if isN N w then ss q.toNatClampNeg else -1000000001) else -1000000001))) p0 p2 ke tb t1 sb ss (if rg 0 3 q then (if sb q.toNatClampNeg = 0 then sw else if isN N w then va_up sw q.toNatClampNeg (bookC N w.toNatClampNeg (sb q.toNatClampNeg) (ss q.toNatClampNeg).toNatClampNeg 0 p0 (sw q.toNatClampNeg)) else sw) else sw) (if rg 0 3 q then (if sb q.toNatClampNeg = 0 then fnd fd 5 else if isN N w then fd else fnd fd 0) else fnd fd 0)) args s0 0 0 (cA ad) = Q
  refine lv_iload_n hx hb dX4_book_0 rfl (lv_at hl 1 rfl) ?_
  refine sq_S S (c_X4_isSheet) gX4_book_X4_isSheet i_X4_isSheet ⟨Nat.le_of_ble_eq_true rfl, Nat.le_of_ble_eq_true rfl⟩ rfl hl.1 (As := [.int (q)]) (rest := []) (st1 := [.int (z (rg 0 3 (q)))]) rfl rfl (Nat.le_of_ble_eq_true rfl) ⟨Nat.le_of_ble_eq_true rfl, Nat.le_of_ble_eq_true rfl⟩ dX4_book_1 ?_
  refine lvz_if_ne (tgt := 13) hx hb dX4_book_4 (by decide) (fun c_4 => ?_) (fun c_4 => ?_)
  · skip
    obtain ⟨i, h_i, h_i2, rfl⟩ := rg_ix (a := 0) (b := 3) (by decide) c_4
    have hcl_i : (nI i).toNatClampNeg = i := nI_clamp (by omega)
    refine lv_aload_n hx hb dX4_book_13 rfl (lv_at hl 0 rfl) ?_
    refine c_get (v := .ref (ad 33)) (C := RX4) (T := TX4) (N := 7) hx hb hts hin4 hown hK hP (0) (by decide) cE_0 rfl 5 (by decide) (Or.inl (hts (.fieldLink RX4 35 "PennyRoad" "sheets" "[LPennyRoad$Sheet;") (by decide +kernel))) rfl dX4_book_14 ?_
    refine lv_iload_n hx hb dX4_book_17 rfl (lv_at hl 1 rfl) ?_
    refine c_aldS hx hb hK hP (by omega) dX4_book_18 ?_
    refine lv_astore_n (lv' := [(3, .ref (ad (34 + 2 * i))), (0, .ref (ad 0)), (1, .int (nI i)), (2, .int (w))]) hx hb dX4_book_19 rfl hl (by decide) rfl (fun ls hl => ?_)
    refine lv_aload_n hx hb dX4_book_20 rfl (lv_at hl 0 rfl) ?_
    refine wq_VN (host := "PennyRoad") S cK_ok hK hP hS (c_X1_isMissing (by omega)) gX4_book_X1_isMissing_n183 i_X1_isMissing (c_nest hK 55 rfl) (hts (.initialized RX1) (by decide +kernel)) (hts (.instanceMethod yX1_isMissing) (by decide +kernel)) (hts (.selects RX1 yX1_isMissing yX1_isMissing) (by decide +kernel)) (c_rec hK hP (34 + 2 * i) (by omega) (cE_sh (by omega)) rfl) ⟨Nat.le_of_ble_eq_true rfl, Nat.le_of_ble_eq_true rfl⟩ rfl hl.1 (As := []) (rest := []) (st1 := [.int (z (sb i = 0))]) rfl rfl (Nat.le_of_ble_eq_true rfl) ⟨Nat.le_of_ble_eq_true rfl, Nat.le_of_ble_eq_true rfl⟩ dX4_book_21 (fun H locs hP hS => ?_)
    refine lvz_if_eq (tgt := 33) hx hb dX4_book_24 (by decide) (fun c_24 => ?_) (fun c_24 => ?_)
    · skip
      obtain ⟨z_, hz4, hze⟩ := hz i (by omega)
      have hclz : (ss i).toNatClampNeg = z_ := by rw [hze]; exact nI_clamp (by omega)
      refine lv_aload_n hx hb dX4_book_33 rfl (lv_at hl 1 rfl) ?_
      refine lv_iload_n hx hb dX4_book_34 rfl (lv_at hl 3 rfl) ?_
      refine wq_V S cK_ok hK hP hS (c_X4_isThere hN h8) gX4_book_X4_isThere i_X4_isThere rfl (c_rec hK hP 0 (by decide) cE_0 rfl) ⟨Nat.le_of_ble_eq_true rfl, Nat.le_of_ble_eq_true rfl⟩ rfl hl.1 (As := [.int (w)]) (rest := []) (st1 := [.int (z (isN N (w)))]) rfl rfl (Nat.le_of_ble_eq_true rfl) ⟨Nat.le_of_ble_eq_true rfl, Nat.le_of_ble_eq_true rfl⟩ dX4_book_35 (fun H locs hP hS => ?_)
      refine lvz_if_ne (tgt := 47) hx hb dX4_book_38 (by decide) (fun c_38 => ?_) (fun c_38 => ?_)
      · skip
        obtain ⟨k, h_k, rfl⟩ := isN_ix h8 c_38
        have hcl_k : (nI k).toNatClampNeg = k := nI_clamp (by omega)
        refine lv_aload_n hx hb dX4_book_47 rfl (lv_at hl 1 rfl) ?_
        refine wq_V S cK_ok hK hP hS (c_X4_lookAhead hN h8) gX4_book_X4_lookAhead i_X4_lookAhead rfl (c_rec hK hP 0 (by decide) cE_0 rfl) ⟨Nat.le_of_ble_eq_true rfl, Nat.le_of_ble_eq_true rfl⟩ rfl hl.1 (As := []) (rest := []) (st1 := []) rfl rfl (Nat.le_of_ble_eq_true rfl) ⟨Nat.le_of_ble_eq_true rfl, Nat.le_of_ble_eq_true rfl⟩ dX4_book_48 (fun H locs hP hS => ?_)
        refine lv_iconst (v := nI 0) hx hb dX4_book_51 (by decide) ?_
        refine lv_istore (lv' := [(4, .int (nI 0)), (3, .ref (ad (34 + 2 * i))), (0, .ref (ad 0)), (1, .int (nI i)), (2, .int (nI k))]) hx hb dX4_book_52 hl (by decide) rfl (fun ls hl => ?_)
        have L_54 : ∀ (n : Nat) (j : Nat) (sz : Nat → Int32) (ff : Nat → Int64) (H : Heap) (locs : List Loc) (ls : Array Slot), (j + n = z_) → (sz 0 = nI N) → (bookC N k (sb i) z_ 0 p0 (sw i) = bookC N k (sb i) n j sz ff) → va_P D vwCl (cw cy ad (rr p0 sz p2) ke tb t1 t2 t3 t4 t5 sb ss (va_up sw i ff) fd) H → va_S (cA ad) s0.heap H locs → lv_has ls 5 [(4, .int (nI j)), (3, .ref (ad (34 + 2 * i))), (0, .ref (ad 0)), (1, .int (nI i)), (2, .int (nI k))] → W p l e (rmz 4 88) s0 m args below meth c H locs 0 0 Q (F0 m 54 ls []) := by
          intro n
          induction n with
          | zero =>
            intro j sz ff H locs ls hj hm hF hP hS hl
            refine lv_iload hx hb dX4_book_54 (lv_at hl 0 rfl) ?_
            refine lv_aload_n hx hb dX4_book_56 rfl (lv_at hl 1 rfl) ?_
            refine c_get (v := .int (ss i)) (C := RX1) (T := TX1) (N := 3) hx hb hts hin1 hown hK hP (34 + 2 * i) (by omega) (cE_sh (by omega)) rfl 2 (by decide) (Or.inr (c_nest hK 30 rfl)) rfl dX4_book_57 ?_
            refine lv_top hze ?_
            refine lvn_icmp_ge (tgt := 95) hx hb dX4_book_60 (by decide) (by omega) (by omega) (fun c_60 => ?_) (fun c_60 => ?_)
            · skip
              have hF : bookC N k (sb i) z_ 0 p0 (sw i) = ff := hF
              subst hF
              refine lv_aload_n hx hb dX4_book_95 rfl (lv_at hl 1 rfl) ?_
              refine c_get (v := .int (ss i)) (C := RX1) (T := TX1) (N := 3) hx hb hts hin1 hown hK hP (34 + 2 * i) (by omega) (cE_sh (by omega)) rfl 2 (by decide) (Or.inr (c_nest hK 30 rfl)) rfl dX4_book_96 ?_
              refine lv_top hze ?_
              subst hQ
              exact cp_ri hx hb hr hlocks hP hS dX4_book_99 (by first | (simp only [fnd, hcl_i, hclz, hcl_k, c_4, if_neg c_24, c_38, if_pos c_60, Bool.false_eq_true, Bool.true_eq_false, and_true, true_and, false_and, and_false, and_self, not_true_eq_false, not_false_eq_true, if_true, if_false, reduceIte, or_false, false_or, true_or, or_true]; done) | (subst_vars; simp only [fnd, hcl_i, hclz, hcl_k, c_4, if_neg c_24, c_38, if_pos c_60, Bool.false_eq_true, Bool.true_eq_false, and_true, true_and, false_and, and_false, and_self, not_true_eq_false, not_false_eq_true, if_true, if_false, reduceIte, or_false, false_or, true_or, or_true]; done) | (simp only [fnd, hcl_i, hclz, hcl_k, c_4, if_neg c_24, c_38, if_pos c_60, Bool.false_eq_true, Bool.true_eq_false, and_true, true_and, false_and, and_false, and_self, not_true_eq_false, not_false_eq_true, if_true, if_false, reduceIte, or_false, false_or, true_or, or_true, hze]; done)) (by first | (simp only [fnd, hcl_i, hclz, hcl_k, c_4, if_neg c_24, c_38, if_pos c_60, Bool.false_eq_true, Bool.true_eq_false, and_true, true_and, false_and, and_false, and_self, not_true_eq_false, not_false_eq_true, if_true, if_false, reduceIte, or_false, false_or, true_or, or_true]; done) | (subst_vars; simp only [fnd, hcl_i, hclz, hcl_k, c_4, if_neg c_24, c_38, if_pos c_60, Bool.false_eq_true, Bool.true_eq_false, and_true, true_and, false_and, and_false, and_self, not_true_eq_false, not_false_eq_true, if_true, if_false, reduceIte, or_false, false_or, true_or, or_true]; done) | (simp only [fnd, hcl_i, hclz, hcl_k, c_4, if_neg c_24, c_38, if_pos c_60, Bool.false_eq_true, Bool.true_eq_false, and_true, true_and, false_and, and_false, and_self, not_true_eq_false, not_false_eq_true, if_true, if_false, reduceIte, or_false, false_or, true_or, or_true, hze]; done))
            · skip
              exfalso; omega
          | succ n ih_54 =>
            intro j sz ff H locs ls hj hm hF hP hS hl
            refine lv_iload hx hb dX4_book_54 (lv_at hl 0 rfl) ?_
            refine lv_aload_n hx hb dX4_book_56 rfl (lv_at hl 1 rfl) ?_
            refine c_get (v := .int (ss i)) (C := RX1) (T := TX1) (N := 3) hx hb hts hin1 hown hK hP (34 + 2 * i) (by omega) (cE_sh (by omega)) rfl 2 (by decide) (Or.inr (c_nest hK 30 rfl)) rfl dX4_book_57 ?_
            refine lv_top hze ?_
            refine lvn_icmp_ge (tgt := 95) hx hb dX4_book_60 (by decide) (by omega) (by omega) (fun c_60 => ?_) (fun c_60 => ?_)
            · skip
              exfalso; omega
            · skip
              refine lv_aload_n hx hb dX4_book_63 rfl (lv_at hl 1 rfl) ?_
              refine lv_iload hx hb dX4_book_64 (lv_at hl 0 rfl) ?_
              refine lv_aload_n hx hb dX4_book_66 rfl (lv_at hl 2 rfl) ?_
              refine c_get (v := .ref (ad (1 + 10 * 1))) (C := RX4) (T := TX4) (N := 7) hx hb hts hin4 hown hK hP (0) (by decide) cE_0 rfl 1 (by decide) (Or.inl (hts (.fieldLink RX4 16 "PennyRoad" "ahead" "LPennyRoad$Road;") (by decide +kernel))) rfl dX4_book_67 ?_
              refine c_get (v := .ref (ad (2 + 10 * 1))) (C := RX0) (T := TX0) (N := 6) hx hb hts hin0 hown hK hP (1 + 10 * 1) (by decide) (cE_rd (by decide)) rfl 5 (by decide) (Or.inr (c_nest hK 26 rfl)) rfl dX4_book_70 ?_
              refine lv_iload_n hx hb dX4_book_73 rfl (lv_at hl 4 rfl) ?_
              refine c_aldW hx hb hK hP 1 (by decide) (by omega) dX4_book_74 ?_
              refine c_get (v := .int (sz (5 + 8 * k + 6))) (C := RX3) (T := TX3) (N := 8) hx hb hts hin3 hown hK hP (3 + 10 * 1 + k) (by omega) (cE_wk (by decide) (by omega)) rfl 6 (by decide) (Or.inr (c_nest hK 15 rfl)) rfl dX4_book_75 ?_
              refine lv_i2l (v := (sz (5 + 8 * k + 6)).toInt64) hx hb dX4_book_78 rfl ?_
              refine wq_VN (host := "PennyRoad") S cK_ok hK hP hS (c_X1_put (by omega) (by omega)) gX4_book_X1_put_n190 i_X1_put (c_nest hK 56 rfl) (hts (.initialized RX1) (by decide +kernel)) (hts (.instanceMethod yX1_put) (by decide +kernel)) (hts (.selects RX1 yX1_put yX1_put) (by decide +kernel)) (c_rec hK hP (34 + 2 * i) (by omega) (cE_sh (by omega)) rfl) ⟨Nat.le_of_ble_eq_true rfl, Nat.le_of_ble_eq_true rfl⟩ rfl hl.1 (As := [.int (nI j), .long ((sz (5 + 8 * k + 6)).toInt64)]) (rest := []) (st1 := []) rfl rfl (Nat.le_of_ble_eq_true rfl) ⟨Nat.le_of_ble_eq_true rfl, Nat.le_of_ble_eq_true rfl⟩ dX4_book_79 (fun H locs hP hS => ?_)
              refine lv_aload_n hx hb dX4_book_82 rfl (lv_at hl 2 rfl) ?_
              refine c_get (v := .ref (ad (1 + 10 * 1))) (C := RX4) (T := TX4) (N := 7) hx hb hts hin4 hown hK hP (0) (by decide) cE_0 rfl 1 (by decide) (Or.inl (hts (.fieldLink RX4 16 "PennyRoad" "ahead" "LPennyRoad$Road;") (by decide +kernel))) rfl dX4_book_83 ?_
              refine wq_VN (host := "PennyRoad") S cK_ok hK hP hS (c_X0_passHour_r1 hm h8) gX4_book_X0_passHour_n136 i_X0_passHour (c_nest hK 49 rfl) (hts (.initialized RX0) (by decide +kernel)) (hts (.instanceMethod yX0_passHour) (by decide +kernel)) (hts (.selects RX0 yX0_passHour yX0_passHour) (by decide +kernel)) (c_rec hK hP (1 + 10 * 1) (by decide) (cE_rd (by decide)) rfl) ⟨Nat.le_of_ble_eq_true rfl, Nat.le_of_ble_eq_true rfl⟩ rfl hl.1 (As := []) (rest := []) (st1 := []) rfl rfl (Nat.le_of_ble_eq_true rfl) ⟨Nat.le_of_ble_eq_true rfl, Nat.le_of_ble_eq_true rfl⟩ dX4_book_86 (fun H locs hP hS => ?_)
              refine lv_iinc (v := nI (j + 1)) (lv' := [(4, .int (nI (j + 1))), (3, .ref (ad (34 + 2 * i))), (0, .ref (ad 0)), (1, .int (nI i)), (2, .int (nI k))]) hx hb dX4_book_89 hl (k := 0) rfl (nI_add _ _) (by decide) rfl (fun ls hl => ?_)
              refine lv_goto (tgt := 54) hx hb dX4_book_92 (by decide) ?_
              exact ih_54 (j + 1) _ _ _ _ ls (by omega) (hourF_0.trans hm) hF (by rw [vaup_2] at hP; exact hP) hS hl
        exact L_54 z_ 0 (cpn (5 + 8 * N) p0 p1) (sw i) _ _ ls (by omega) ((cpn_0' (j := N)).trans hN) (book_l (by omega)).symm (by rw [vaup_id]; exact hP) hS hl
      · skip
        refine lv_aload_n hx hb dX4_book_41 rfl (lv_at hl 1 rfl) ?_
        refine lv_iconst (v := nI 0) hx hb dX4_book_42 (by decide) ?_
        refine wq_V S cK_ok hK hP hS (c_X4_finding (t := 0) (by decide)) gX4_book_X4_finding i_X4_finding rfl (c_rec hK hP 0 (by decide) cE_0 rfl) ⟨Nat.le_of_ble_eq_true rfl, Nat.le_of_ble_eq_true rfl⟩ rfl hl.1 (As := [.int (nI 0)]) (rest := []) (st1 := [.int ((-1000000001))]) rfl rfl (Nat.le_of_ble_eq_true rfl) ⟨Nat.le_of_ble_eq_true rfl, Nat.le_of_ble_eq_true rfl⟩ dX4_book_43 (fun H locs hP hS => ?_)
        subst hQ
        exact cp_ri hx hb hr hlocks hP hS dX4_book_46 (by first | (simp only [fnd, hcl_i, hclz, c_4, if_neg c_24, c_38, Bool.false_eq_true, Bool.true_eq_false, and_true, true_and, false_and, and_false, and_self, not_true_eq_false, not_false_eq_true, if_true, if_false, reduceIte, or_false, false_or, true_or, or_true]; done) | (subst_vars; simp only [fnd, hcl_i, hclz, c_4, if_neg c_24, c_38, Bool.false_eq_true, Bool.true_eq_false, and_true, true_and, false_and, and_false, and_self, not_true_eq_false, not_false_eq_true, if_true, if_false, reduceIte, or_false, false_or, true_or, or_true]; done) | (simp only [fnd, hcl_i, hclz, c_4, if_neg c_24, c_38, Bool.false_eq_true, Bool.true_eq_false, and_true, true_and, false_and, and_false, and_self, not_true_eq_false, not_false_eq_true, if_true, if_false, reduceIte, or_false, false_or, true_or, or_true, hze]; done)) (by first | (simp only [fnd, hcl_i, hclz, c_4, if_neg c_24, c_38, Bool.false_eq_true, Bool.true_eq_false, and_true, true_and, false_and, and_false, and_self, not_true_eq_false, not_false_eq_true, if_true, if_false, reduceIte, or_false, false_or, true_or, or_true]; done) | (subst_vars; simp only [fnd, hcl_i, hclz, c_4, if_neg c_24, c_38, Bool.false_eq_true, Bool.true_eq_false, and_true, true_and, false_and, and_false, and_self, not_true_eq_false, not_false_eq_true, if_true, if_false, reduceIte, or_false, false_or, true_or, or_true]; done) | (simp only [fnd, hcl_i, hclz, c_4, if_neg c_24, c_38, Bool.false_eq_true, Bool.true_eq_false, and_true, true_and, false_and, and_false, and_self, not_true_eq_false, not_false_eq_true, if_true, if_false, reduceIte, or_false, false_or, true_or, or_true, hze]; done))
    · skip
      refine lv_aload_n hx hb dX4_book_27 rfl (lv_at hl 1 rfl) ?_
      refine lv_iconst (v := nI 5) hx hb dX4_book_28 (by decide) ?_
      refine wq_V S cK_ok hK hP hS (c_X4_finding (t := 5) (by decide)) gX4_book_X4_finding i_X4_finding rfl (c_rec hK hP 0 (by decide) cE_0 rfl) ⟨Nat.le_of_ble_eq_true rfl, Nat.le_of_ble_eq_true rfl⟩ rfl hl.1 (As := [.int (nI 5)]) (rest := []) (st1 := [.int ((-1000000006))]) rfl rfl (Nat.le_of_ble_eq_true rfl) ⟨Nat.le_of_ble_eq_true rfl, Nat.le_of_ble_eq_true rfl⟩ dX4_book_29 (fun H locs hP hS => ?_)
      subst hQ
      exact cp_ri hx hb hr hlocks hP hS dX4_book_32 (by first | (simp only [fnd, hcl_i, c_4, if_pos c_24, Bool.false_eq_true, Bool.true_eq_false, and_true, true_and, false_and, and_false, and_self, not_true_eq_false, not_false_eq_true, if_true, if_false, reduceIte, or_false, false_or, true_or, or_true]; done) | (subst_vars; simp only [fnd, hcl_i, c_4, if_pos c_24, Bool.false_eq_true, Bool.true_eq_false, and_true, true_and, false_and, and_false, and_self, not_true_eq_false, not_false_eq_true, if_true, if_false, reduceIte, or_false, false_or, true_or, or_true]; done) | (simp only [fnd, hcl_i, c_4, if_pos c_24, Bool.false_eq_true, Bool.true_eq_false, and_true, true_and, false_and, and_false, and_self, not_true_eq_false, not_false_eq_true, if_true, if_false, reduceIte, or_false, false_or, true_or, or_true, hze]; done)) (by first | (simp only [fnd, hcl_i, c_4, if_pos c_24, Bool.false_eq_true, Bool.true_eq_false, and_true, true_and, false_and, and_false, and_self, not_true_eq_false, not_false_eq_true, if_true, if_false, reduceIte, or_false, false_or, true_or, or_true]; done) | (subst_vars; simp only [fnd, hcl_i, c_4, if_pos c_24, Bool.false_eq_true, Bool.true_eq_false, and_true, true_and, false_and, and_false, and_self, not_true_eq_false, not_false_eq_true, if_true, if_false, reduceIte, or_false, false_or, true_or, or_true]; done) | (simp only [fnd, hcl_i, c_4, if_pos c_24, Bool.false_eq_true, Bool.true_eq_false, and_true, true_and, false_and, and_false, and_self, not_true_eq_false, not_false_eq_true, if_true, if_false, reduceIte, or_false, false_or, true_or, or_true, hze]; done))
  · skip
    refine lv_aload_n hx hb dX4_book_7 rfl (lv_at hl 0 rfl) ?_
    refine lv_iconst (v := nI 0) hx hb dX4_book_8 (by decide) ?_
    refine wq_V S cK_ok hK hP hS (c_X4_finding (t := 0) (by decide)) gX4_book_X4_finding i_X4_finding rfl (c_rec hK hP 0 (by decide) cE_0 rfl) ⟨Nat.le_of_ble_eq_true rfl, Nat.le_of_ble_eq_true rfl⟩ rfl hl.1 (As := [.int (nI 0)]) (rest := []) (st1 := [.int ((-1000000001))]) rfl rfl (Nat.le_of_ble_eq_true rfl) ⟨Nat.le_of_ble_eq_true rfl, Nat.le_of_ble_eq_true rfl⟩ dX4_book_9 (fun H locs hP hS => ?_)
    subst hQ
    exact cp_ri hx hb hr hlocks hP hS dX4_book_12 (by first | (simp only [fnd, c_4, Bool.false_eq_true, Bool.true_eq_false, and_true, true_and, false_and, and_false, and_self, not_true_eq_false, not_false_eq_true, if_true, if_false, reduceIte, or_false, false_or, true_or, or_true]; done) | (subst_vars; simp only [fnd, c_4, Bool.false_eq_true, Bool.true_eq_false, and_true, true_and, false_and, and_false, and_self, not_true_eq_false, not_false_eq_true, if_true, if_false, reduceIte, or_false, false_or, true_or, or_true]; done) | (simp only [fnd, c_4, Bool.false_eq_true, Bool.true_eq_false, and_true, true_and, false_and, and_false, and_self, not_true_eq_false, not_false_eq_true, if_true, if_false, reduceIte, or_false, false_or, true_or, or_true, hze]; done)) (by first | (simp only [fnd, c_4, Bool.false_eq_true, Bool.true_eq_false, and_true, true_and, false_and, and_false, and_self, not_true_eq_false, not_false_eq_true, if_true, if_false, reduceIte, or_false, false_or, true_or, or_true]; done) | (subst_vars; simp only [fnd, c_4, Bool.false_eq_true, Bool.true_eq_false, and_true, true_and, false_and, and_false, and_self, not_true_eq_false, not_false_eq_true, if_true, if_false, reduceIte, or_false, false_or, true_or, or_true]; done) | (simp only [fnd, c_4, Bool.false_eq_true, Bool.true_eq_false, and_true, true_and, false_and, and_false, and_self, not_true_eq_false, not_false_eq_true, if_true, if_false, reduceIte, or_false, false_or, true_or, or_true, hze]; done))
theorem i_X4_book : ciOk yX4_book cX4_book 5 (some .int) wsX4_book 2 := ⟨⟨_, rfl⟩, by decide +kernel⟩
set_option maxHeartbeats 1000000 in
set_option maxRecDepth 100000 in
theorem c_X4_lays {l : Launch} {D : va_G} {cy : Nat → ClassId} {ad : Nat → Nat} {p0 : Nat → Int32} {p1 : Nat → Int32} {p2 : Nat → Int32} {ke : Int32} {tb : Nat → Int32} {t1 : Int32} {t2 : Int32} {t3 : Int32} {t4 : Int32} {t5 : Int32} {sb : Nat → Int32} {ss : Nat → Int32} {sw : Nat → Nat → Int64} {fd : Nat → Int32} {q : Int32} {N : Nat} (hN : p0 0 = nI N) (h8 : N ≤ 8) (hz : ∀ t, t < 4 → ∃ z : Nat, z ≤ 40 ∧ ss t = nI z) : Met l yX4_lays wsX4_lays (rmz 2 42) (wPre D (cK D cy ad) (cw cy ad (rr p0 p1 p2) ke tb t1 t2 t3 t4 t5 sb ss sw fd) [.ref (ad 0), .int (q)]) (cPub D cy ad (some (.int (if rg 0 3 q then (if sb q.toNatClampNeg = 0 then -1000000006 else (laysC (sw q.toNatClampNeg) (min (ss q.toNatClampNeg).toNatClampNeg N) 0 p0 (nI 0)).2) else -1000000001))) (if rg 0 3 q then (if sb q.toNatClampNeg = 0 then p0 else (laysC (sw q.toNatClampNeg) (min (ss q.toNatClampNeg).toNatClampNeg N) 0 p0 (nI 0)).1) else p0) p2 ke tb t1 sb ss sw (if rg 0 3 q then (if sb q.toNatClampNeg = 0 then fnd fd 5 else fd) else fnd fd 0)) 0 0 (cA ad) := by
  refine wq_entry rfl rfl (Nat.le_of_ble_eq_true rfl) ?_
  intro p e s0 m args below meth c S hr hlocks hK hP ls hl
  have S : CallFix p m c cX4_lays 7 s0 args wsX4_lays RX4 := S
  obtain ⟨hx, hb, hml, hown, hts⟩ := id S
  have hin4 : ∀ w ∈ wsX40, w ∈ wsX4_lays := fun w h => List.mem_cons_of_mem _ (List.mem_append_left _ (List.mem_append_left _ (List.mem_append_left _ (List.mem_append_right _ h))))
  have hin1 : ∀ w ∈ wsX10, w ∈ wsX4_lays := fun w h => List.mem_cons_of_mem _ (List.mem_append_left _ (List.mem_append_left _ (List.mem_append_right _ h)))
  have hin0 : ∀ w ∈ wsX00, w ∈ wsX4_lays := fun w h => List.mem_cons_of_mem _ (List.mem_append_left _ (List.mem_append_right _ h))
  have hin3 : ∀ w ∈ wsX30, w ∈ wsX4_lays := fun w h => List.mem_cons_of_mem _ (List.mem_append_right _ h)
  have hS : va_S (cA ad) s0.heap s0.heap [] := va_S.rf
  have hl : lv_has ls 7 [(0, .ref (ad 0)), (1, .int (q))] := hl
  generalize hQ : MQ below (cPub D cy ad (some (.int (if rg 0 3 q then (if sb q.toNatClampNeg = 0 then -1000000006 else (laysC (sw q.toNatClampNeg) (min (ss q.toNatClampNeg).toNatClampNeg N) 0 p0 (nI 0)).2) else -1000000001))) (if rg 0 3 q then (if sb q.toNatClampNeg = 0 then p0 else (laysC (sw q.toNatClampNeg) (min (ss q.toNatClampNeg).toNatClampNeg N) 0 p0 (nI 0)).1) else p0) p2 ke tb t1 sb ss sw (if rg 0 3 q then (if sb q.toNatClampNeg = 0 then fnd fd 5 else fd) else fnd fd 0)) args s0 0 0 (cA ad) = Q
  refine lv_iload_n hx hb dX4_lays_0 rfl (lv_at hl 1 rfl) ?_
  refine sq_S S (c_X4_isSheet) gX4_lays_X4_isSheet i_X4_isSheet ⟨Nat.le_of_ble_eq_true rfl, Nat.le_of_ble_eq_true rfl⟩ rfl hl.1 (As := [.int (q)]) (rest := []) (st1 := [.int (z (rg 0 3 (q)))]) rfl rfl (Nat.le_of_ble_eq_true rfl) ⟨Nat.le_of_ble_eq_true rfl, Nat.le_of_ble_eq_true rfl⟩ dX4_lays_1 ?_
  refine lvz_if_ne (tgt := 13) hx hb dX4_lays_4 (by decide) (fun c_4 => ?_) (fun c_4 => ?_)
  · skip
    obtain ⟨i, h_i, h_i2, rfl⟩ := rg_ix (a := 0) (b := 3) (by decide) c_4
    have hcl_i : (nI i).toNatClampNeg = i := nI_clamp (by omega)
    refine lv_aload_n hx hb dX4_lays_13 rfl (lv_at hl 0 rfl) ?_
    refine c_get (v := .ref (ad 33)) (C := RX4) (T := TX4) (N := 7) hx hb hts hin4 hown hK hP (0) (by decide) cE_0 rfl 5 (by decide) (Or.inl (hts (.fieldLink RX4 35 "PennyRoad" "sheets" "[LPennyRoad$Sheet;") (by decide +kernel))) rfl dX4_lays_14 ?_
    refine lv_iload_n hx hb dX4_lays_17 rfl (lv_at hl 1 rfl) ?_
    refine c_aldS hx hb hK hP (by omega) dX4_lays_18 ?_
    refine lv_astore_n (lv' := [(2, .ref (ad (34 + 2 * i))), (0, .ref (ad 0)), (1, .int (nI i))]) hx hb dX4_lays_19 rfl hl (by decide) rfl (fun ls hl => ?_)
    refine lv_aload_n hx hb dX4_lays_20 rfl (lv_at hl 0 rfl) ?_
    refine wq_VN (host := "PennyRoad") S cK_ok hK hP hS (c_X1_isMissing (by omega)) gX4_lays_X1_isMissing_n183 i_X1_isMissing (c_nest hK 55 rfl) (hts (.initialized RX1) (by decide +kernel)) (hts (.instanceMethod yX1_isMissing) (by decide +kernel)) (hts (.selects RX1 yX1_isMissing yX1_isMissing) (by decide +kernel)) (c_rec hK hP (34 + 2 * i) (by omega) (cE_sh (by omega)) rfl) ⟨Nat.le_of_ble_eq_true rfl, Nat.le_of_ble_eq_true rfl⟩ rfl hl.1 (As := []) (rest := []) (st1 := [.int (z (sb i = 0))]) rfl rfl (Nat.le_of_ble_eq_true rfl) ⟨Nat.le_of_ble_eq_true rfl, Nat.le_of_ble_eq_true rfl⟩ dX4_lays_21 (fun H locs hP hS => ?_)
    refine lvz_if_eq (tgt := 33) hx hb dX4_lays_24 (by decide) (fun c_24 => ?_) (fun c_24 => ?_)
    · skip
      obtain ⟨z_, hz4, hze⟩ := hz i (by omega)
      have hclz : (ss i).toNatClampNeg = z_ := by rw [hze]; exact nI_clamp (by omega)
      refine lv_iconst (v := nI 0) hx hb dX4_lays_33 (by decide) ?_
      refine lv_istore_n (lv' := [(3, .int (nI 0)), (2, .ref (ad (34 + 2 * i))), (0, .ref (ad 0)), (1, .int (nI i))]) hx hb dX4_lays_34 rfl hl (by decide) rfl (fun ls hl => ?_)
      refine lv_iconst (v := nI 0) hx hb dX4_lays_35 (by decide) ?_
      refine lv_istore (lv' := [(4, .int (nI 0)), (3, .int (nI 0)), (2, .ref (ad (34 + 2 * i))), (0, .ref (ad 0)), (1, .int (nI i))]) hx hb dX4_lays_36 hl (by decide) rfl (fun ls hl => ?_)
      have L_38 : ∀ (n : Nat) (j : Nat) (sz : Nat → Int32) (cc : Int32) (H : Heap) (locs : List Loc) (ls : Array Slot), (j + n = min z_ N) → (sz 0 = nI N) → (laysC (sw i) (min z_ N) 0 p0 (nI 0) = laysC (sw i) n j sz cc) → va_P D vwCl (cw cy ad (rr sz p1 p2) ke tb t1 t2 t3 t4 t5 sb ss sw fd) H → va_S (cA ad) s0.heap H locs → lv_has ls 7 [(4, .int (nI j)), (3, .int (cc)), (2, .ref (ad (34 + 2 * i))), (0, .ref (ad 0)), (1, .int (nI i))] → W p l e (rmz 2 42) s0 m args below meth c H locs 0 0 Q (F0 m 38 ls []) := by
        intro n
        induction n with
        | zero =>
          intro j sz cc H locs ls hj hm hF hP hS hl
          refine lv_iload hx hb dX4_lays_38 (lv_at hl 0 rfl) ?_
          refine lv_aload_n hx hb dX4_lays_40 rfl (lv_at hl 2 rfl) ?_
          refine c_get (v := .int (ss i)) (C := RX1) (T := TX1) (N := 3) hx hb hts hin1 hown hK hP (34 + 2 * i) (by omega) (cE_sh (by omega)) rfl 2 (by decide) (Or.inr (c_nest hK 30 rfl)) rfl dX4_lays_41 ?_
          refine lv_top hze ?_
          refine lvn_icmp_ge (tgt := 109) hx hb dX4_lays_44 (by decide) (by omega) (by omega) (fun c_44 => ?_) (fun c_44 => ?_)
          · skip
            have hE : laysC (sw i) (min z_ N) 0 p0 (nI 0) = (sz, cc) := by
              first | exact hF | (have e9 : n = 0 := by omega
                                  subst e9
                                  exact hF)
            refine lv_iload_n hx hb dX4_lays_109 rfl (lv_at hl 1 rfl) ?_
            subst hQ
            exact cp_ri hx hb hr hlocks hP hS dX4_lays_110 (by first | with_reducible rfl | (simp only [fnd, if_pos c_4, if_neg c_24, if_pos c_44]; done) | (simp only [fnd, hcl_i, hclz, hE, c_4, if_neg c_24, if_pos c_44, Bool.false_eq_true, Bool.true_eq_false, and_true, true_and, false_and, and_false, and_self, not_true_eq_false, not_false_eq_true, if_true, if_false, reduceIte, or_false, false_or, true_or, or_true]; done) | (subst_vars; first | with_reducible rfl | (simp only [fnd, if_pos c_4, if_neg c_24, if_pos c_44]; done) | (simp only [fnd, hcl_i, hclz, hE, c_4, if_neg c_24, if_pos c_44, Bool.false_eq_true, Bool.true_eq_false, and_true, true_and, false_and, and_false, and_self, not_true_eq_false, not_false_eq_true, if_true, if_false, reduceIte, or_false, false_or, true_or, or_true]; done)) | contradiction | rfl) (by first | with_reducible rfl | (simp only [fnd, if_pos c_4, if_neg c_24, if_pos c_44]; done) | (simp only [fnd, hcl_i, hclz, hE, c_4, if_neg c_24, if_pos c_44, Bool.false_eq_true, Bool.true_eq_false, and_true, true_and, false_and, and_false, and_self, not_true_eq_false, not_false_eq_true, if_true, if_false, reduceIte, or_false, false_or, true_or, or_true]; done) | (subst_vars; first | with_reducible rfl | (simp only [fnd, if_pos c_4, if_neg c_24, if_pos c_44]; done) | (simp only [fnd, hcl_i, hclz, hE, c_4, if_neg c_24, if_pos c_44, Bool.false_eq_true, Bool.true_eq_false, and_true, true_and, false_and, and_false, and_self, not_true_eq_false, not_false_eq_true, if_true, if_false, reduceIte, or_false, false_or, true_or, or_true]; done)) | contradiction | rfl)
          · skip
            refine lv_iload hx hb dX4_lays_47 (lv_at hl 0 rfl) ?_
            refine lv_aload_n hx hb dX4_lays_49 rfl (lv_at hl 3 rfl) ?_
            refine c_get (v := .ref (ad (1 + 10 * 0))) (C := RX4) (T := TX4) (N := 7) hx hb hts hin4 hown hK hP (0) (by decide) cE_0 rfl 0 (by decide) (Or.inl (hts (.fieldLink RX4 10 "PennyRoad" "present" "LPennyRoad$Road;") (by decide +kernel))) rfl dX4_lays_50 ?_
            refine c_get (v := .int (sz 0)) (C := RX0) (T := TX0) (N := 6) hx hb hts hin0 hown hK hP (1 + 10 * 0) (by decide) (cE_rd (by decide)) rfl 4 (by decide) (Or.inr (c_nest hK 25 rfl)) rfl dX4_lays_53 ?_
            refine lv_top hm ?_
            refine lvn_icmp_ge (tgt := 109) hx hb dX4_lays_56 (by decide) (by omega) (by omega) (fun c_56 => ?_) (fun c_56 => ?_)
            · skip
              have hE : laysC (sw i) (min z_ N) 0 p0 (nI 0) = (sz, cc) := by
                first | exact hF | (have e9 : n = 0 := by omega
                                    subst e9
                                    exact hF)
              refine lv_iload_n hx hb dX4_lays_109 rfl (lv_at hl 1 rfl) ?_
              subst hQ
              exact cp_ri hx hb hr hlocks hP hS dX4_lays_110 (by first | with_reducible rfl | (simp only [fnd, if_pos c_4, if_neg c_24, if_neg c_44, if_pos c_56]; done) | (simp only [fnd, hcl_i, hclz, hE, c_4, if_neg c_24, if_neg c_44, if_pos c_56, Bool.false_eq_true, Bool.true_eq_false, and_true, true_and, false_and, and_false, and_self, not_true_eq_false, not_false_eq_true, if_true, if_false, reduceIte, or_false, false_or, true_or, or_true]; done) | (subst_vars; first | with_reducible rfl | (simp only [fnd, if_pos c_4, if_neg c_24, if_neg c_44, if_pos c_56]; done) | (simp only [fnd, hcl_i, hclz, hE, c_4, if_neg c_24, if_neg c_44, if_pos c_56, Bool.false_eq_true, Bool.true_eq_false, and_true, true_and, false_and, and_false, and_self, not_true_eq_false, not_false_eq_true, if_true, if_false, reduceIte, or_false, false_or, true_or, or_true]; done)) | contradiction | rfl) (by first | with_reducible rfl | (simp only [fnd, if_pos c_4, if_neg c_24, if_neg c_44, if_pos c_56]; done) | (simp only [fnd, hcl_i, hclz, hE, c_4, if_neg c_24, if_neg c_44, if_pos c_56, Bool.false_eq_true, Bool.true_eq_false, and_true, true_and, false_and, and_false, and_self, not_true_eq_false, not_false_eq_true, if_true, if_false, reduceIte, or_false, false_or, true_or, or_true]; done) | (subst_vars; first | with_reducible rfl | (simp only [fnd, if_pos c_4, if_neg c_24, if_neg c_44, if_pos c_56]; done) | (simp only [fnd, hcl_i, hclz, hE, c_4, if_neg c_24, if_neg c_44, if_pos c_56, Bool.false_eq_true, Bool.true_eq_false, and_true, true_and, false_and, and_false, and_self, not_true_eq_false, not_false_eq_true, if_true, if_false, reduceIte, or_false, false_or, true_or, or_true]; done)) | contradiction | rfl)
            · skip
              exfalso; omega
        | succ n ih_38 =>
          intro j sz cc H locs ls hj hm hF hP hS hl
          refine lv_iload hx hb dX4_lays_38 (lv_at hl 0 rfl) ?_
          refine lv_aload_n hx hb dX4_lays_40 rfl (lv_at hl 2 rfl) ?_
          refine c_get (v := .int (ss i)) (C := RX1) (T := TX1) (N := 3) hx hb hts hin1 hown hK hP (34 + 2 * i) (by omega) (cE_sh (by omega)) rfl 2 (by decide) (Or.inr (c_nest hK 30 rfl)) rfl dX4_lays_41 ?_
          refine lv_top hze ?_
          refine lvn_icmp_ge (tgt := 109) hx hb dX4_lays_44 (by decide) (by omega) (by omega) (fun c_44 => ?_) (fun c_44 => ?_)
          · skip
            exfalso; omega
          · skip
            refine lv_iload hx hb dX4_lays_47 (lv_at hl 0 rfl) ?_
            refine lv_aload_n hx hb dX4_lays_49 rfl (lv_at hl 3 rfl) ?_
            refine c_get (v := .ref (ad (1 + 10 * 0))) (C := RX4) (T := TX4) (N := 7) hx hb hts hin4 hown hK hP (0) (by decide) cE_0 rfl 0 (by decide) (Or.inl (hts (.fieldLink RX4 10 "PennyRoad" "present" "LPennyRoad$Road;") (by decide +kernel))) rfl dX4_lays_50 ?_
            refine c_get (v := .int (sz 0)) (C := RX0) (T := TX0) (N := 6) hx hb hts hin0 hown hK hP (1 + 10 * 0) (by decide) (cE_rd (by decide)) rfl 4 (by decide) (Or.inr (c_nest hK 25 rfl)) rfl dX4_lays_53 ?_
            refine lv_top hm ?_
            refine lvn_icmp_ge (tgt := 109) hx hb dX4_lays_56 (by decide) (by omega) (by omega) (fun c_56 => ?_) (fun c_56 => ?_)
            · skip
              exfalso; omega
            · skip
              refine lv_aload_n hx hb dX4_lays_59 rfl (lv_at hl 2 rfl) ?_
              refine c_get (v := .ref (ad (35 + 2 * i))) (C := RX1) (T := TX1) (N := 3) hx hb hts hin1 hown hK hP (34 + 2 * i) (by omega) (cE_sh (by omega)) rfl 0 (by decide) (Or.inr (c_nest hK 28 rfl)) rfl dX4_lays_60 ?_
              refine lv_iload hx hb dX4_lays_63 (lv_at hl 0 rfl) ?_
              refine c_aldL hx hb hK hP i (by omega) (by omega) dX4_lays_65 ?_
              refine lv_lstore (lv' := [(5, .long (sw i j)), (4, .int (nI j)), (3, .int (cc)), (2, .ref (ad (34 + 2 * i))), (0, .ref (ad 0)), (1, .int (nI i))]) hx hb dX4_lays_66 hl (by decide) rfl (fun ls hl => ?_)
              refine lv_lload hx hb dX4_lays_68 (lv_at hl 0 rfl) ?_
              refine lv_lconst (v := 0) hx hb dX4_lays_70 (by decide) ?_
              refine W.lcmp hx hb dX4_lays_71 ?_
              refine lv_if_lt (tgt := 103) hx hb dX4_lays_72 (by decide) (fun c_72 => ?_) (fun c_72 => ?_)
              · skip
                rw [lg_cmp_lt] at c_72
                refine lv_iinc (v := nI (j + 1)) (lv' := [(4, .int (nI (j + 1))), (5, .long (sw i j)), (3, .int (cc)), (2, .ref (ad (34 + 2 * i))), (0, .ref (ad 0)), (1, .int (nI i))]) hx hb dX4_lays_103 hl (k := 1) rfl (nI_add _ _) (by decide) rfl (fun ls hl => ?_)
                refine lv_goto (tgt := 38) hx hb dX4_lays_106 (by decide) ?_
                exact ih_38 (j + 1) _ _ _ _ ls (by omega) hm (hF.trans (if_neg (fun h9 => absurd c_72 (Int64.not_lt.mpr h9.1)))) hP hS (lv_sub hl [0, 2, 3, 4, 5] rfl)
              · skip
                rw [lg_cmp_lt] at c_72
                refine lv_lload hx hb dX4_lays_75 (lv_at hl 0 rfl) ?_
                refine lv_ldc2 (v := 9) hx hb hown (hts (.constantLong RX4 206 (9)) (by decide +kernel)) dX4_lays_77 ?_
                refine W.lcmp hx hb dX4_lays_80 ?_
                refine lv_if_gt (tgt := 103) hx hb dX4_lays_81 (by decide) (fun c_81 => ?_) (fun c_81 => ?_)
                · skip
                  rw [lg_cmp_gt] at c_81
                  refine lv_iinc (v := nI (j + 1)) (lv' := [(4, .int (nI (j + 1))), (5, .long (sw i j)), (3, .int (cc)), (2, .ref (ad (34 + 2 * i))), (0, .ref (ad 0)), (1, .int (nI i))]) hx hb dX4_lays_103 hl (k := 1) rfl (nI_add _ _) (by decide) rfl (fun ls hl => ?_)
                  refine lv_goto (tgt := 38) hx hb dX4_lays_106 (by decide) ?_
                  exact ih_38 (j + 1) _ _ _ _ ls (by omega) hm (hF.trans (if_neg (fun h9 => absurd c_81 (Int64.not_lt.mpr h9.2)))) hP hS (lv_sub hl [0, 2, 3, 4, 5] rfl)
                · skip
                  rw [lg_cmp_gt] at c_81
                  refine lv_aload_n hx hb dX4_lays_84 rfl (lv_at hl 4 rfl) ?_
                  refine c_get (v := .ref (ad (1 + 10 * 0))) (C := RX4) (T := TX4) (N := 7) hx hb hts hin4 hown hK hP (0) (by decide) cE_0 rfl 0 (by decide) (Or.inl (hts (.fieldLink RX4 10 "PennyRoad" "present" "LPennyRoad$Road;") (by decide +kernel))) rfl dX4_lays_85 ?_
                  refine c_get (v := .ref (ad (2 + 10 * 0))) (C := RX0) (T := TX0) (N := 6) hx hb hts hin0 hown hK hP (1 + 10 * 0) (by decide) (cE_rd (by decide)) rfl 5 (by decide) (Or.inr (c_nest hK 26 rfl)) rfl dX4_lays_88 ?_
                  refine lv_iload hx hb dX4_lays_91 (lv_at hl 1 rfl) ?_
                  refine c_aldW hx hb hK hP 0 (by decide) (by omega) dX4_lays_93 ?_
                  refine lv_lload hx hb dX4_lays_94 (lv_at hl 0 rfl) ?_
                  refine lv_l2i (v := (sw i j).toInt32) hx hb dX4_lays_96 rfl ?_
                  refine c_put (w' := (cw cy ad (rr (upd sz (5 + 8 * j + 3) ((sw i j).toInt32)) p1 p2) ke tb t1 t2 t3 t4 t5 sb ss sw fd)) (ty := .int) (C := RX3) (T := TX3) (N := 8) hx hb hts hin3 tyX3 tyX3_ok nmX3 hown hK hP hS (3 + 10 * 0 + j) (by omega) (cE_wk (by decide) (by omega)) rfl 3 (by decide) (Or.inr (c_nest hK 8 rfl)) rfl (by decide +kernel) rfl rfl (by show _ < 8; decide) ((cs_W (by decide) (by omega) (by decide)).trans (by rw [rr_up0]; rfl)) dX4_lays_97 (fun H locs hP hS => ?_)
                  refine lv_iinc (v := (cc) + 1) (lv' := [(3, .int ((cc) + 1)), (5, .long (sw i j)), (4, .int (nI j)), (2, .ref (ad (34 + 2 * i))), (0, .ref (ad 0)), (1, .int (nI i))]) hx hb dX4_lays_100 hl (k := 2) rfl rfl (by decide) rfl (fun ls hl => ?_)
                  refine lv_iinc (v := nI (j + 1)) (lv' := [(4, .int (nI (j + 1))), (3, .int ((cc) + 1)), (5, .long (sw i j)), (2, .ref (ad (34 + 2 * i))), (0, .ref (ad 0)), (1, .int (nI i))]) hx hb dX4_lays_103 hl (k := 2) rfl (nI_add _ _) (by decide) rfl (fun ls hl => ?_)
                  refine lv_goto (tgt := 38) hx hb dX4_lays_106 (by decide) ?_
                  exact ih_38 (j + 1) _ _ _ _ ls (by omega) ((upd_0 (by omega)).trans hm) (hF.trans (if_pos ⟨Int64.not_lt.mp c_72, Int64.not_lt.mp c_81⟩)) hP hS (lv_sub hl [0, 1, 3, 4, 5] rfl)
      exact L_38 (min z_ N) 0 p0 (nI 0) _ _ ls (by omega) hN rfl hP hS hl
    · skip
      refine lv_aload_n hx hb dX4_lays_27 rfl (lv_at hl 1 rfl) ?_
      refine lv_iconst (v := nI 5) hx hb dX4_lays_28 (by decide) ?_
      refine wq_V S cK_ok hK hP hS (c_X4_finding (t := 5) (by decide)) gX4_lays_X4_finding i_X4_finding rfl (c_rec hK hP 0 (by decide) cE_0 rfl) ⟨Nat.le_of_ble_eq_true rfl, Nat.le_of_ble_eq_true rfl⟩ rfl hl.1 (As := [.int (nI 5)]) (rest := []) (st1 := [.int ((-1000000006))]) rfl rfl (Nat.le_of_ble_eq_true rfl) ⟨Nat.le_of_ble_eq_true rfl, Nat.le_of_ble_eq_true rfl⟩ dX4_lays_29 (fun H locs hP hS => ?_)
      subst hQ
      exact cp_ri hx hb hr hlocks hP hS dX4_lays_32 (by first | with_reducible rfl | (simp only [fnd, if_pos c_4, if_pos c_24]; done) | (simp only [fnd, hcl_i, c_4, if_pos c_24, Bool.false_eq_true, Bool.true_eq_false, and_true, true_and, false_and, and_false, and_self, not_true_eq_false, not_false_eq_true, if_true, if_false, reduceIte, or_false, false_or, true_or, or_true]; done) | (subst_vars; first | with_reducible rfl | (simp only [fnd, if_pos c_4, if_pos c_24]; done) | (simp only [fnd, hcl_i, c_4, if_pos c_24, Bool.false_eq_true, Bool.true_eq_false, and_true, true_and, false_and, and_false, and_self, not_true_eq_false, not_false_eq_true, if_true, if_false, reduceIte, or_false, false_or, true_or, or_true]; done)) | contradiction | rfl) (by first | with_reducible rfl | (simp only [fnd, if_pos c_4, if_pos c_24]; done) | (simp only [fnd, hcl_i, c_4, if_pos c_24, Bool.false_eq_true, Bool.true_eq_false, and_true, true_and, false_and, and_false, and_self, not_true_eq_false, not_false_eq_true, if_true, if_false, reduceIte, or_false, false_or, true_or, or_true]; done) | (subst_vars; first | with_reducible rfl | (simp only [fnd, if_pos c_4, if_pos c_24]; done) | (simp only [fnd, hcl_i, c_4, if_pos c_24, Bool.false_eq_true, Bool.true_eq_false, and_true, true_and, false_and, and_false, and_self, not_true_eq_false, not_false_eq_true, if_true, if_false, reduceIte, or_false, false_or, true_or, or_true]; done)) | contradiction | rfl)
  · skip
    refine lv_aload_n hx hb dX4_lays_7 rfl (lv_at hl 0 rfl) ?_
    refine lv_iconst (v := nI 0) hx hb dX4_lays_8 (by decide) ?_
    refine wq_V S cK_ok hK hP hS (c_X4_finding (t := 0) (by decide)) gX4_lays_X4_finding i_X4_finding rfl (c_rec hK hP 0 (by decide) cE_0 rfl) ⟨Nat.le_of_ble_eq_true rfl, Nat.le_of_ble_eq_true rfl⟩ rfl hl.1 (As := [.int (nI 0)]) (rest := []) (st1 := [.int ((-1000000001))]) rfl rfl (Nat.le_of_ble_eq_true rfl) ⟨Nat.le_of_ble_eq_true rfl, Nat.le_of_ble_eq_true rfl⟩ dX4_lays_9 (fun H locs hP hS => ?_)
    subst hQ
    exact cp_ri hx hb hr hlocks hP hS dX4_lays_12 (by first | with_reducible rfl | (simp only [fnd, if_neg c_4]; done) | (simp only [fnd, c_4, Bool.false_eq_true, Bool.true_eq_false, and_true, true_and, false_and, and_false, and_self, not_true_eq_false, not_false_eq_true, if_true, if_false, reduceIte, or_false, false_or, true_or, or_true]; done) | (subst_vars; first | with_reducible rfl | (simp only [fnd, if_neg c_4]; done) | (simp only [fnd, c_4, Bool.false_eq_true, Bool.true_eq_false, and_true, true_and, false_and, and_false, and_self, not_true_eq_false, not_false_eq_true, if_true, if_false, reduceIte, or_false, false_or, true_or, or_true]; done)) | contradiction | rfl) (by first | with_reducible rfl | (simp only [fnd, if_neg c_4]; done) | (simp only [fnd, c_4, Bool.false_eq_true, Bool.true_eq_false, and_true, true_and, false_and, and_false, and_self, not_true_eq_false, not_false_eq_true, if_true, if_false, reduceIte, or_false, false_or, true_or, or_true]; done) | (subst_vars; first | with_reducible rfl | (simp only [fnd, if_neg c_4]; done) | (simp only [fnd, c_4, Bool.false_eq_true, Bool.true_eq_false, and_true, true_and, false_and, and_false, and_self, not_true_eq_false, not_false_eq_true, if_true, if_false, reduceIte, or_false, false_or, true_or, or_true]; done)) | contradiction | rfl)
theorem i_X4_lays : ciOk yX4_lays cX4_lays 7 (some .int) wsX4_lays 1 := ⟨⟨_, rfl⟩, by decide +kernel⟩
