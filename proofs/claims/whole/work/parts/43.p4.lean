set_option maxHeartbeats 1000000 in
set_option maxRecDepth 100000 in
theorem c_X4_richest {l : Launch} {D : va_G} {cy : Nat → ClassId} {ad : Nat → Nat} {p0 : Nat → Int32} {p1 : Nat → Int32} {p2 : Nat → Int32} {ke : Int32} {tb : Nat → Int32} {t1 : Int32} {t2 : Int32} {t3 : Int32} {t4 : Int32} {t5 : Int32} {sb : Nat → Int32} {ss : Nat → Int32} {sw : Nat → Nat → Int64} {fd : Nat → Int32} {q : Int32} {N : Nat} (hN : p0 0 = nI N) (h8 : N ≤ 8) : Met l yX4_richest wsX4_richest (rmz 5 110) (wPre D (cK D cy ad) (cw cy ad (rr p0 p1 p2) ke tb t1 t2 t3 t4 t5 sb ss sw fd) [.ref (ad 0), .int (q)]) (cPub D cy ad (some (.int (if rg 0 200 q then (if 0 ≤ pm (richL (hrsF N q.toNatClampNeg p0) N 0 0) then pm (richL (hrsF N q.toNatClampNeg p0) N 0 0) else -1000000004) else -1000000001))) p0 p2 ke tb t1 sb ss sw (if rg 0 200 q then (if 0 ≤ pm (richL (hrsF N q.toNatClampNeg p0) N 0 0) then fd else fnd fd 3) else fnd fd 0)) 0 0 (cA ad) := by
  refine wq_entry rfl rfl (Nat.le_of_ble_eq_true rfl) ?_
  intro p e s0 m args below meth c S hr hlocks hK hP ls hl
  have S : CallFix p m c cX4_richest 4 s0 args wsX4_richest RX4 := S
  obtain ⟨hx, hb, hml, hown, hts⟩ := id S
  have hin4 : ∀ w ∈ wsX40, w ∈ wsX4_richest := fun w h => List.mem_cons_of_mem _ (List.mem_append_left _ (List.mem_append_left _ (List.mem_append_right _ h)))
  have hin0 : ∀ w ∈ wsX00, w ∈ wsX4_richest := fun w h => List.mem_cons_of_mem _ (List.mem_append_left _ (List.mem_append_right _ h))
  have hin3 : ∀ w ∈ wsX30, w ∈ wsX4_richest := fun w h => List.mem_cons_of_mem _ (List.mem_append_right _ h)
  have hS : va_S (cA ad) s0.heap s0.heap [] := va_S.rf
  have hl : lv_has ls 4 [(0, .ref (ad 0)), (1, .int (q))] := hl
  generalize hQ : MQ below (cPub D cy ad (some (.int (if rg 0 200 q then (if 0 ≤ pm (richL (hrsF N q.toNatClampNeg p0) N 0 0) then pm (richL (hrsF N q.toNatClampNeg p0) N 0 0) else -1000000004) else -1000000001))) p0 p2 ke tb t1 sb ss sw (if rg 0 200 q then (if 0 ≤ pm (richL (hrsF N q.toNatClampNeg p0) N 0 0) then fd else fnd fd 3) else fnd fd 0)) args s0 0 0 (cA ad) = Q
  refine lv_iload_n hx hb dX4_richest_0 rfl (lv_at hl 1 rfl) ?_
  refine lv_iconst (v := nI 0) hx hb dX4_richest_1 (by decide) ?_
  refine lv_sipush (v := nI 200) hx hb dX4_richest_2 (by decide) ?_
  refine sq_S S (c_X4_withinN (by decide) (by decide)) gX4_richest_X4_within i_X4_within ⟨Nat.le_of_ble_eq_true rfl, Nat.le_of_ble_eq_true rfl⟩ rfl hl.1 (As := [.int (q), .int (nI 0), .int (nI 200)]) (rest := []) (st1 := [.int (z (rg 0 200 (q)))]) rfl rfl (Nat.le_of_ble_eq_true rfl) ⟨Nat.le_of_ble_eq_true rfl, Nat.le_of_ble_eq_true rfl⟩ dX4_richest_5 ?_
  refine lvz_if_ne (tgt := 17) hx hb dX4_richest_8 (by decide) (fun c_8 => ?_) (fun c_8 => ?_)
  · skip
    obtain ⟨h, h_h, h_h2, rfl⟩ := rg_ix (a := 0) (b := 200) (by decide) c_8
    have hcl_h : (nI h).toNatClampNeg = h := nI_clamp (by omega)
    refine lv_aload_n hx hb dX4_richest_17 rfl (lv_at hl 0 rfl) ?_
    refine c_get (v := .ref (ad (1 + 10 * 0))) (C := RX4) (T := TX4) (N := 7) hx hb hts hin4 hown hK hP (0) (by decide) cE_0 rfl 0 (by decide) (Or.inl (hts (.fieldLink RX4 10 "PennyRoad" "present" "LPennyRoad$Road;") (by decide +kernel))) rfl dX4_richest_18 ?_
    refine c_get (v := .int (p0 0)) (C := RX0) (T := TX0) (N := 6) hx hb hts hin0 hown hK hP (1 + 10 * 0) (by decide) (cE_rd (by decide)) rfl 4 (by decide) (Or.inr (c_nest hK 25 rfl)) rfl dX4_richest_21 ?_
    refine lv_top hN ?_
    refine lv_if_ne (tgt := 33) hx hb dX4_richest_24 (by decide) (fun c_24 => ?_) (fun c_24 => ?_)
    · skip
      have hN0 : ¬ N = 0 := fun e9 => c_24 (by rw [e9]; rfl)
      refine lv_aload_n hx hb dX4_richest_33 rfl (lv_at hl 0 rfl) ?_
      refine wq_V S cK_ok hK hP hS (c_X4_lookAhead hN h8) gX4_richest_X4_lookAhead i_X4_lookAhead rfl (c_rec hK hP 0 (by decide) cE_0 rfl) ⟨Nat.le_of_ble_eq_true rfl, Nat.le_of_ble_eq_true rfl⟩ rfl hl.1 (As := []) (rest := []) (st1 := []) rfl rfl (Nat.le_of_ble_eq_true rfl) ⟨Nat.le_of_ble_eq_true rfl, Nat.le_of_ble_eq_true rfl⟩ dX4_richest_34 (fun H locs hP hS => ?_)
      refine lv_aload_n hx hb dX4_richest_37 rfl (lv_at hl 0 rfl) ?_
      refine c_get (v := .ref (ad (1 + 10 * 1))) (C := RX4) (T := TX4) (N := 7) hx hb hts hin4 hown hK hP (0) (by decide) cE_0 rfl 1 (by decide) (Or.inl (hts (.fieldLink RX4 16 "PennyRoad" "ahead" "LPennyRoad$Road;") (by decide +kernel))) rfl dX4_richest_38 ?_
      refine lv_iload_n hx hb dX4_richest_41 rfl (lv_at hl 1 rfl) ?_
      refine wq_VN (host := "PennyRoad") S cK_ok hK hP hS (c_X0_passHours_r1 ((cpn_0' (j := N)).trans hN) h8 (by omega)) gX4_richest_X0_passHours_n120 i_X0_passHours (c_nest hK 42 rfl) (hts (.initialized RX0) (by decide +kernel)) (hts (.instanceMethod yX0_passHours) (by decide +kernel)) (hts (.selects RX0 yX0_passHours yX0_passHours) (by decide +kernel)) (c_rec hK hP (1 + 10 * 1) (by decide) (cE_rd (by decide)) rfl) ⟨Nat.le_of_ble_eq_true rfl, Nat.le_of_ble_eq_true rfl⟩ rfl hl.1 (As := [.int (nI h)]) (rest := []) (st1 := []) rfl rfl (Nat.le_of_ble_eq_true rfl) ⟨Nat.le_of_ble_eq_true rfl, Nat.le_of_ble_eq_true rfl⟩ dX4_richest_42 (fun H locs hP hS => ?_)
      refine lv_iconst (v := nI 0) hx hb dX4_richest_45 (by decide) ?_
      refine lv_istore_n (lv' := [(2, .int (nI 0)), (0, .ref (ad 0)), (1, .int (nI h))]) hx hb dX4_richest_46 rfl hl (by decide) rfl (fun ls hl => ?_)
      refine lv_iconst (v := nI 1) hx hb dX4_richest_47 (by decide) ?_
      refine lv_istore_n (lv' := [(3, .int (nI 1)), (2, .int (nI 0)), (0, .ref (ad 0)), (1, .int (nI h))]) hx hb dX4_richest_48 rfl hl (by decide) rfl (fun ls hl => ?_)
      have L_49 : ∀ (n : Nat) (j : Nat) (b : Nat) (H : Heap) (locs : List Loc) (ls : Array Slot), (j + n = N) → (b < j) → (richL (hrsF N h p0) N 0 0 = richL (hrsF N h (cpn (5 + 8 * N) p0 p1)) n j (b + 1)) → va_P D vwCl (cw cy ad (rr p0 (hrsF N h (cpn (5 + 8 * N) p0 p1)) p2) ke tb t1 t2 t3 t4 t5 sb ss sw fd) H → va_S (cA ad) s0.heap H locs → lv_has ls 4 [(3, .int (nI j)), (2, .int (nI b)), (0, .ref (ad 0)), (1, .int (nI h))] → W p l e (rmz 5 110) s0 m args below meth c H locs 0 0 Q (F0 m 49 ls []) := by
        intro n
        induction n with
        | zero =>
          intro j b H locs ls hj hbj hF hP hS hl
          refine lv_iload_n hx hb dX4_richest_49 rfl (lv_at hl 0 rfl) ?_
          refine lv_aload_n hx hb dX4_richest_50 rfl (lv_at hl 2 rfl) ?_
          refine c_get (v := .ref (ad (1 + 10 * 1))) (C := RX4) (T := TX4) (N := 7) hx hb hts hin4 hown hK hP (0) (by decide) cE_0 rfl 1 (by decide) (Or.inl (hts (.fieldLink RX4 16 "PennyRoad" "ahead" "LPennyRoad$Road;") (by decide +kernel))) rfl dX4_richest_51 ?_
          refine c_get (v := .int ((hrsF N h (cpn (5 + 8 * N) p0 p1)) 0)) (C := RX0) (T := TX0) (N := 6) hx hb hts hin0 hown hK hP (1 + 10 * 1) (by decide) (cE_rd (by decide)) rfl 4 (by decide) (Or.inr (c_nest hK 25 rfl)) rfl dX4_richest_54 ?_
          refine lv_top ((hrsF_0 _ _).trans ((cpn_0' (j := N)).trans hN)) ?_
          refine lvn_icmp_ge (tgt := 95) hx hb dX4_richest_57 (by decide) (by omega) (by omega) (fun c_57 => ?_) (fun c_57 => ?_)
          · skip
            have hE : richL (hrsF N h p0) N 0 0 = b + 1 := hF
            refine lv_iload_n hx hb dX4_richest_95 rfl (lv_at hl 1 rfl) ?_
            subst hQ
            exact cp_ri hx hb hr hlocks hP hS dX4_richest_96 (by first | (simp only [fnd, hcl_h, hE, c_8, if_neg c_24, if_pos c_57, Bool.false_eq_true, Bool.true_eq_false, and_true, true_and, false_and, and_false, and_self, not_true_eq_false, not_false_eq_true, if_true, if_false, reduceIte, or_false, false_or, true_or, or_true]; done) | (subst_vars; simp only [fnd, hcl_h, hE, c_8, if_neg c_24, if_pos c_57, Bool.false_eq_true, Bool.true_eq_false, and_true, true_and, false_and, and_false, and_self, not_true_eq_false, not_false_eq_true, if_true, if_false, reduceIte, or_false, false_or, true_or, or_true]; done) | (simp only [fnd, hcl_h, hE, c_8, if_neg c_24, if_pos c_57, Bool.false_eq_true, Bool.true_eq_false, and_true, true_and, false_and, and_false, and_self, not_true_eq_false, not_false_eq_true, if_true, if_false, reduceIte, or_false, false_or, true_or, or_true, pm, if_neg (show ¬ (0 : Int32) ≤ -1 by decide)]; done) | (simp only [fnd, hcl_h, hE, c_8, if_neg c_24, if_pos c_57, Bool.false_eq_true, Bool.true_eq_false, and_true, true_and, false_and, and_false, and_self, not_true_eq_false, not_false_eq_true, if_true, if_false, reduceIte, or_false, false_or, true_or, or_true, pm, if_pos (pos_le (show b < 2 ^ 31 by omega))]; done)) (by first | (simp only [fnd, hcl_h, hE, c_8, if_neg c_24, if_pos c_57, Bool.false_eq_true, Bool.true_eq_false, and_true, true_and, false_and, and_false, and_self, not_true_eq_false, not_false_eq_true, if_true, if_false, reduceIte, or_false, false_or, true_or, or_true]; done) | (subst_vars; simp only [fnd, hcl_h, hE, c_8, if_neg c_24, if_pos c_57, Bool.false_eq_true, Bool.true_eq_false, and_true, true_and, false_and, and_false, and_self, not_true_eq_false, not_false_eq_true, if_true, if_false, reduceIte, or_false, false_or, true_or, or_true]; done) | (simp only [fnd, hcl_h, hE, c_8, if_neg c_24, if_pos c_57, Bool.false_eq_true, Bool.true_eq_false, and_true, true_and, false_and, and_false, and_self, not_true_eq_false, not_false_eq_true, if_true, if_false, reduceIte, or_false, false_or, true_or, or_true, pm, if_neg (show ¬ (0 : Int32) ≤ -1 by decide)]; done) | (simp only [fnd, hcl_h, hE, c_8, if_neg c_24, if_pos c_57, Bool.false_eq_true, Bool.true_eq_false, and_true, true_and, false_and, and_false, and_self, not_true_eq_false, not_false_eq_true, if_true, if_false, reduceIte, or_false, false_or, true_or, or_true, pm, if_pos (pos_le (show b < 2 ^ 31 by omega))]; done))
          · skip
            exfalso; omega
        | succ n ih_49 =>
          intro j b H locs ls hj hbj hF hP hS hl
          refine lv_iload_n hx hb dX4_richest_49 rfl (lv_at hl 0 rfl) ?_
          refine lv_aload_n hx hb dX4_richest_50 rfl (lv_at hl 2 rfl) ?_
          refine c_get (v := .ref (ad (1 + 10 * 1))) (C := RX4) (T := TX4) (N := 7) hx hb hts hin4 hown hK hP (0) (by decide) cE_0 rfl 1 (by decide) (Or.inl (hts (.fieldLink RX4 16 "PennyRoad" "ahead" "LPennyRoad$Road;") (by decide +kernel))) rfl dX4_richest_51 ?_
          refine c_get (v := .int ((hrsF N h (cpn (5 + 8 * N) p0 p1)) 0)) (C := RX0) (T := TX0) (N := 6) hx hb hts hin0 hown hK hP (1 + 10 * 1) (by decide) (cE_rd (by decide)) rfl 4 (by decide) (Or.inr (c_nest hK 25 rfl)) rfl dX4_richest_54 ?_
          refine lv_top ((hrsF_0 _ _).trans ((cpn_0' (j := N)).trans hN)) ?_
          refine lvn_icmp_ge (tgt := 95) hx hb dX4_richest_57 (by decide) (by omega) (by omega) (fun c_57 => ?_) (fun c_57 => ?_)
          · skip
            exfalso; omega
          · skip
            refine lv_aload_n hx hb dX4_richest_60 rfl (lv_at hl 2 rfl) ?_
            refine c_get (v := .ref (ad (1 + 10 * 1))) (C := RX4) (T := TX4) (N := 7) hx hb hts hin4 hown hK hP (0) (by decide) cE_0 rfl 1 (by decide) (Or.inl (hts (.fieldLink RX4 16 "PennyRoad" "ahead" "LPennyRoad$Road;") (by decide +kernel))) rfl dX4_richest_61 ?_
            refine c_get (v := .ref (ad (2 + 10 * 1))) (C := RX0) (T := TX0) (N := 6) hx hb hts hin0 hown hK hP (1 + 10 * 1) (by decide) (cE_rd (by decide)) rfl 5 (by decide) (Or.inr (c_nest hK 26 rfl)) rfl dX4_richest_64 ?_
            refine lv_iload_n hx hb dX4_richest_67 rfl (lv_at hl 0 rfl) ?_
            refine c_aldW hx hb hK hP 1 (by decide) (by omega) dX4_richest_68 ?_
            refine c_get (v := .int ((hrsF N h (cpn (5 + 8 * N) p0 p1)) (5 + 8 * j + 6))) (C := RX3) (T := TX3) (N := 8) hx hb hts hin3 hown hK hP (3 + 10 * 1 + j) (by omega) (cE_wk (by decide) (by omega)) rfl 6 (by decide) (Or.inr (c_nest hK 15 rfl)) rfl dX4_richest_69 ?_
            refine lv_aload_n hx hb dX4_richest_72 rfl (lv_at hl 2 rfl) ?_
            refine c_get (v := .ref (ad (1 + 10 * 1))) (C := RX4) (T := TX4) (N := 7) hx hb hts hin4 hown hK hP (0) (by decide) cE_0 rfl 1 (by decide) (Or.inl (hts (.fieldLink RX4 16 "PennyRoad" "ahead" "LPennyRoad$Road;") (by decide +kernel))) rfl dX4_richest_73 ?_
            refine c_get (v := .ref (ad (2 + 10 * 1))) (C := RX0) (T := TX0) (N := 6) hx hb hts hin0 hown hK hP (1 + 10 * 1) (by decide) (cE_rd (by decide)) rfl 5 (by decide) (Or.inr (c_nest hK 26 rfl)) rfl dX4_richest_76 ?_
            refine lv_iload_n hx hb dX4_richest_79 rfl (lv_at hl 1 rfl) ?_
            refine c_aldW hx hb hK hP 1 (by decide) (by omega) dX4_richest_80 ?_
            refine c_get (v := .int ((hrsF N h (cpn (5 + 8 * N) p0 p1)) (5 + 8 * b + 6))) (C := RX3) (T := TX3) (N := 8) hx hb hts hin3 hown hK hP (3 + 10 * 1 + b) (by omega) (cE_wk (by decide) (by omega)) rfl 6 (by decide) (Or.inr (c_nest hK 15 rfl)) rfl dX4_richest_81 ?_
            refine lv_icmp_le (tgt := 89) hx hb dX4_richest_84 (by decide) (fun c_84 => ?_) (fun c_84 => ?_)
            · skip
              refine lv_iinc (v := nI (j + 1)) (lv' := [(3, .int (nI (j + 1))), (2, .int (nI b)), (0, .ref (ad 0)), (1, .int (nI h))]) hx hb dX4_richest_89 hl (k := 0) rfl (nI_add _ _) (by decide) rfl (fun ls hl => ?_)
              refine lv_goto (tgt := 49) hx hb dX4_richest_92 (by decide) ?_
              exact ih_49 (j + 1) b _ _ ls (by omega) (by omega) (hF.trans (congrArg (richL (hrsF N h (cpn (5 + 8 * N) p0 p1)) n (j + 1)) (if_pos c_84))) hP hS hl
            · skip
              refine lv_iload_n hx hb dX4_richest_87 rfl (lv_at hl 0 rfl) ?_
              refine lv_istore_n (lv' := [(2, .int (nI j)), (3, .int (nI j)), (0, .ref (ad 0)), (1, .int (nI h))]) hx hb dX4_richest_88 rfl hl (by decide) rfl (fun ls hl => ?_)
              refine lv_iinc (v := nI (j + 1)) (lv' := [(3, .int (nI (j + 1))), (2, .int (nI j)), (0, .ref (ad 0)), (1, .int (nI h))]) hx hb dX4_richest_89 hl (k := 1) rfl (nI_add _ _) (by decide) rfl (fun ls hl => ?_)
              refine lv_goto (tgt := 49) hx hb dX4_richest_92 (by decide) ?_
              exact ih_49 (j + 1) j _ _ ls (by omega) (by omega) (hF.trans (congrArg (richL (hrsF N h (cpn (5 + 8 * N) p0 p1)) n (j + 1)) (if_neg c_84))) hP hS hl
      exact L_49 (N - 1) 1 0 _ _ ls (by omega) (by omega) (rich_l.symm.trans (rich_1 (by omega))) hP hS hl
    · skip
      have hN0 : N = 0 := nI_z (by omega) c_24
      have hE : richL (hrsF N h p0) N 0 0 = 0 := by subst hN0; rfl
      refine lv_aload_n hx hb dX4_richest_27 rfl (lv_at hl 0 rfl) ?_
      refine lv_iconst (v := nI 3) hx hb dX4_richest_28 (by decide) ?_
      refine wq_V S cK_ok hK hP hS (c_X4_finding (t := 3) (by decide)) gX4_richest_X4_finding i_X4_finding rfl (c_rec hK hP 0 (by decide) cE_0 rfl) ⟨Nat.le_of_ble_eq_true rfl, Nat.le_of_ble_eq_true rfl⟩ rfl hl.1 (As := [.int (nI 3)]) (rest := []) (st1 := [.int ((-1000000004))]) rfl rfl (Nat.le_of_ble_eq_true rfl) ⟨Nat.le_of_ble_eq_true rfl, Nat.le_of_ble_eq_true rfl⟩ dX4_richest_29 (fun H locs hP hS => ?_)
      subst hQ
      exact cp_ri hx hb hr hlocks hP hS dX4_richest_32 (by first | (simp only [fnd, hcl_h, hE, c_8, if_pos c_24, Bool.false_eq_true, Bool.true_eq_false, and_true, true_and, false_and, and_false, and_self, not_true_eq_false, not_false_eq_true, if_true, if_false, reduceIte, or_false, false_or, true_or, or_true]; done) | (subst_vars; simp only [fnd, hcl_h, hE, c_8, if_pos c_24, Bool.false_eq_true, Bool.true_eq_false, and_true, true_and, false_and, and_false, and_self, not_true_eq_false, not_false_eq_true, if_true, if_false, reduceIte, or_false, false_or, true_or, or_true]; done) | (simp only [fnd, hcl_h, hE, c_8, if_pos c_24, Bool.false_eq_true, Bool.true_eq_false, and_true, true_and, false_and, and_false, and_self, not_true_eq_false, not_false_eq_true, if_true, if_false, reduceIte, or_false, false_or, true_or, or_true, pm, if_neg (show ¬ (0 : Int32) ≤ -1 by decide)]; done) | (simp only [fnd, hcl_h, hE, c_8, if_pos c_24, Bool.false_eq_true, Bool.true_eq_false, and_true, true_and, false_and, and_false, and_self, not_true_eq_false, not_false_eq_true, if_true, if_false, reduceIte, or_false, false_or, true_or, or_true, pm, if_pos (pos_le (show b < 2 ^ 31 by omega))]; done)) (by first | (simp only [fnd, hcl_h, hE, c_8, if_pos c_24, Bool.false_eq_true, Bool.true_eq_false, and_true, true_and, false_and, and_false, and_self, not_true_eq_false, not_false_eq_true, if_true, if_false, reduceIte, or_false, false_or, true_or, or_true]; done) | (subst_vars; simp only [fnd, hcl_h, hE, c_8, if_pos c_24, Bool.false_eq_true, Bool.true_eq_false, and_true, true_and, false_and, and_false, and_self, not_true_eq_false, not_false_eq_true, if_true, if_false, reduceIte, or_false, false_or, true_or, or_true]; done) | (simp only [fnd, hcl_h, hE, c_8, if_pos c_24, Bool.false_eq_true, Bool.true_eq_false, and_true, true_and, false_and, and_false, and_self, not_true_eq_false, not_false_eq_true, if_true, if_false, reduceIte, or_false, false_or, true_or, or_true, pm, if_neg (show ¬ (0 : Int32) ≤ -1 by decide)]; done) | (simp only [fnd, hcl_h, hE, c_8, if_pos c_24, Bool.false_eq_true, Bool.true_eq_false, and_true, true_and, false_and, and_false, and_self, not_true_eq_false, not_false_eq_true, if_true, if_false, reduceIte, or_false, false_or, true_or, or_true, pm, if_pos (pos_le (show b < 2 ^ 31 by omega))]; done))
  · skip
    refine lv_aload_n hx hb dX4_richest_11 rfl (lv_at hl 0 rfl) ?_
    refine lv_iconst (v := nI 0) hx hb dX4_richest_12 (by decide) ?_
    refine wq_V S cK_ok hK hP hS (c_X4_finding (t := 0) (by decide)) gX4_richest_X4_finding i_X4_finding rfl (c_rec hK hP 0 (by decide) cE_0 rfl) ⟨Nat.le_of_ble_eq_true rfl, Nat.le_of_ble_eq_true rfl⟩ rfl hl.1 (As := [.int (nI 0)]) (rest := []) (st1 := [.int ((-1000000001))]) rfl rfl (Nat.le_of_ble_eq_true rfl) ⟨Nat.le_of_ble_eq_true rfl, Nat.le_of_ble_eq_true rfl⟩ dX4_richest_13 (fun H locs hP hS => ?_)
    subst hQ
    exact cp_ri hx hb hr hlocks hP hS dX4_richest_16 (by first | (simp only [fnd, c_8, Bool.false_eq_true, Bool.true_eq_false, and_true, true_and, false_and, and_false, and_self, not_true_eq_false, not_false_eq_true, if_true, if_false, reduceIte, or_false, false_or, true_or, or_true]; done) | (subst_vars; simp only [fnd, c_8, Bool.false_eq_true, Bool.true_eq_false, and_true, true_and, false_and, and_false, and_self, not_true_eq_false, not_false_eq_true, if_true, if_false, reduceIte, or_false, false_or, true_or, or_true]; done) | (simp only [fnd, c_8, Bool.false_eq_true, Bool.true_eq_false, and_true, true_and, false_and, and_false, and_self, not_true_eq_false, not_false_eq_true, if_true, if_false, reduceIte, or_false, false_or, true_or, or_true, pm, if_neg (show ¬ (0 : Int32) ≤ -1 by decide)]; done) | (simp only [fnd, c_8, Bool.false_eq_true, Bool.true_eq_false, and_true, true_and, false_and, and_false, and_self, not_true_eq_false, not_false_eq_true, if_true, if_false, reduceIte, or_false, false_or, true_or, or_true, pm, if_pos (pos_le (show b < 2 ^ 31 by omega))]; done)) (by first | (simp only [fnd, c_8, Bool.false_eq_true, Bool.true_eq_false, and_true, true_and, false_and, and_false, and_self, not_true_eq_false, not_false_eq_true, if_true, if_false, reduceIte, or_false, false_or, true_or, or_true]; done) | (subst_vars; simp only [fnd, c_8, Bool.false_eq_true, Bool.true_eq_false, and_true, true_and, false_and, and_false, and_self, not_true_eq_false, not_false_eq_true, if_true, if_false, reduceIte, or_false, false_or, true_or, or_true]; done) | (simp only [fnd, c_8, Bool.false_eq_true, Bool.true_eq_false, and_true, true_and, false_and, and_false, and_self, not_true_eq_false, not_false_eq_true, if_true, if_false, reduceIte, or_false, false_or, true_or, or_true, pm, if_neg (show ¬ (0 : Int32) ≤ -1 by decide)]; done) | (simp only [fnd, c_8, Bool.false_eq_true, Bool.true_eq_false, and_true, true_and, false_and, and_false, and_self, not_true_eq_false, not_false_eq_true, if_true, if_false, reduceIte, or_false, false_or, true_or, or_true, pm, if_pos (pos_le (show b < 2 ^ 31 by omega))]; done))
theorem i_X4_richest : ciOk yX4_richest cX4_richest 4 (some .int) wsX4_richest 1 := ⟨⟨_, rfl⟩, by decide +kernel⟩
set_option maxHeartbeats 1000000 in
set_option maxRecDepth 100000 in
theorem c_X1_isMissing {l : Launch} {D : va_G} {cy : Nat → ClassId} {ad : Nat → Nat} {p0 : Nat → Int32} {p1 : Nat → Int32} {p2 : Nat → Int32} {ke : Int32} {tb : Nat → Int32} {t1 : Int32} {t2 : Int32} {t3 : Int32} {t4 : Int32} {t5 : Int32} {sb : Nat → Int32} {ss : Nat → Int32} {sw : Nat → Nat → Int64} {fd : Nat → Int32} {i : Nat} (hi : i < 4) : Met l yX1_isMissing wsX1_isMissing (rmz 0 0) (wPre D (cK D cy ad) (cw cy ad (rr p0 p1 p2) ke tb t1 t2 t3 t4 t5 sb ss sw fd) [.ref (ad (34 + 2 * i))]) (wPost D (cw cy ad (rr p0 p1 p2) ke tb t1 t2 t3 t4 t5 sb ss sw fd) (some (.int (z (sb i = 0)))) (cA ad)) 0 0 (cA ad) := by
  refine wq_entry rfl rfl (Nat.le_of_ble_eq_true rfl) ?_
  intro p e s0 m args below meth c S hr hlocks hK hP ls hl
  have S : CallFix p m c cX1_isMissing 1 s0 args wsX1_isMissing RX1 := S
  obtain ⟨hx, hb, hml, hown, hts⟩ := id S
  have hin1 : ∀ w ∈ wsX10, w ∈ wsX1_isMissing := fun w h => List.mem_cons_of_mem _ (List.mem_append_right _ h)
  have hS : va_S (cA ad) s0.heap s0.heap [] := va_S.rf
  have hl : lv_has ls 1 [(0, .ref (ad (34 + 2 * i)))] := hl
  generalize hQ : MQ below (wPost D (cw cy ad (rr p0 p1 p2) ke tb t1 t2 t3 t4 t5 sb ss sw fd) (some (.int (z (sb i = 0)))) (cA ad)) args s0 0 0 (cA ad) = Q
  refine lv_aload_n hx hb dX1_isMissing_0 rfl (lv_at hl 0 rfl) ?_
  refine c_get (v := .int (sb i)) (C := RX1) (T := TX1) (N := 3) hx hb hts hin1 hown hK hP (34 + 2 * i) (by omega) (cE_sh (by omega)) rfl 1 (by decide) (Or.inl (hts (.fieldLink RX1 15 "PennyRoad$Sheet" "bits" "I") (by decide +kernel))) rfl dX1_isMissing_1 ?_
  refine lv_if_ne (tgt := 11) hx hb dX1_isMissing_4 (by decide) (fun c_4 => ?_) (fun c_4 => ?_)
  · skip
    refine lv_iconst (v := nI 0) hx hb dX1_isMissing_11 (by decide) ?_
    subst hQ
    exact wq_rz hx hb hr hlocks hP hS dX1_isMissing_12 (by subst_vars; first | (left; rfl) | (right; rfl) | (split <;> simp)) (by first | exact rvI (z_t c_4) | exact rvI (z_f c_4)) rfl
  · skip
    refine lv_iconst (v := nI 1) hx hb dX1_isMissing_7 (by decide) ?_
    refine lv_goto (tgt := 12) hx hb dX1_isMissing_8 (by decide) ?_
    subst hQ
    exact wq_rz hx hb hr hlocks hP hS dX1_isMissing_12 (by subst_vars; first | (left; rfl) | (right; rfl) | (split <;> simp)) (by first | exact rvI (z_t c_4) | exact rvI (z_f c_4)) rfl
theorem i_X1_isMissing : ciOk yX1_isMissing cX1_isMissing 1 (some .boolean) wsX1_isMissing 0 := ⟨⟨_, rfl⟩, by decide +kernel⟩
set_option maxHeartbeats 1000000 in
set_option maxRecDepth 100000 in
theorem c_X1_hasPart {l : Launch} {D : va_G} {cy : Nat → ClassId} {ad : Nat → Nat} {p0 : Nat → Int32} {p1 : Nat → Int32} {p2 : Nat → Int32} {ke : Int32} {tb : Nat → Int32} {t1 : Int32} {t2 : Int32} {t3 : Int32} {t4 : Int32} {t5 : Int32} {sb : Nat → Int32} {ss : Nat → Int32} {sw : Nat → Nat → Int64} {fd : Nat → Int32} {i : Nat} {b : Int32} {n : Int32} (hi : i < 4) : Met l yX1_hasPart wsX1_hasPart (rmz 0 0) (wPre D (cK D cy ad) (cw cy ad (rr p0 p1 p2) ke tb t1 t2 t3 t4 t5 sb ss sw fd) [.ref (ad (34 + 2 * i)), .int (b), .int (n)]) (wPost D (cw cy ad (rr p0 p1 p2) ke tb t1 t2 t3 t4 t5 sb ss sw fd) (some (.int (z (hpP (ss i) b n)))) (cA ad)) 0 0 (cA ad) := by
  refine wq_entry rfl rfl (Nat.le_of_ble_eq_true rfl) ?_
  intro p e s0 m args below meth c S hr hlocks hK hP ls hl
  have S : CallFix p m c cX1_hasPart 3 s0 args wsX1_hasPart RX1 := S
  obtain ⟨hx, hb, hml, hown, hts⟩ := id S
  have hin1 : ∀ w ∈ wsX10, w ∈ wsX1_hasPart := fun w h => List.mem_cons_of_mem _ (List.mem_append_right _ h)
  have hS : va_S (cA ad) s0.heap s0.heap [] := va_S.rf
  have hl : lv_has ls 3 [(0, .ref (ad (34 + 2 * i))), (1, .int (b)), (2, .int (n))] := hl
  generalize hQ : MQ below (wPost D (cw cy ad (rr p0 p1 p2) ke tb t1 t2 t3 t4 t5 sb ss sw fd) (some (.int (z (hpP (ss i) b n)))) (cA ad)) args s0 0 0 (cA ad) = Q
  refine lv_iload_n hx hb dX1_hasPart_0 rfl (lv_at hl 1 rfl) ?_
  refine lv_if_lt (tgt := 30) hx hb dX1_hasPart_1 (by decide) (fun c_1 => ?_) (fun c_1 => ?_)
  · skip
    refine lv_iconst (v := nI 0) hx hb dX1_hasPart_30 (by decide) ?_
    subst hQ
    exact wq_rz hx hb hr hlocks hP hS dX1_hasPart_31 (by subst_vars; first | (left; rfl) | (right; rfl) | (split <;> simp)) (by refine rvI ?_; simp only [z, hpP, decide_eq_true c_1, Bool.not_true, Bool.not_false, Bool.true_and, Bool.false_and, Bool.and_true, Bool.and_false, if_true, if_false, reduceIte, Bool.false_eq_true, Bool.and_self]) rfl
  · skip
    refine lv_iload_n hx hb dX1_hasPart_4 rfl (lv_at hl 2 rfl) ?_
    refine lv_if_lt (tgt := 30) hx hb dX1_hasPart_5 (by decide) (fun c_5 => ?_) (fun c_5 => ?_)
    · skip
      refine lv_iconst (v := nI 0) hx hb dX1_hasPart_30 (by decide) ?_
      subst hQ
      exact wq_rz hx hb hr hlocks hP hS dX1_hasPart_31 (by subst_vars; first | (left; rfl) | (right; rfl) | (split <;> simp)) (by refine rvI ?_; simp only [z, hpP, decide_eq_false c_1, decide_eq_true c_5, Bool.not_true, Bool.not_false, Bool.true_and, Bool.false_and, Bool.and_true, Bool.and_false, if_true, if_false, reduceIte, Bool.false_eq_true, Bool.and_self]) rfl
    · skip
      refine lv_iload_n hx hb dX1_hasPart_8 rfl (lv_at hl 2 rfl) ?_
      refine lv_aload_n hx hb dX1_hasPart_9 rfl (lv_at hl 0 rfl) ?_
      refine c_get (v := .int (ss i)) (C := RX1) (T := TX1) (N := 3) hx hb hts hin1 hown hK hP (34 + 2 * i) (by omega) (cE_sh (by omega)) rfl 2 (by decide) (Or.inl (hts (.fieldLink RX1 19 "PennyRoad$Sheet" "size" "I") (by decide +kernel))) rfl dX1_hasPart_10 ?_
      refine lv_icmp_gt (tgt := 30) hx hb dX1_hasPart_13 (by decide) (fun c_13 => ?_) (fun c_13 => ?_)
      · skip
        refine lv_iconst (v := nI 0) hx hb dX1_hasPart_30 (by decide) ?_
        subst hQ
        exact wq_rz hx hb hr hlocks hP hS dX1_hasPart_31 (by subst_vars; first | (left; rfl) | (right; rfl) | (split <;> simp)) (by refine rvI ?_; simp only [z, hpP, decide_eq_false c_1, decide_eq_false c_5, decide_eq_true c_13, Bool.not_true, Bool.not_false, Bool.true_and, Bool.false_and, Bool.and_true, Bool.and_false, if_true, if_false, reduceIte, Bool.false_eq_true, Bool.and_self]) rfl
      · skip
        refine lv_iload_n hx hb dX1_hasPart_16 rfl (lv_at hl 1 rfl) ?_
        refine lv_aload_n hx hb dX1_hasPart_17 rfl (lv_at hl 0 rfl) ?_
        refine c_get (v := .int (ss i)) (C := RX1) (T := TX1) (N := 3) hx hb hts hin1 hown hK hP (34 + 2 * i) (by omega) (cE_sh (by omega)) rfl 2 (by decide) (Or.inl (hts (.fieldLink RX1 19 "PennyRoad$Sheet" "size" "I") (by decide +kernel))) rfl dX1_hasPart_18 ?_
        refine lv_iload_n hx hb dX1_hasPart_21 rfl (lv_at hl 2 rfl) ?_
        refine lv_isub hx hb dX1_hasPart_22 ?_
        refine lv_icmp_gt (tgt := 30) hx hb dX1_hasPart_23 (by decide) (fun c_23 => ?_) (fun c_23 => ?_)
        · skip
          refine lv_iconst (v := nI 0) hx hb dX1_hasPart_30 (by decide) ?_
          subst hQ
          exact wq_rz hx hb hr hlocks hP hS dX1_hasPart_31 (by subst_vars; first | (left; rfl) | (right; rfl) | (split <;> simp)) (by refine rvI ?_; simp only [z, hpP, decide_eq_false c_1, decide_eq_false c_5, decide_eq_false c_13, decide_eq_true c_23, Bool.not_true, Bool.not_false, Bool.true_and, Bool.false_and, Bool.and_true, Bool.and_false, if_true, if_false, reduceIte, Bool.false_eq_true, Bool.and_self]) rfl
        · skip
          refine lv_iconst (v := nI 1) hx hb dX1_hasPart_26 (by decide) ?_
          refine lv_goto (tgt := 31) hx hb dX1_hasPart_27 (by decide) ?_
          subst hQ
          exact wq_rz hx hb hr hlocks hP hS dX1_hasPart_31 (by subst_vars; first | (left; rfl) | (right; rfl) | (split <;> simp)) (by refine rvI ?_; simp only [z, hpP, decide_eq_false c_1, decide_eq_false c_5, decide_eq_false c_13, decide_eq_false c_23, Bool.not_true, Bool.not_false, Bool.true_and, Bool.false_and, Bool.and_true, Bool.and_false, if_true, if_false, reduceIte, Bool.false_eq_true, Bool.and_self]) rfl
theorem i_X1_hasPart : ciOk yX1_hasPart cX1_hasPart 3 (some .boolean) wsX1_hasPart 2 := ⟨⟨_, rfl⟩, by decide +kernel⟩
set_option maxHeartbeats 1000000 in
set_option maxRecDepth 100000 in
theorem c_X1_put {l : Launch} {D : va_G} {cy : Nat → ClassId} {ad : Nat → Nat} {p0 : Nat → Int32} {p1 : Nat → Int32} {p2 : Nat → Int32} {ke : Int32} {tb : Nat → Int32} {t1 : Int32} {t2 : Int32} {t3 : Int32} {t4 : Int32} {t5 : Int32} {sb : Nat → Int32} {ss : Nat → Int32} {sw : Nat → Nat → Int64} {fd : Nat → Int32} {i : Nat} {j : Nat} {v : Int64} (hi : i < 4) (hj : j < 40) : Met l yX1_put wsX1_put (rmz 0 0) (wPre D (cK D cy ad) (cw cy ad (rr p0 p1 p2) ke tb t1 t2 t3 t4 t5 sb ss sw fd) [.ref (ad (34 + 2 * i)), .int (nI j), .long (v)]) (wPost D (cw cy ad (rr p0 p1 p2) ke tb t1 t2 t3 t4 t5 sb ss (va_up sw i (vp_updL (sw i) j (narF (sb i) v))) fd) none (cA ad)) 0 0 (cA ad) := by
  refine wq_entry rfl rfl (Nat.le_of_ble_eq_true rfl) ?_
  intro p e s0 m args below meth c S hr hlocks hK hP ls hl
  have S : CallFix p m c cX1_put 4 s0 args wsX1_put RX1 := S
  obtain ⟨hx, hb, hml, hown, hts⟩ := id S
  have hin1 : ∀ w ∈ wsX10, w ∈ wsX1_put := fun w h => List.mem_cons_of_mem _ (List.mem_append_right _ h)
  have hS : va_S (cA ad) s0.heap s0.heap [] := va_S.rf
  have hl : lv_has ls 4 [(0, .ref (ad (34 + 2 * i))), (1, .int (nI j)), (2, .long (v))] := hl
  generalize hQ : MQ below (wPost D (cw cy ad (rr p0 p1 p2) ke tb t1 t2 t3 t4 t5 sb ss (va_up sw i (vp_updL (sw i) j (narF (sb i) v))) fd) none (cA ad)) args s0 0 0 (cA ad) = Q
  refine lv_aload_n hx hb dX1_put_0 rfl (lv_at hl 0 rfl) ?_
  refine c_get (v := .int (sb i)) (C := RX1) (T := TX1) (N := 3) hx hb hts hin1 hown hK hP (34 + 2 * i) (by omega) (cE_sh (by omega)) rfl 1 (by decide) (Or.inl (hts (.fieldLink RX1 15 "PennyRoad$Sheet" "bits" "I") (by decide +kernel))) rfl dX1_put_1 ?_
  refine lv_bipush (v := nI 8) hx hb dX1_put_4 (by decide) ?_
  refine lv_icmp_ne (tgt := 22) hx hb dX1_put_6 (by decide) (fun c_6 => ?_) (fun c_6 => ?_)
  · skip
    refine lv_aload_n hx hb dX1_put_22 rfl (lv_at hl 0 rfl) ?_
    refine c_get (v := .int (sb i)) (C := RX1) (T := TX1) (N := 3) hx hb hts hin1 hown hK hP (34 + 2 * i) (by omega) (cE_sh (by omega)) rfl 1 (by decide) (Or.inl (hts (.fieldLink RX1 15 "PennyRoad$Sheet" "bits" "I") (by decide +kernel))) rfl dX1_put_23 ?_
    refine lv_bipush (v := nI 16) hx hb dX1_put_26 (by decide) ?_
    refine lv_icmp_ne (tgt := 44) hx hb dX1_put_28 (by decide) (fun c_28 => ?_) (fun c_28 => ?_)
    · skip
      refine lv_aload_n hx hb dX1_put_44 rfl (lv_at hl 0 rfl) ?_
      refine c_get (v := .ref (ad (35 + 2 * i))) (C := RX1) (T := TX1) (N := 3) hx hb hts hin1 hown hK hP (34 + 2 * i) (by omega) (cE_sh (by omega)) rfl 0 (by decide) (Or.inl (hts (.fieldLink RX1 9 "PennyRoad$Sheet" "row" "[J") (by decide +kernel))) rfl dX1_put_45 ?_
      refine lv_iload_n hx hb dX1_put_48 rfl (lv_at hl 1 rfl) ?_
      refine lv_lload_n hx hb dX1_put_49 rfl (lv_at hl 2 rfl) ?_
      refine c_astL hx hb hK hP hS i (by omega) (by omega) dX1_put_50 (fun H locs hP hS => ?_)
      subst hQ
      exact wq_rv hx hb hr hlocks hP hS dX1_put_51 rfl (by simp only [narF, if_neg c_6, if_neg c_28])
    · skip
      refine lv_aload_n hx hb dX1_put_31 rfl (lv_at hl 0 rfl) ?_
      refine c_get (v := .ref (ad (35 + 2 * i))) (C := RX1) (T := TX1) (N := 3) hx hb hts hin1 hown hK hP (34 + 2 * i) (by omega) (cE_sh (by omega)) rfl 0 (by decide) (Or.inl (hts (.fieldLink RX1 9 "PennyRoad$Sheet" "row" "[J") (by decide +kernel))) rfl dX1_put_32 ?_
      refine lv_iload_n hx hb dX1_put_35 rfl (lv_at hl 1 rfl) ?_
      refine lv_lload_n hx hb dX1_put_36 rfl (lv_at hl 2 rfl) ?_
      refine lv_l2i (v := (v).toInt32) hx hb dX1_put_37 rfl ?_
      refine lv_i2s (v := ((v).toInt32).toInt16.toInt32) hx hb dX1_put_38 rfl ?_
      refine lv_i2l (v := (((v).toInt32).toInt16.toInt32).toInt64) hx hb dX1_put_39 rfl ?_
      refine c_astL hx hb hK hP hS i (by omega) (by omega) dX1_put_40 (fun H locs hP hS => ?_)
      refine lv_goto (tgt := 51) hx hb dX1_put_41 (by decide) ?_
      subst hQ
      exact wq_rv hx hb hr hlocks hP hS dX1_put_51 rfl (by simp only [narF, if_neg c_6, if_pos c_28])
  · skip
    refine lv_aload_n hx hb dX1_put_9 rfl (lv_at hl 0 rfl) ?_
    refine c_get (v := .ref (ad (35 + 2 * i))) (C := RX1) (T := TX1) (N := 3) hx hb hts hin1 hown hK hP (34 + 2 * i) (by omega) (cE_sh (by omega)) rfl 0 (by decide) (Or.inl (hts (.fieldLink RX1 9 "PennyRoad$Sheet" "row" "[J") (by decide +kernel))) rfl dX1_put_10 ?_
    refine lv_iload_n hx hb dX1_put_13 rfl (lv_at hl 1 rfl) ?_
    refine lv_lload_n hx hb dX1_put_14 rfl (lv_at hl 2 rfl) ?_
    refine lv_l2i (v := (v).toInt32) hx hb dX1_put_15 rfl ?_
    refine lv_i2b (v := ((v).toInt32).toInt8.toInt32) hx hb dX1_put_16 rfl ?_
    refine lv_i2l (v := (((v).toInt32).toInt8.toInt32).toInt64) hx hb dX1_put_17 rfl ?_
    refine c_astL hx hb hK hP hS i (by omega) (by omega) dX1_put_18 (fun H locs hP hS => ?_)
    refine lv_goto (tgt := 51) hx hb dX1_put_19 (by decide) ?_
    subst hQ
    exact wq_rv hx hb hr hlocks hP hS dX1_put_51 rfl (by simp only [narF, if_pos c_6])
theorem i_X1_put : ciOk yX1_put cX1_put 4 none wsX1_put 2 := ⟨⟨_, rfl⟩, by decide +kernel⟩
set_option maxHeartbeats 1000000 in
set_option maxRecDepth 100000 in
theorem c_X1_rule {l : Launch} {D : va_G} {cy : Nat → ClassId} {ad : Nat → Nat} {p0 : Nat → Int32} {p1 : Nat → Int32} {p2 : Nat → Int32} {ke : Int32} {tb : Nat → Int32} {t1 : Int32} {t2 : Int32} {t3 : Int32} {t4 : Int32} {t5 : Int32} {sb : Nat → Int32} {ss : Nat → Int32} {sw : Nat → Nat → Int64} {fd : Nat → Int32} {i : Nat} {b : Int32} {n : Int32} (hi : i < 4) : Met l yX1_rule wsX1_rule (rmz 0 0) (wPre D (cK D cy ad) (cw cy ad (rr p0 p1 p2) ke tb t1 t2 t3 t4 t5 sb ss sw fd) [.ref (ad (34 + 2 * i)), .int (b), .int (n)]) (wPost D (cw cy ad (rr p0 p1 p2) ke tb t1 t2 t3 t4 t5 (upd sb i b) (upd ss i n) (va_up sw i (zrS (sw i) 40)) fd) none (cA ad)) 0 0 (cA ad) := by
  refine wq_entry rfl rfl (Nat.le_of_ble_eq_true rfl) ?_
  intro p e s0 m args below meth c S hr hlocks hK hP ls hl
  have S : CallFix p m c cX1_rule 4 s0 args wsX1_rule RX1 := S
  obtain ⟨hx, hb, hml, hown, hts⟩ := id S
  have hin1 : ∀ w ∈ wsX10, w ∈ wsX1_rule := fun w h => List.mem_cons_of_mem _ (List.mem_append_right _ h)
  have hS : va_S (cA ad) s0.heap s0.heap [] := va_S.rf
  have hl : lv_has ls 4 [(0, .ref (ad (34 + 2 * i))), (1, .int (b)), (2, .int (n))] := hl
  generalize hQ : MQ below (wPost D (cw cy ad (rr p0 p1 p2) ke tb t1 t2 t3 t4 t5 (upd sb i b) (upd ss i n) (va_up sw i (zrS (sw i) 40)) fd) none (cA ad)) args s0 0 0 (cA ad) = Q
  refine lv_aload_n hx hb dX1_rule_0 rfl (lv_at hl 0 rfl) ?_
  refine lv_iload_n hx hb dX1_rule_1 rfl (lv_at hl 1 rfl) ?_
  refine c_put (w' := (cw cy ad (rr p0 p1 p2) ke tb t1 t2 t3 t4 t5 (upd sb i b) ss sw fd)) (ty := .int) (C := RX1) (T := TX1) (N := 3) hx hb hts hin1 tyX1 tyX1_ok nmX1 hown hK hP hS (34 + 2 * i) (by omega) (cE_sh (by omega)) rfl 1 (by decide) (Or.inl (hts (.fieldLink RX1 15 "PennyRoad$Sheet" "bits" "I") (by decide +kernel))) rfl (by decide +kernel) rfl rfl (by show _ < 3; decide) ((cs_sh (by omega)).trans (by rw [upd_id])) dX1_rule_2 (fun H locs hP hS => ?_)
  refine lv_aload_n hx hb dX1_rule_5 rfl (lv_at hl 0 rfl) ?_
  refine lv_iload_n hx hb dX1_rule_6 rfl (lv_at hl 2 rfl) ?_
  refine c_put (w' := (cw cy ad (rr p0 p1 p2) ke tb t1 t2 t3 t4 t5 (upd sb i b) (upd ss i n) sw fd)) (ty := .int) (C := RX1) (T := TX1) (N := 3) hx hb hts hin1 tyX1 tyX1_ok nmX1 hown hK hP hS (34 + 2 * i) (by omega) (cE_sh (by omega)) rfl 2 (by decide) (Or.inl (hts (.fieldLink RX1 19 "PennyRoad$Sheet" "size" "I") (by decide +kernel))) rfl (by decide +kernel) rfl rfl (by show _ < 3; decide) ((cs_sh (by omega)).trans (by rw [upd_id])) dX1_rule_7 (fun H locs hP hS => ?_)
  refine lv_iconst (v := nI 0) hx hb dX1_rule_10 (by decide) ?_
  refine lv_istore_n (lv' := [(3, .int (nI 0)), (0, .ref (ad (34 + 2 * i))), (1, .int (b)), (2, .int (n))]) hx hb dX1_rule_11 rfl hl (by decide) rfl (fun ls hl => ?_)
  have L_12 : ∀ (m_ : Nat) (j : Nat) (H : Heap) (locs : List Loc) (ls : Array Slot), (j + m_ = 40) → va_P D vwCl (cw cy ad (rr p0 p1 p2) ke tb t1 t2 t3 t4 t5 (upd sb i b) (upd ss i n) (va_up sw i (zrS (sw i) j)) fd) H → va_S (cA ad) s0.heap H locs → lv_has ls 4 [(3, .int (nI j)), (0, .ref (ad (34 + 2 * i))), (1, .int (b)), (2, .int (n))] → W p l e (rmz 0 0) s0 m args below meth c H locs 0 0 Q (F0 m 12 ls []) := by
    intro m_
    induction m_ with
    | zero =>
      intro j H locs ls hj hP hS hl
      refine lv_iload_n hx hb dX1_rule_12 rfl (lv_at hl 0 rfl) ?_
      refine lv_bipush (v := nI 40) hx hb dX1_rule_13 (by decide) ?_
      refine lvn_icmp_ge (tgt := 31) hx hb dX1_rule_15 (by decide) (by omega) (by omega) (fun c_15 => ?_) (fun c_15 => ?_)
      · skip
        have hj9 : j = 40 := by omega
        subst hj9
        subst hQ
        exact wq_rv hx hb hr hlocks hP hS dX1_rule_31 rfl rfl
      · skip
        exfalso; omega
    | succ m_ ih_12 =>
      intro j H locs ls hj hP hS hl
      refine lv_iload_n hx hb dX1_rule_12 rfl (lv_at hl 0 rfl) ?_
      refine lv_bipush (v := nI 40) hx hb dX1_rule_13 (by decide) ?_
      refine lvn_icmp_ge (tgt := 31) hx hb dX1_rule_15 (by decide) (by omega) (by omega) (fun c_15 => ?_) (fun c_15 => ?_)
      · skip
        exfalso; omega
      · skip
        refine lv_aload_n hx hb dX1_rule_18 rfl (lv_at hl 1 rfl) ?_
        refine c_get (v := .ref (ad (35 + 2 * i))) (C := RX1) (T := TX1) (N := 3) hx hb hts hin1 hown hK hP (34 + 2 * i) (by omega) (cE_sh (by omega)) rfl 0 (by decide) (Or.inl (hts (.fieldLink RX1 9 "PennyRoad$Sheet" "row" "[J") (by decide +kernel))) rfl dX1_rule_19 ?_
        refine lv_iload_n hx hb dX1_rule_22 rfl (lv_at hl 0 rfl) ?_
        refine lv_lconst (v := 0) hx hb dX1_rule_23 (by decide) ?_
        refine c_astL hx hb hK hP hS i (by omega) (by omega) dX1_rule_24 (fun H locs hP hS => ?_)
        refine lv_iinc (v := nI (j + 1)) (lv' := [(3, .int (nI (j + 1))), (0, .ref (ad (34 + 2 * i))), (1, .int (b)), (2, .int (n))]) hx hb dX1_rule_25 hl (k := 0) rfl (nI_add _ _) (by decide) rfl (fun ls hl => ?_)
        refine lv_goto (tgt := 12) hx hb dX1_rule_28 (by decide) ?_
        exact ih_12 (j + 1) _ _ ls (by omega) (by rw [zrS_s] at hP; exact hP) hS hl
  exact L_12 40 0 _ _ ls (by omega) (by rw [zrS_0]; exact hP) hS hl
theorem i_X1_rule : ciOk yX1_rule cX1_rule 4 none wsX1_rule 2 := ⟨⟨_, rfl⟩, by decide +kernel⟩
set_option maxHeartbeats 1000000 in
set_option maxRecDepth 100000 in
theorem c_X4_sheet {l : Launch} {D : va_G} {cy : Nat → ClassId} {ad : Nat → Nat} {p0 : Nat → Int32} {p1 : Nat → Int32} {p2 : Nat → Int32} {ke : Int32} {tb : Nat → Int32} {t1 : Int32} {t2 : Int32} {t3 : Int32} {t4 : Int32} {t5 : Int32} {sb : Nat → Int32} {ss : Nat → Int32} {sw : Nat → Nat → Int64} {fd : Nat → Int32} {q : Int32} {o : Int32} {v : Int32} : Met l yX4_sheet wsX4_sheet (rmz 2 42) (wPre D (cK D cy ad) (cw cy ad (rr p0 p1 p2) ke tb t1 t2 t3 t4 t5 sb ss sw fd) [.ref (ad 0), .int (q), .int (o), .int (v)]) (cPub D cy ad (some (.int (if rg 0 3 q ∧ bitsOk o then (if 0 ≤ v then (if v ≤ nI 40 then (if o = 0 then nI 0 else v) else -1000000001) else -1000000007) else -1000000001))) p0 p2 ke tb t1 (if rg 0 3 q ∧ bitsOk o then (if 0 ≤ v then (if v ≤ nI 40 then upd sb q.toNatClampNeg o else sb) else sb) else sb) (if rg 0 3 q ∧ bitsOk o then (if 0 ≤ v then (if v ≤ nI 40 then upd ss q.toNatClampNeg (if o = 0 then nI 0 else v) else ss) else ss) else ss) (if rg 0 3 q ∧ bitsOk o then (if 0 ≤ v then (if v ≤ nI 40 then va_up sw q.toNatClampNeg (zrS (sw q.toNatClampNeg) 40) else sw) else sw) else sw) (if rg 0 3 q ∧ bitsOk o then (if 0 ≤ v then (if v ≤ nI 40 then fd else fnd fd 0) else fnd fd 6) else fnd fd 0)) 0 0 (cA ad) := by
  refine wq_entry rfl rfl (Nat.le_of_ble_eq_true rfl) ?_
  intro p e s0 m args below meth c S hr hlocks hK hP ls hl
  have S : CallFix p m c cX4_sheet 4 s0 args wsX4_sheet RX4 := S
  obtain ⟨hx, hb, hml, hown, hts⟩ := id S
  have hin4 : ∀ w ∈ wsX40, w ∈ wsX4_sheet := fun w h => List.mem_cons_of_mem _ (List.mem_append_left _ (List.mem_append_right _ h))
  have hin1 : ∀ w ∈ wsX10, w ∈ wsX4_sheet := fun w h => List.mem_cons_of_mem _ (List.mem_append_right _ h)
  have hS : va_S (cA ad) s0.heap s0.heap [] := va_S.rf
  have hl : lv_has ls 4 [(0, .ref (ad 0)), (1, .int (q)), (2, .int (o)), (3, .int (v))] := hl
  generalize hQ : MQ below (cPub D cy ad (some (.int (if rg 0 3 q ∧ bitsOk o then (if 0 ≤ v then (if v ≤ nI 40 then (if o = 0 then nI 0 else v) else -1000000001) else -1000000007) else -1000000001))) p0 p2 ke tb t1 (if rg 0 3 q ∧ bitsOk o then (if 0 ≤ v then (if v ≤ nI 40 then upd sb q.toNatClampNeg o else sb) else sb) else sb) (if rg 0 3 q ∧ bitsOk o then (if 0 ≤ v then (if v ≤ nI 40 then upd ss q.toNatClampNeg (if o = 0 then nI 0 else v) else ss) else ss) else ss) (if rg 0 3 q ∧ bitsOk o then (if 0 ≤ v then (if v ≤ nI 40 then va_up sw q.toNatClampNeg (zrS (sw q.toNatClampNeg) 40) else sw) else sw) else sw) (if rg 0 3 q ∧ bitsOk o then (if 0 ≤ v then (if v ≤ nI 40 then fd else fnd fd 0) else fnd fd 6) else fnd fd 0)) args s0 0 0 (cA ad) = Q
  refine lv_iload_n hx hb dX4_sheet_0 rfl (lv_at hl 1 rfl) ?_
  refine sq_S S (c_X4_isSheet) gX4_sheet_X4_isSheet i_X4_isSheet ⟨Nat.le_of_ble_eq_true rfl, Nat.le_of_ble_eq_true rfl⟩ rfl hl.1 (As := [.int (q)]) (rest := []) (st1 := [.int (z (rg 0 3 (q)))]) rfl rfl (Nat.le_of_ble_eq_true rfl) ⟨Nat.le_of_ble_eq_true rfl, Nat.le_of_ble_eq_true rfl⟩ dX4_sheet_1 ?_
  refine lvz_if_eq (tgt := 29) hx hb dX4_sheet_4 (by decide) (fun c_4 => ?_) (fun c_4 => ?_)
  · skip
    refine lv_aload_n hx hb dX4_sheet_29 rfl (lv_at hl 0 rfl) ?_
    refine lv_iconst (v := nI 0) hx hb dX4_sheet_30 (by decide) ?_
    refine wq_V S cK_ok hK hP hS (c_X4_finding (t := 0) (by decide)) gX4_sheet_X4_finding i_X4_finding rfl (c_rec hK hP 0 (by decide) cE_0 rfl) ⟨Nat.le_of_ble_eq_true rfl, Nat.le_of_ble_eq_true rfl⟩ rfl hl.1 (As := [.int (nI 0)]) (rest := []) (st1 := [.int ((-1000000001))]) rfl rfl (Nat.le_of_ble_eq_true rfl) ⟨Nat.le_of_ble_eq_true rfl, Nat.le_of_ble_eq_true rfl⟩ dX4_sheet_31 (fun H locs hP hS => ?_)
    subst hQ
    exact cp_ri hx hb hr hlocks hP hS dX4_sheet_34 (by first | with_reducible rfl | (simp only [fnd, bitsOk, upd_s, if_neg c_4]; done) | (simp only [fnd, bitsOk, upd_s, c_4, Bool.true_and, Bool.false_and, Bool.true_or, Bool.or_true, Bool.false_or, Bool.or_false, Bool.and_true, Bool.and_false, Bool.or_self, Bool.and_self, Bool.false_eq_true, Bool.true_eq_false, and_true, true_and, false_and, and_false, and_self, not_true_eq_false, not_false_eq_true, if_true, if_false, reduceIte, or_false, false_or, true_or, or_true]; done) | (subst_vars; first | with_reducible rfl | (simp only [fnd, bitsOk, upd_s, if_neg c_4]; done) | (simp only [fnd, bitsOk, upd_s, c_4, Bool.true_and, Bool.false_and, Bool.true_or, Bool.or_true, Bool.false_or, Bool.or_false, Bool.and_true, Bool.and_false, Bool.or_self, Bool.and_self, Bool.false_eq_true, Bool.true_eq_false, and_true, true_and, false_and, and_false, and_self, not_true_eq_false, not_false_eq_true, if_true, if_false, reduceIte, or_false, false_or, true_or, or_true]; done)) | contradiction | rfl) (by first | with_reducible rfl | (simp only [fnd, bitsOk, upd_s, if_neg c_4]; done) | (simp only [fnd, bitsOk, upd_s, c_4, Bool.true_and, Bool.false_and, Bool.true_or, Bool.or_true, Bool.false_or, Bool.or_false, Bool.and_true, Bool.and_false, Bool.or_self, Bool.and_self, Bool.false_eq_true, Bool.true_eq_false, and_true, true_and, false_and, and_false, and_self, not_true_eq_false, not_false_eq_true, if_true, if_false, reduceIte, or_false, false_or, true_or, or_true]; done) | (subst_vars; first | with_reducible rfl | (simp only [fnd, bitsOk, upd_s, if_neg c_4]; done) | (simp only [fnd, bitsOk, upd_s, c_4, Bool.true_and, Bool.false_and, Bool.true_or, Bool.or_true, Bool.false_or, Bool.or_false, Bool.and_true, Bool.and_false, Bool.or_self, Bool.and_self, Bool.false_eq_true, Bool.true_eq_false, and_true, true_and, false_and, and_false, and_self, not_true_eq_false, not_false_eq_true, if_true, if_false, reduceIte, or_false, false_or, true_or, or_true]; done)) | contradiction | rfl)
  · skip
    refine lv_iload_n hx hb dX4_sheet_7 rfl (lv_at hl 2 rfl) ?_
    refine lv_if_eq (tgt := 35) hx hb dX4_sheet_8 (by decide) (fun c_8 => ?_) (fun c_8 => ?_)
    · skip
      refine lv_iload_n hx hb dX4_sheet_35 rfl (lv_at hl 3 rfl) ?_
      refine lv_if_ge (tgt := 46) hx hb dX4_sheet_36 (by decide) (fun c_36 => ?_) (fun c_36 => ?_)
      · skip
        refine lv_iload_n hx hb dX4_sheet_46 rfl (lv_at hl 3 rfl) ?_
        refine lv_bipush (v := nI 40) hx hb dX4_sheet_47 (by decide) ?_
        refine lv_icmp_le (tgt := 58) hx hb dX4_sheet_49 (by decide) (fun c_49 => ?_) (fun c_49 => ?_)
        · skip
          obtain ⟨i, h_i, h_i2, rfl⟩ := rg_ix (a := 0) (b := 3) (by decide) c_4
          have hcl_i : (nI i).toNatClampNeg = i := nI_clamp (by omega)
          refine lv_aload_n hx hb dX4_sheet_58 rfl (lv_at hl 0 rfl) ?_
          refine c_get (v := .ref (ad 33)) (C := RX4) (T := TX4) (N := 7) hx hb hts hin4 hown hK hP (0) (by decide) cE_0 rfl 5 (by decide) (Or.inl (hts (.fieldLink RX4 35 "PennyRoad" "sheets" "[LPennyRoad$Sheet;") (by decide +kernel))) rfl dX4_sheet_59 ?_
          refine lv_iload_n hx hb dX4_sheet_62 rfl (lv_at hl 1 rfl) ?_
          refine c_aldS hx hb hK hP (by omega) dX4_sheet_63 ?_
          refine lv_iload_n hx hb dX4_sheet_64 rfl (lv_at hl 2 rfl) ?_
          refine lv_iload_n hx hb dX4_sheet_65 rfl (lv_at hl 2 rfl) ?_
          have K_1 : ∀ (x_2 : Int32) (H : Heap) (locs : List Loc) (ls : Array Slot), x_2 = (if (o) = 0 then (nI 0) else v) → va_P D vwCl (cw cy ad (rr p0 p1 p2) ke tb t1 t2 t3 t4 t5 sb ss sw fd) H → va_S (cA ad) s0.heap H locs → lv_has ls 4 [(0, .ref (ad 0)), (1, .int (nI i)), (2, .int (o)), (3, .int (v))] → W p l e (rmz 2 42) s0 m args below meth c H locs 0 0 Q (F0 m 74 ls [.int (x_2), .int (o), .ref (ad (34 + 2 * i))]) := by
            intro x_2 H locs ls ex_2 hP hS hl
            refine wq_VN (host := "PennyRoad") S cK_ok hK hP hS (c_X1_rule (by omega)) gX4_sheet_X1_rule_n179 i_X1_rule (c_nest hK 54 rfl) (hts (.initialized RX1) (by decide +kernel)) (hts (.instanceMethod yX1_rule) (by decide +kernel)) (hts (.selects RX1 yX1_rule yX1_rule) (by decide +kernel)) (c_rec hK hP (34 + 2 * i) (by omega) (cE_sh (by omega)) rfl) ⟨Nat.le_of_ble_eq_true rfl, Nat.le_of_ble_eq_true rfl⟩ rfl hl.1 (As := [.int (o), .int (x_2)]) (rest := []) (st1 := []) rfl rfl (Nat.le_of_ble_eq_true rfl) ⟨Nat.le_of_ble_eq_true rfl, Nat.le_of_ble_eq_true rfl⟩ dX4_sheet_74 (fun H locs hP hS => ?_)
            refine lv_aload_n hx hb dX4_sheet_77 rfl (lv_at hl 0 rfl) ?_
            refine c_get (v := .ref (ad 33)) (C := RX4) (T := TX4) (N := 7) hx hb hts hin4 hown hK hP (0) (by decide) cE_0 rfl 5 (by decide) (Or.inl (hts (.fieldLink RX4 35 "PennyRoad" "sheets" "[LPennyRoad$Sheet;") (by decide +kernel))) rfl dX4_sheet_78 ?_
            refine lv_iload_n hx hb dX4_sheet_81 rfl (lv_at hl 1 rfl) ?_
            refine c_aldS hx hb hK hP (by omega) dX4_sheet_82 ?_
            refine c_get (v := .int ((upd ss i (x_2)) i)) (C := RX1) (T := TX1) (N := 3) hx hb hts hin1 hown hK hP (34 + 2 * i) (by omega) (cE_sh (by omega)) rfl 2 (by decide) (Or.inr (c_nest hK 30 rfl)) rfl dX4_sheet_83 ?_
            subst hQ
            exact cp_ri hx hb hr hlocks hP hS dX4_sheet_86 (by first | with_reducible rfl | (simp only [fnd, bitsOk, upd_s, if_pos c_4, if_pos c_8, if_pos c_36, if_pos c_49]; done) | (simp only [fnd, bitsOk, upd_s, decide_eq_true c_8, decide_eq_true c_36, decide_eq_true c_49, hcl_i, ex_2, c_4, if_pos c_8, if_pos c_36, if_pos c_49, Bool.true_and, Bool.false_and, Bool.true_or, Bool.or_true, Bool.false_or, Bool.or_false, Bool.and_true, Bool.and_false, Bool.or_self, Bool.and_self, Bool.false_eq_true, Bool.true_eq_false, and_true, true_and, false_and, and_false, and_self, not_true_eq_false, not_false_eq_true, if_true, if_false, reduceIte, or_false, false_or, true_or, or_true]; done) | (subst_vars; first | with_reducible rfl | (simp only [fnd, bitsOk, upd_s, if_pos c_4, if_pos c_8, if_pos c_36, if_pos c_49]; done) | (simp only [fnd, bitsOk, upd_s, decide_eq_true c_8, decide_eq_true c_36, decide_eq_true c_49, hcl_i, ex_2, c_4, if_pos c_8, if_pos c_36, if_pos c_49, Bool.true_and, Bool.false_and, Bool.true_or, Bool.or_true, Bool.false_or, Bool.or_false, Bool.and_true, Bool.and_false, Bool.or_self, Bool.and_self, Bool.false_eq_true, Bool.true_eq_false, and_true, true_and, false_and, and_false, and_self, not_true_eq_false, not_false_eq_true, if_true, if_false, reduceIte, or_false, false_or, true_or, or_true]; done)) | contradiction | rfl) (by first | with_reducible rfl | (simp only [fnd, bitsOk, upd_s, if_pos c_4, if_pos c_8, if_pos c_36, if_pos c_49]; done) | (simp only [fnd, bitsOk, upd_s, decide_eq_true c_8, decide_eq_true c_36, decide_eq_true c_49, hcl_i, ex_2, c_4, if_pos c_8, if_pos c_36, if_pos c_49, Bool.true_and, Bool.false_and, Bool.true_or, Bool.or_true, Bool.false_or, Bool.or_false, Bool.and_true, Bool.and_false, Bool.or_self, Bool.and_self, Bool.false_eq_true, Bool.true_eq_false, and_true, true_and, false_and, and_false, and_self, not_true_eq_false, not_false_eq_true, if_true, if_false, reduceIte, or_false, false_or, true_or, or_true]; done) | (subst_vars; first | with_reducible rfl | (simp only [fnd, bitsOk, upd_s, if_pos c_4, if_pos c_8, if_pos c_36, if_pos c_49]; done) | (simp only [fnd, bitsOk, upd_s, decide_eq_true c_8, decide_eq_true c_36, decide_eq_true c_49, hcl_i, ex_2, c_4, if_pos c_8, if_pos c_36, if_pos c_49, Bool.true_and, Bool.false_and, Bool.true_or, Bool.or_true, Bool.false_or, Bool.or_false, Bool.and_true, Bool.and_false, Bool.or_self, Bool.and_self, Bool.false_eq_true, Bool.true_eq_false, and_true, true_and, false_and, and_false, and_self, not_true_eq_false, not_false_eq_true, if_true, if_false, reduceIte, or_false, false_or, true_or, or_true]; done)) | contradiction | rfl)
          refine lv_if_ne (tgt := 73) hx hb dX4_sheet_66 (by decide) (fun c_66 => ?_) (fun c_66 => ?_)
          · skip
            refine lv_iload_n hx hb dX4_sheet_73 rfl (lv_at hl 3 rfl) ?_
            exact K_1 (v) _ _ ls (by simp only [if_neg c_66]) hP hS hl
          · skip
            refine lv_iconst (v := nI 0) hx hb dX4_sheet_69 (by decide) ?_
            refine lv_goto (tgt := 74) hx hb dX4_sheet_70 (by decide) ?_
            exact K_1 (nI 0) _ _ ls (by simp only [if_pos c_66]) hP hS hl
        · skip
          refine lv_aload_n hx hb dX4_sheet_52 rfl (lv_at hl 0 rfl) ?_
          refine lv_iconst (v := nI 0) hx hb dX4_sheet_53 (by decide) ?_
          refine wq_V S cK_ok hK hP hS (c_X4_finding (t := 0) (by decide)) gX4_sheet_X4_finding i_X4_finding rfl (c_rec hK hP 0 (by decide) cE_0 rfl) ⟨Nat.le_of_ble_eq_true rfl, Nat.le_of_ble_eq_true rfl⟩ rfl hl.1 (As := [.int (nI 0)]) (rest := []) (st1 := [.int ((-1000000001))]) rfl rfl (Nat.le_of_ble_eq_true rfl) ⟨Nat.le_of_ble_eq_true rfl, Nat.le_of_ble_eq_true rfl⟩ dX4_sheet_54 (fun H locs hP hS => ?_)
          subst hQ
          exact cp_ri hx hb hr hlocks hP hS dX4_sheet_57 (by first | with_reducible rfl | (simp only [fnd, bitsOk, upd_s, if_pos c_4, if_pos c_8, if_pos c_36, if_neg c_49]; done) | (simp only [fnd, bitsOk, upd_s, decide_eq_true c_8, decide_eq_true c_36, decide_eq_false c_49, c_4, if_pos c_8, if_pos c_36, if_neg c_49, Bool.true_and, Bool.false_and, Bool.true_or, Bool.or_true, Bool.false_or, Bool.or_false, Bool.and_true, Bool.and_false, Bool.or_self, Bool.and_self, Bool.false_eq_true, Bool.true_eq_false, and_true, true_and, false_and, and_false, and_self, not_true_eq_false, not_false_eq_true, if_true, if_false, reduceIte, or_false, false_or, true_or, or_true]; done) | (subst_vars; first | with_reducible rfl | (simp only [fnd, bitsOk, upd_s, if_pos c_4, if_pos c_8, if_pos c_36, if_neg c_49]; done) | (simp only [fnd, bitsOk, upd_s, decide_eq_true c_8, decide_eq_true c_36, decide_eq_false c_49, c_4, if_pos c_8, if_pos c_36, if_neg c_49, Bool.true_and, Bool.false_and, Bool.true_or, Bool.or_true, Bool.false_or, Bool.or_false, Bool.and_true, Bool.and_false, Bool.or_self, Bool.and_self, Bool.false_eq_true, Bool.true_eq_false, and_true, true_and, false_and, and_false, and_self, not_true_eq_false, not_false_eq_true, if_true, if_false, reduceIte, or_false, false_or, true_or, or_true]; done)) | contradiction | rfl) (by first | with_reducible rfl | (simp only [fnd, bitsOk, upd_s, if_pos c_4, if_pos c_8, if_pos c_36, if_neg c_49]; done) | (simp only [fnd, bitsOk, upd_s, decide_eq_true c_8, decide_eq_true c_36, decide_eq_false c_49, c_4, if_pos c_8, if_pos c_36, if_neg c_49, Bool.true_and, Bool.false_and, Bool.true_or, Bool.or_true, Bool.false_or, Bool.or_false, Bool.and_true, Bool.and_false, Bool.or_self, Bool.and_self, Bool.false_eq_true, Bool.true_eq_false, and_true, true_and, false_and, and_false, and_self, not_true_eq_false, not_false_eq_true, if_true, if_false, reduceIte, or_false, false_or, true_or, or_true]; done) | (subst_vars; first | with_reducible rfl | (simp only [fnd, bitsOk, upd_s, if_pos c_4, if_pos c_8, if_pos c_36, if_neg c_49]; done) | (simp only [fnd, bitsOk, upd_s, decide_eq_true c_8, decide_eq_true c_36, decide_eq_false c_49, c_4, if_pos c_8, if_pos c_36, if_neg c_49, Bool.true_and, Bool.false_and, Bool.true_or, Bool.or_true, Bool.false_or, Bool.or_false, Bool.and_true, Bool.and_false, Bool.or_self, Bool.and_self, Bool.false_eq_true, Bool.true_eq_false, and_true, true_and, false_and, and_false, and_self, not_true_eq_false, not_false_eq_true, if_true, if_false, reduceIte, or_false, false_or, true_or, or_true]; done)) | contradiction | rfl)
      · skip
        refine lv_aload_n hx hb dX4_sheet_39 rfl (lv_at hl 0 rfl) ?_
        refine lv_bipush (v := nI 6) hx hb dX4_sheet_40 (by decide) ?_
        refine wq_V S cK_ok hK hP hS (c_X4_finding (t := 6) (by decide)) gX4_sheet_X4_finding i_X4_finding rfl (c_rec hK hP 0 (by decide) cE_0 rfl) ⟨Nat.le_of_ble_eq_true rfl, Nat.le_of_ble_eq_true rfl⟩ rfl hl.1 (As := [.int (nI 6)]) (rest := []) (st1 := [.int ((-1000000007))]) rfl rfl (Nat.le_of_ble_eq_true rfl) ⟨Nat.le_of_ble_eq_true rfl, Nat.le_of_ble_eq_true rfl⟩ dX4_sheet_42 (fun H locs hP hS => ?_)
        subst hQ
        exact cp_ri hx hb hr hlocks hP hS dX4_sheet_45 (by first | with_reducible rfl | (simp only [fnd, bitsOk, upd_s, if_pos c_4, if_pos c_8, if_neg c_36]; done) | (simp only [fnd, bitsOk, upd_s, decide_eq_true c_8, decide_eq_false c_36, c_4, if_pos c_8, if_neg c_36, Bool.true_and, Bool.false_and, Bool.true_or, Bool.or_true, Bool.false_or, Bool.or_false, Bool.and_true, Bool.and_false, Bool.or_self, Bool.and_self, Bool.false_eq_true, Bool.true_eq_false, and_true, true_and, false_and, and_false, and_self, not_true_eq_false, not_false_eq_true, if_true, if_false, reduceIte, or_false, false_or, true_or, or_true]; done) | (subst_vars; first | with_reducible rfl | (simp only [fnd, bitsOk, upd_s, if_pos c_4, if_pos c_8, if_neg c_36]; done) | (simp only [fnd, bitsOk, upd_s, decide_eq_true c_8, decide_eq_false c_36, c_4, if_pos c_8, if_neg c_36, Bool.true_and, Bool.false_and, Bool.true_or, Bool.or_true, Bool.false_or, Bool.or_false, Bool.and_true, Bool.and_false, Bool.or_self, Bool.and_self, Bool.false_eq_true, Bool.true_eq_false, and_true, true_and, false_and, and_false, and_self, not_true_eq_false, not_false_eq_true, if_true, if_false, reduceIte, or_false, false_or, true_or, or_true]; done)) | contradiction | rfl) (by first | with_reducible rfl | (simp only [fnd, bitsOk, upd_s, if_pos c_4, if_pos c_8, if_neg c_36]; done) | (simp only [fnd, bitsOk, upd_s, decide_eq_true c_8, decide_eq_false c_36, c_4, if_pos c_8, if_neg c_36, Bool.true_and, Bool.false_and, Bool.true_or, Bool.or_true, Bool.false_or, Bool.or_false, Bool.and_true, Bool.and_false, Bool.or_self, Bool.and_self, Bool.false_eq_true, Bool.true_eq_false, and_true, true_and, false_and, and_false, and_self, not_true_eq_false, not_false_eq_true, if_true, if_false, reduceIte, or_false, false_or, true_or, or_true]; done) | (subst_vars; first | with_reducible rfl | (simp only [fnd, bitsOk, upd_s, if_pos c_4, if_pos c_8, if_neg c_36]; done) | (simp only [fnd, bitsOk, upd_s, decide_eq_true c_8, decide_eq_false c_36, c_4, if_pos c_8, if_neg c_36, Bool.true_and, Bool.false_and, Bool.true_or, Bool.or_true, Bool.false_or, Bool.or_false, Bool.and_true, Bool.and_false, Bool.or_self, Bool.and_self, Bool.false_eq_true, Bool.true_eq_false, and_true, true_and, false_and, and_false, and_self, not_true_eq_false, not_false_eq_true, if_true, if_false, reduceIte, or_false, false_or, true_or, or_true]; done)) | contradiction | rfl)
    · skip
      refine lv_iload_n hx hb dX4_sheet_11 rfl (lv_at hl 2 rfl) ?_
      refine lv_bipush (v := nI 8) hx hb dX4_sheet_12 (by decide) ?_
      refine lv_icmp_eq (tgt := 35) hx hb dX4_sheet_14 (by decide) (fun c_14 => ?_) (fun c_14 => ?_)
      · skip
        refine lv_iload_n hx hb dX4_sheet_35 rfl (lv_at hl 3 rfl) ?_
        refine lv_if_ge (tgt := 46) hx hb dX4_sheet_36 (by decide) (fun c_36 => ?_) (fun c_36 => ?_)
        · skip
          refine lv_iload_n hx hb dX4_sheet_46 rfl (lv_at hl 3 rfl) ?_
          refine lv_bipush (v := nI 40) hx hb dX4_sheet_47 (by decide) ?_
          refine lv_icmp_le (tgt := 58) hx hb dX4_sheet_49 (by decide) (fun c_49 => ?_) (fun c_49 => ?_)
          · skip
            obtain ⟨i, h_i, h_i2, rfl⟩ := rg_ix (a := 0) (b := 3) (by decide) c_4
            have hcl_i : (nI i).toNatClampNeg = i := nI_clamp (by omega)
            refine lv_aload_n hx hb dX4_sheet_58 rfl (lv_at hl 0 rfl) ?_
            refine c_get (v := .ref (ad 33)) (C := RX4) (T := TX4) (N := 7) hx hb hts hin4 hown hK hP (0) (by decide) cE_0 rfl 5 (by decide) (Or.inl (hts (.fieldLink RX4 35 "PennyRoad" "sheets" "[LPennyRoad$Sheet;") (by decide +kernel))) rfl dX4_sheet_59 ?_
            refine lv_iload_n hx hb dX4_sheet_62 rfl (lv_at hl 1 rfl) ?_
            refine c_aldS hx hb hK hP (by omega) dX4_sheet_63 ?_
            refine lv_iload_n hx hb dX4_sheet_64 rfl (lv_at hl 2 rfl) ?_
            refine lv_iload_n hx hb dX4_sheet_65 rfl (lv_at hl 2 rfl) ?_
            have K_3 : ∀ (x_4 : Int32) (H : Heap) (locs : List Loc) (ls : Array Slot), x_4 = (if (o) = 0 then (nI 0) else v) → va_P D vwCl (cw cy ad (rr p0 p1 p2) ke tb t1 t2 t3 t4 t5 sb ss sw fd) H → va_S (cA ad) s0.heap H locs → lv_has ls 4 [(0, .ref (ad 0)), (1, .int (nI i)), (2, .int (o)), (3, .int (v))] → W p l e (rmz 2 42) s0 m args below meth c H locs 0 0 Q (F0 m 74 ls [.int (x_4), .int (o), .ref (ad (34 + 2 * i))]) := by
              intro x_4 H locs ls ex_4 hP hS hl
              refine wq_VN (host := "PennyRoad") S cK_ok hK hP hS (c_X1_rule (by omega)) gX4_sheet_X1_rule_n179 i_X1_rule (c_nest hK 54 rfl) (hts (.initialized RX1) (by decide +kernel)) (hts (.instanceMethod yX1_rule) (by decide +kernel)) (hts (.selects RX1 yX1_rule yX1_rule) (by decide +kernel)) (c_rec hK hP (34 + 2 * i) (by omega) (cE_sh (by omega)) rfl) ⟨Nat.le_of_ble_eq_true rfl, Nat.le_of_ble_eq_true rfl⟩ rfl hl.1 (As := [.int (o), .int (x_4)]) (rest := []) (st1 := []) rfl rfl (Nat.le_of_ble_eq_true rfl) ⟨Nat.le_of_ble_eq_true rfl, Nat.le_of_ble_eq_true rfl⟩ dX4_sheet_74 (fun H locs hP hS => ?_)
              refine lv_aload_n hx hb dX4_sheet_77 rfl (lv_at hl 0 rfl) ?_
              refine c_get (v := .ref (ad 33)) (C := RX4) (T := TX4) (N := 7) hx hb hts hin4 hown hK hP (0) (by decide) cE_0 rfl 5 (by decide) (Or.inl (hts (.fieldLink RX4 35 "PennyRoad" "sheets" "[LPennyRoad$Sheet;") (by decide +kernel))) rfl dX4_sheet_78 ?_
              refine lv_iload_n hx hb dX4_sheet_81 rfl (lv_at hl 1 rfl) ?_
              refine c_aldS hx hb hK hP (by omega) dX4_sheet_82 ?_
              refine c_get (v := .int ((upd ss i (x_4)) i)) (C := RX1) (T := TX1) (N := 3) hx hb hts hin1 hown hK hP (34 + 2 * i) (by omega) (cE_sh (by omega)) rfl 2 (by decide) (Or.inr (c_nest hK 30 rfl)) rfl dX4_sheet_83 ?_
              subst hQ
              exact cp_ri hx hb hr hlocks hP hS dX4_sheet_86 (by first | with_reducible rfl | (simp only [fnd, bitsOk, upd_s, if_pos c_4, if_neg c_8, if_pos c_14, if_pos c_36, if_pos c_49]; done) | (simp only [fnd, bitsOk, upd_s, decide_eq_false c_8, decide_eq_true c_14, decide_eq_true c_36, decide_eq_true c_49, hcl_i, ex_4, c_4, if_neg c_8, if_pos c_14, if_pos c_36, if_pos c_49, Bool.true_and, Bool.false_and, Bool.true_or, Bool.or_true, Bool.false_or, Bool.or_false, Bool.and_true, Bool.and_false, Bool.or_self, Bool.and_self, Bool.false_eq_true, Bool.true_eq_false, and_true, true_and, false_and, and_false, and_self, not_true_eq_false, not_false_eq_true, if_true, if_false, reduceIte, or_false, false_or, true_or, or_true]; done) | (subst_vars; first | with_reducible rfl | (simp only [fnd, bitsOk, upd_s, if_pos c_4, if_neg c_8, if_pos c_14, if_pos c_36, if_pos c_49]; done) | (simp only [fnd, bitsOk, upd_s, decide_eq_false c_8, decide_eq_true c_14, decide_eq_true c_36, decide_eq_true c_49, hcl_i, ex_4, c_4, if_neg c_8, if_pos c_14, if_pos c_36, if_pos c_49, Bool.true_and, Bool.false_and, Bool.true_or, Bool.or_true, Bool.false_or, Bool.or_false, Bool.and_true, Bool.and_false, Bool.or_self, Bool.and_self, Bool.false_eq_true, Bool.true_eq_false, and_true, true_and, false_and, and_false, and_self, not_true_eq_false, not_false_eq_true, if_true, if_false, reduceIte, or_false, false_or, true_or, or_true]; done)) | contradiction | rfl) (by first | with_reducible rfl | (simp only [fnd, bitsOk, upd_s, if_pos c_4, if_neg c_8, if_pos c_14, if_pos c_36, if_pos c_49]; done) | (simp only [fnd, bitsOk, upd_s, decide_eq_false c_8, decide_eq_true c_14, decide_eq_true c_36, decide_eq_true c_49, hcl_i, ex_4, c_4, if_neg c_8, if_pos c_14, if_pos c_36, if_pos c_49, Bool.true_and, Bool.false_and, Bool.true_or, Bool.or_true, Bool.false_or, Bool.or_false, Bool.and_true, Bool.and_false, Bool.or_self, Bool.and_self, Bool.false_eq_true, Bool.true_eq_false, and_true, true_and, false_and, and_false, and_self, not_true_eq_false, not_false_eq_true, if_true, if_false, reduceIte, or_false, false_or, true_or, or_true]; done) | (subst_vars; first | with_reducible rfl | (simp only [fnd, bitsOk, upd_s, if_pos c_4, if_neg c_8, if_pos c_14, if_pos c_36, if_pos c_49]; done) | (simp only [fnd, bitsOk, upd_s, decide_eq_false c_8, decide_eq_true c_14, decide_eq_true c_36, decide_eq_true c_49, hcl_i, ex_4, c_4, if_neg c_8, if_pos c_14, if_pos c_36, if_pos c_49, Bool.true_and, Bool.false_and, Bool.true_or, Bool.or_true, Bool.false_or, Bool.or_false, Bool.and_true, Bool.and_false, Bool.or_self, Bool.and_self, Bool.false_eq_true, Bool.true_eq_false, and_true, true_and, false_and, and_false, and_self, not_true_eq_false, not_false_eq_true, if_true, if_false, reduceIte, or_false, false_or, true_or, or_true]; done)) | contradiction | rfl)
            refine lv_if_ne (tgt := 73) hx hb dX4_sheet_66 (by decide) (fun c_66 => ?_) (fun c_66 => ?_)
            · skip
              refine lv_iload_n hx hb dX4_sheet_73 rfl (lv_at hl 3 rfl) ?_
              exact K_3 (v) _ _ ls (by simp only [if_neg c_66]) hP hS hl
            · skip
              refine lv_iconst (v := nI 0) hx hb dX4_sheet_69 (by decide) ?_
              refine lv_goto (tgt := 74) hx hb dX4_sheet_70 (by decide) ?_
              exact K_3 (nI 0) _ _ ls (by simp only [if_pos c_66]) hP hS hl
          · skip
            refine lv_aload_n hx hb dX4_sheet_52 rfl (lv_at hl 0 rfl) ?_
            refine lv_iconst (v := nI 0) hx hb dX4_sheet_53 (by decide) ?_
            refine wq_V S cK_ok hK hP hS (c_X4_finding (t := 0) (by decide)) gX4_sheet_X4_finding i_X4_finding rfl (c_rec hK hP 0 (by decide) cE_0 rfl) ⟨Nat.le_of_ble_eq_true rfl, Nat.le_of_ble_eq_true rfl⟩ rfl hl.1 (As := [.int (nI 0)]) (rest := []) (st1 := [.int ((-1000000001))]) rfl rfl (Nat.le_of_ble_eq_true rfl) ⟨Nat.le_of_ble_eq_true rfl, Nat.le_of_ble_eq_true rfl⟩ dX4_sheet_54 (fun H locs hP hS => ?_)
            subst hQ
            exact cp_ri hx hb hr hlocks hP hS dX4_sheet_57 (by first | with_reducible rfl | (simp only [fnd, bitsOk, upd_s, if_pos c_4, if_neg c_8, if_pos c_14, if_pos c_36, if_neg c_49]; done) | (simp only [fnd, bitsOk, upd_s, decide_eq_false c_8, decide_eq_true c_14, decide_eq_true c_36, decide_eq_false c_49, c_4, if_neg c_8, if_pos c_14, if_pos c_36, if_neg c_49, Bool.true_and, Bool.false_and, Bool.true_or, Bool.or_true, Bool.false_or, Bool.or_false, Bool.and_true, Bool.and_false, Bool.or_self, Bool.and_self, Bool.false_eq_true, Bool.true_eq_false, and_true, true_and, false_and, and_false, and_self, not_true_eq_false, not_false_eq_true, if_true, if_false, reduceIte, or_false, false_or, true_or, or_true]; done) | (subst_vars; first | with_reducible rfl | (simp only [fnd, bitsOk, upd_s, if_pos c_4, if_neg c_8, if_pos c_14, if_pos c_36, if_neg c_49]; done) | (simp only [fnd, bitsOk, upd_s, decide_eq_false c_8, decide_eq_true c_14, decide_eq_true c_36, decide_eq_false c_49, c_4, if_neg c_8, if_pos c_14, if_pos c_36, if_neg c_49, Bool.true_and, Bool.false_and, Bool.true_or, Bool.or_true, Bool.false_or, Bool.or_false, Bool.and_true, Bool.and_false, Bool.or_self, Bool.and_self, Bool.false_eq_true, Bool.true_eq_false, and_true, true_and, false_and, and_false, and_self, not_true_eq_false, not_false_eq_true, if_true, if_false, reduceIte, or_false, false_or, true_or, or_true]; done)) | contradiction | rfl) (by first | with_reducible rfl | (simp only [fnd, bitsOk, upd_s, if_pos c_4, if_neg c_8, if_pos c_14, if_pos c_36, if_neg c_49]; done) | (simp only [fnd, bitsOk, upd_s, decide_eq_false c_8, decide_eq_true c_14, decide_eq_true c_36, decide_eq_false c_49, c_4, if_neg c_8, if_pos c_14, if_pos c_36, if_neg c_49, Bool.true_and, Bool.false_and, Bool.true_or, Bool.or_true, Bool.false_or, Bool.or_false, Bool.and_true, Bool.and_false, Bool.or_self, Bool.and_self, Bool.false_eq_true, Bool.true_eq_false, and_true, true_and, false_and, and_false, and_self, not_true_eq_false, not_false_eq_true, if_true, if_false, reduceIte, or_false, false_or, true_or, or_true]; done) | (subst_vars; first | with_reducible rfl | (simp only [fnd, bitsOk, upd_s, if_pos c_4, if_neg c_8, if_pos c_14, if_pos c_36, if_neg c_49]; done) | (simp only [fnd, bitsOk, upd_s, decide_eq_false c_8, decide_eq_true c_14, decide_eq_true c_36, decide_eq_false c_49, c_4, if_neg c_8, if_pos c_14, if_pos c_36, if_neg c_49, Bool.true_and, Bool.false_and, Bool.true_or, Bool.or_true, Bool.false_or, Bool.or_false, Bool.and_true, Bool.and_false, Bool.or_self, Bool.and_self, Bool.false_eq_true, Bool.true_eq_false, and_true, true_and, false_and, and_false, and_self, not_true_eq_false, not_false_eq_true, if_true, if_false, reduceIte, or_false, false_or, true_or, or_true]; done)) | contradiction | rfl)
        · skip
          refine lv_aload_n hx hb dX4_sheet_39 rfl (lv_at hl 0 rfl) ?_
          refine lv_bipush (v := nI 6) hx hb dX4_sheet_40 (by decide) ?_
          refine wq_V S cK_ok hK hP hS (c_X4_finding (t := 6) (by decide)) gX4_sheet_X4_finding i_X4_finding rfl (c_rec hK hP 0 (by decide) cE_0 rfl) ⟨Nat.le_of_ble_eq_true rfl, Nat.le_of_ble_eq_true rfl⟩ rfl hl.1 (As := [.int (nI 6)]) (rest := []) (st1 := [.int ((-1000000007))]) rfl rfl (Nat.le_of_ble_eq_true rfl) ⟨Nat.le_of_ble_eq_true rfl, Nat.le_of_ble_eq_true rfl⟩ dX4_sheet_42 (fun H locs hP hS => ?_)
          subst hQ
          exact cp_ri hx hb hr hlocks hP hS dX4_sheet_45 (by first | with_reducible rfl | (simp only [fnd, bitsOk, upd_s, if_pos c_4, if_neg c_8, if_pos c_14, if_neg c_36]; done) | (simp only [fnd, bitsOk, upd_s, decide_eq_false c_8, decide_eq_true c_14, decide_eq_false c_36, c_4, if_neg c_8, if_pos c_14, if_neg c_36, Bool.true_and, Bool.false_and, Bool.true_or, Bool.or_true, Bool.false_or, Bool.or_false, Bool.and_true, Bool.and_false, Bool.or_self, Bool.and_self, Bool.false_eq_true, Bool.true_eq_false, and_true, true_and, false_and, and_false, and_self, not_true_eq_false, not_false_eq_true, if_true, if_false, reduceIte, or_false, false_or, true_or, or_true]; done) | (subst_vars; first | with_reducible rfl | (simp only [fnd, bitsOk, upd_s, if_pos c_4, if_neg c_8, if_pos c_14, if_neg c_36]; done) | (simp only [fnd, bitsOk, upd_s, decide_eq_false c_8, decide_eq_true c_14, decide_eq_false c_36, c_4, if_neg c_8, if_pos c_14, if_neg c_36, Bool.true_and, Bool.false_and, Bool.true_or, Bool.or_true, Bool.false_or, Bool.or_false, Bool.and_true, Bool.and_false, Bool.or_self, Bool.and_self, Bool.false_eq_true, Bool.true_eq_false, and_true, true_and, false_and, and_false, and_self, not_true_eq_false, not_false_eq_true, if_true, if_false, reduceIte, or_false, false_or, true_or, or_true]; done)) | contradiction | rfl) (by first | with_reducible rfl | (simp only [fnd, bitsOk, upd_s, if_pos c_4, if_neg c_8, if_pos c_14, if_neg c_36]; done) | (simp only [fnd, bitsOk, upd_s, decide_eq_false c_8, decide_eq_true c_14, decide_eq_false c_36, c_4, if_neg c_8, if_pos c_14, if_neg c_36, Bool.true_and, Bool.false_and, Bool.true_or, Bool.or_true, Bool.false_or, Bool.or_false, Bool.and_true, Bool.and_false, Bool.or_self, Bool.and_self, Bool.false_eq_true, Bool.true_eq_false, and_true, true_and, false_and, and_false, and_self, not_true_eq_false, not_false_eq_true, if_true, if_false, reduceIte, or_false, false_or, true_or, or_true]; done) | (subst_vars; first | with_reducible rfl | (simp only [fnd, bitsOk, upd_s, if_pos c_4, if_neg c_8, if_pos c_14, if_neg c_36]; done) | (simp only [fnd, bitsOk, upd_s, decide_eq_false c_8, decide_eq_true c_14, decide_eq_false c_36, c_4, if_neg c_8, if_pos c_14, if_neg c_36, Bool.true_and, Bool.false_and, Bool.true_or, Bool.or_true, Bool.false_or, Bool.or_false, Bool.and_true, Bool.and_false, Bool.or_self, Bool.and_self, Bool.false_eq_true, Bool.true_eq_false, and_true, true_and, false_and, and_false, and_self, not_true_eq_false, not_false_eq_true, if_true, if_false, reduceIte, or_false, false_or, true_or, or_true]; done)) | contradiction | rfl)
      · skip
        refine lv_iload_n hx hb dX4_sheet_17 rfl (lv_at hl 2 rfl) ?_
        refine lv_bipush (v := nI 16) hx hb dX4_sheet_18 (by decide) ?_
        refine lv_icmp_eq (tgt := 35) hx hb dX4_sheet_20 (by decide) (fun c_20 => ?_) (fun c_20 => ?_)
        · skip
          refine lv_iload_n hx hb dX4_sheet_35 rfl (lv_at hl 3 rfl) ?_
          refine lv_if_ge (tgt := 46) hx hb dX4_sheet_36 (by decide) (fun c_36 => ?_) (fun c_36 => ?_)
          · skip
            refine lv_iload_n hx hb dX4_sheet_46 rfl (lv_at hl 3 rfl) ?_
            refine lv_bipush (v := nI 40) hx hb dX4_sheet_47 (by decide) ?_
            refine lv_icmp_le (tgt := 58) hx hb dX4_sheet_49 (by decide) (fun c_49 => ?_) (fun c_49 => ?_)
            · skip
              obtain ⟨i, h_i, h_i2, rfl⟩ := rg_ix (a := 0) (b := 3) (by decide) c_4
              have hcl_i : (nI i).toNatClampNeg = i := nI_clamp (by omega)
              refine lv_aload_n hx hb dX4_sheet_58 rfl (lv_at hl 0 rfl) ?_
              refine c_get (v := .ref (ad 33)) (C := RX4) (T := TX4) (N := 7) hx hb hts hin4 hown hK hP (0) (by decide) cE_0 rfl 5 (by decide) (Or.inl (hts (.fieldLink RX4 35 "PennyRoad" "sheets" "[LPennyRoad$Sheet;") (by decide +kernel))) rfl dX4_sheet_59 ?_
              refine lv_iload_n hx hb dX4_sheet_62 rfl (lv_at hl 1 rfl) ?_
              refine c_aldS hx hb hK hP (by omega) dX4_sheet_63 ?_
              refine lv_iload_n hx hb dX4_sheet_64 rfl (lv_at hl 2 rfl) ?_
              refine lv_iload_n hx hb dX4_sheet_65 rfl (lv_at hl 2 rfl) ?_
              have K_5 : ∀ (x_6 : Int32) (H : Heap) (locs : List Loc) (ls : Array Slot), x_6 = (if (o) = 0 then (nI 0) else v) → va_P D vwCl (cw cy ad (rr p0 p1 p2) ke tb t1 t2 t3 t4 t5 sb ss sw fd) H → va_S (cA ad) s0.heap H locs → lv_has ls 4 [(0, .ref (ad 0)), (1, .int (nI i)), (2, .int (o)), (3, .int (v))] → W p l e (rmz 2 42) s0 m args below meth c H locs 0 0 Q (F0 m 74 ls [.int (x_6), .int (o), .ref (ad (34 + 2 * i))]) := by
                intro x_6 H locs ls ex_6 hP hS hl
                refine wq_VN (host := "PennyRoad") S cK_ok hK hP hS (c_X1_rule (by omega)) gX4_sheet_X1_rule_n179 i_X1_rule (c_nest hK 54 rfl) (hts (.initialized RX1) (by decide +kernel)) (hts (.instanceMethod yX1_rule) (by decide +kernel)) (hts (.selects RX1 yX1_rule yX1_rule) (by decide +kernel)) (c_rec hK hP (34 + 2 * i) (by omega) (cE_sh (by omega)) rfl) ⟨Nat.le_of_ble_eq_true rfl, Nat.le_of_ble_eq_true rfl⟩ rfl hl.1 (As := [.int (o), .int (x_6)]) (rest := []) (st1 := []) rfl rfl (Nat.le_of_ble_eq_true rfl) ⟨Nat.le_of_ble_eq_true rfl, Nat.le_of_ble_eq_true rfl⟩ dX4_sheet_74 (fun H locs hP hS => ?_)
                refine lv_aload_n hx hb dX4_sheet_77 rfl (lv_at hl 0 rfl) ?_
                refine c_get (v := .ref (ad 33)) (C := RX4) (T := TX4) (N := 7) hx hb hts hin4 hown hK hP (0) (by decide) cE_0 rfl 5 (by decide) (Or.inl (hts (.fieldLink RX4 35 "PennyRoad" "sheets" "[LPennyRoad$Sheet;") (by decide +kernel))) rfl dX4_sheet_78 ?_
                refine lv_iload_n hx hb dX4_sheet_81 rfl (lv_at hl 1 rfl) ?_
                refine c_aldS hx hb hK hP (by omega) dX4_sheet_82 ?_
                refine c_get (v := .int ((upd ss i (x_6)) i)) (C := RX1) (T := TX1) (N := 3) hx hb hts hin1 hown hK hP (34 + 2 * i) (by omega) (cE_sh (by omega)) rfl 2 (by decide) (Or.inr (c_nest hK 30 rfl)) rfl dX4_sheet_83 ?_
                subst hQ
                exact cp_ri hx hb hr hlocks hP hS dX4_sheet_86 (by first | with_reducible rfl | (simp only [fnd, bitsOk, upd_s, if_pos c_4, if_neg c_8, if_neg c_14, if_pos c_20, if_pos c_36, if_pos c_49]; done) | (simp only [fnd, bitsOk, upd_s, decide_eq_false c_8, decide_eq_false c_14, decide_eq_true c_20, decide_eq_true c_36, decide_eq_true c_49, hcl_i, ex_6, c_4, if_neg c_8, if_neg c_14, if_pos c_20, if_pos c_36, if_pos c_49, Bool.true_and, Bool.false_and, Bool.true_or, Bool.or_true, Bool.false_or, Bool.or_false, Bool.and_true, Bool.and_false, Bool.or_self, Bool.and_self, Bool.false_eq_true, Bool.true_eq_false, and_true, true_and, false_and, and_false, and_self, not_true_eq_false, not_false_eq_true, if_true, if_false, reduceIte, or_false, false_or, true_or, or_true]; done) | (subst_vars; first | with_reducible rfl | (simp only [fnd, bitsOk, upd_s, if_pos c_4, if_neg c_8, if_neg c_14, if_pos c_20, if_pos c_36, if_pos c_49]; done) | (simp only [fnd, bitsOk, upd_s, decide_eq_false c_8, decide_eq_false c_14, decide_eq_true c_20, decide_eq_true c_36, decide_eq_true c_49, hcl_i, ex_6, c_4, if_neg c_8, if_neg c_14, if_pos c_20, if_pos c_36, if_pos c_49, Bool.true_and, Bool.false_and, Bool.true_or, Bool.or_true, Bool.false_or, Bool.or_false, Bool.and_true, Bool.and_false, Bool.or_self, Bool.and_self, Bool.false_eq_true, Bool.true_eq_false, and_true, true_and, false_and, and_false, and_self, not_true_eq_false, not_false_eq_true, if_true, if_false, reduceIte, or_false, false_or, true_or, or_true]; done)) | contradiction | rfl) (by first | with_reducible rfl | (simp only [fnd, bitsOk, upd_s, if_pos c_4, if_neg c_8, if_neg c_14, if_pos c_20, if_pos c_36, if_pos c_49]; done) | (simp only [fnd, bitsOk, upd_s, decide_eq_false c_8, decide_eq_false c_14, decide_eq_true c_20, decide_eq_true c_36, decide_eq_true c_49, hcl_i, ex_6, c_4, if_neg c_8, if_neg c_14, if_pos c_20, if_pos c_36, if_pos c_49, Bool.true_and, Bool.false_and, Bool.true_or, Bool.or_true, Bool.false_or, Bool.or_false, Bool.and_true, Bool.and_false, Bool.or_self, Bool.and_self, Bool.false_eq_true, Bool.true_eq_false, and_true, true_and, false_and, and_false, and_self, not_true_eq_false, not_false_eq_true, if_true, if_false, reduceIte, or_false, false_or, true_or, or_true]; done) | (subst_vars; first | with_reducible rfl | (simp only [fnd, bitsOk, upd_s, if_pos c_4, if_neg c_8, if_neg c_14, if_pos c_20, if_pos c_36, if_pos c_49]; done) | (simp only [fnd, bitsOk, upd_s, decide_eq_false c_8, decide_eq_false c_14, decide_eq_true c_20, decide_eq_true c_36, decide_eq_true c_49, hcl_i, ex_6, c_4, if_neg c_8, if_neg c_14, if_pos c_20, if_pos c_36, if_pos c_49, Bool.true_and, Bool.false_and, Bool.true_or, Bool.or_true, Bool.false_or, Bool.or_false, Bool.and_true, Bool.and_false, Bool.or_self, Bool.and_self, Bool.false_eq_true, Bool.true_eq_false, and_true, true_and, false_and, and_false, and_self, not_true_eq_false, not_false_eq_true, if_true, if_false, reduceIte, or_false, false_or, true_or, or_true]; done)) | contradiction | rfl)
              refine lv_if_ne (tgt := 73) hx hb dX4_sheet_66 (by decide) (fun c_66 => ?_) (fun c_66 => ?_)
              · skip
                refine lv_iload_n hx hb dX4_sheet_73 rfl (lv_at hl 3 rfl) ?_
                exact K_5 (v) _ _ ls (by simp only [if_neg c_66]) hP hS hl
              · skip
                refine lv_iconst (v := nI 0) hx hb dX4_sheet_69 (by decide) ?_
                refine lv_goto (tgt := 74) hx hb dX4_sheet_70 (by decide) ?_
                exact K_5 (nI 0) _ _ ls (by simp only [if_pos c_66]) hP hS hl
            · skip
              refine lv_aload_n hx hb dX4_sheet_52 rfl (lv_at hl 0 rfl) ?_
              refine lv_iconst (v := nI 0) hx hb dX4_sheet_53 (by decide) ?_
              refine wq_V S cK_ok hK hP hS (c_X4_finding (t := 0) (by decide)) gX4_sheet_X4_finding i_X4_finding rfl (c_rec hK hP 0 (by decide) cE_0 rfl) ⟨Nat.le_of_ble_eq_true rfl, Nat.le_of_ble_eq_true rfl⟩ rfl hl.1 (As := [.int (nI 0)]) (rest := []) (st1 := [.int ((-1000000001))]) rfl rfl (Nat.le_of_ble_eq_true rfl) ⟨Nat.le_of_ble_eq_true rfl, Nat.le_of_ble_eq_true rfl⟩ dX4_sheet_54 (fun H locs hP hS => ?_)
              subst hQ
              exact cp_ri hx hb hr hlocks hP hS dX4_sheet_57 (by first | with_reducible rfl | (simp only [fnd, bitsOk, upd_s, if_pos c_4, if_neg c_8, if_neg c_14, if_pos c_20, if_pos c_36, if_neg c_49]; done) | (simp only [fnd, bitsOk, upd_s, decide_eq_false c_8, decide_eq_false c_14, decide_eq_true c_20, decide_eq_true c_36, decide_eq_false c_49, c_4, if_neg c_8, if_neg c_14, if_pos c_20, if_pos c_36, if_neg c_49, Bool.true_and, Bool.false_and, Bool.true_or, Bool.or_true, Bool.false_or, Bool.or_false, Bool.and_true, Bool.and_false, Bool.or_self, Bool.and_self, Bool.false_eq_true, Bool.true_eq_false, and_true, true_and, false_and, and_false, and_self, not_true_eq_false, not_false_eq_true, if_true, if_false, reduceIte, or_false, false_or, true_or, or_true]; done) | (subst_vars; first | with_reducible rfl | (simp only [fnd, bitsOk, upd_s, if_pos c_4, if_neg c_8, if_neg c_14, if_pos c_20, if_pos c_36, if_neg c_49]; done) | (simp only [fnd, bitsOk, upd_s, decide_eq_false c_8, decide_eq_false c_14, decide_eq_true c_20, decide_eq_true c_36, decide_eq_false c_49, c_4, if_neg c_8, if_neg c_14, if_pos c_20, if_pos c_36, if_neg c_49, Bool.true_and, Bool.false_and, Bool.true_or, Bool.or_true, Bool.false_or, Bool.or_false, Bool.and_true, Bool.and_false, Bool.or_self, Bool.and_self, Bool.false_eq_true, Bool.true_eq_false, and_true, true_and, false_and, and_false, and_self, not_true_eq_false, not_false_eq_true, if_true, if_false, reduceIte, or_false, false_or, true_or, or_true]; done)) | contradiction | rfl) (by first | with_reducible rfl | (simp only [fnd, bitsOk, upd_s, if_pos c_4, if_neg c_8, if_neg c_14, if_pos c_20, if_pos c_36, if_neg c_49]; done) | (simp only [fnd, bitsOk, upd_s, decide_eq_false c_8, decide_eq_false c_14, decide_eq_true c_20, decide_eq_true c_36, decide_eq_false c_49, c_4, if_neg c_8, if_neg c_14, if_pos c_20, if_pos c_36, if_neg c_49, Bool.true_and, Bool.false_and, Bool.true_or, Bool.or_true, Bool.false_or, Bool.or_false, Bool.and_true, Bool.and_false, Bool.or_self, Bool.and_self, Bool.false_eq_true, Bool.true_eq_false, and_true, true_and, false_and, and_false, and_self, not_true_eq_false, not_false_eq_true, if_true, if_false, reduceIte, or_false, false_or, true_or, or_true]; done) | (subst_vars; first | with_reducible rfl | (simp only [fnd, bitsOk, upd_s, if_pos c_4, if_neg c_8, if_neg c_14, if_pos c_20, if_pos c_36, if_neg c_49]; done) | (simp only [fnd, bitsOk, upd_s, decide_eq_false c_8, decide_eq_false c_14, decide_eq_true c_20, decide_eq_true c_36, decide_eq_false c_49, c_4, if_neg c_8, if_neg c_14, if_pos c_20, if_pos c_36, if_neg c_49, Bool.true_and, Bool.false_and, Bool.true_or, Bool.or_true, Bool.false_or, Bool.or_false, Bool.and_true, Bool.and_false, Bool.or_self, Bool.and_self, Bool.false_eq_true, Bool.true_eq_false, and_true, true_and, false_and, and_false, and_self, not_true_eq_false, not_false_eq_true, if_true, if_false, reduceIte, or_false, false_or, true_or, or_true]; done)) | contradiction | rfl)
          · skip
            refine lv_aload_n hx hb dX4_sheet_39 rfl (lv_at hl 0 rfl) ?_
            refine lv_bipush (v := nI 6) hx hb dX4_sheet_40 (by decide) ?_
            refine wq_V S cK_ok hK hP hS (c_X4_finding (t := 6) (by decide)) gX4_sheet_X4_finding i_X4_finding rfl (c_rec hK hP 0 (by decide) cE_0 rfl) ⟨Nat.le_of_ble_eq_true rfl, Nat.le_of_ble_eq_true rfl⟩ rfl hl.1 (As := [.int (nI 6)]) (rest := []) (st1 := [.int ((-1000000007))]) rfl rfl (Nat.le_of_ble_eq_true rfl) ⟨Nat.le_of_ble_eq_true rfl, Nat.le_of_ble_eq_true rfl⟩ dX4_sheet_42 (fun H locs hP hS => ?_)
            subst hQ
            exact cp_ri hx hb hr hlocks hP hS dX4_sheet_45 (by first | with_reducible rfl | (simp only [fnd, bitsOk, upd_s, if_pos c_4, if_neg c_8, if_neg c_14, if_pos c_20, if_neg c_36]; done) | (simp only [fnd, bitsOk, upd_s, decide_eq_false c_8, decide_eq_false c_14, decide_eq_true c_20, decide_eq_false c_36, c_4, if_neg c_8, if_neg c_14, if_pos c_20, if_neg c_36, Bool.true_and, Bool.false_and, Bool.true_or, Bool.or_true, Bool.false_or, Bool.or_false, Bool.and_true, Bool.and_false, Bool.or_self, Bool.and_self, Bool.false_eq_true, Bool.true_eq_false, and_true, true_and, false_and, and_false, and_self, not_true_eq_false, not_false_eq_true, if_true, if_false, reduceIte, or_false, false_or, true_or, or_true]; done) | (subst_vars; first | with_reducible rfl | (simp only [fnd, bitsOk, upd_s, if_pos c_4, if_neg c_8, if_neg c_14, if_pos c_20, if_neg c_36]; done) | (simp only [fnd, bitsOk, upd_s, decide_eq_false c_8, decide_eq_false c_14, decide_eq_true c_20, decide_eq_false c_36, c_4, if_neg c_8, if_neg c_14, if_pos c_20, if_neg c_36, Bool.true_and, Bool.false_and, Bool.true_or, Bool.or_true, Bool.false_or, Bool.or_false, Bool.and_true, Bool.and_false, Bool.or_self, Bool.and_self, Bool.false_eq_true, Bool.true_eq_false, and_true, true_and, false_and, and_false, and_self, not_true_eq_false, not_false_eq_true, if_true, if_false, reduceIte, or_false, false_or, true_or, or_true]; done)) | contradiction | rfl) (by first | with_reducible rfl | (simp only [fnd, bitsOk, upd_s, if_pos c_4, if_neg c_8, if_neg c_14, if_pos c_20, if_neg c_36]; done) | (simp only [fnd, bitsOk, upd_s, decide_eq_false c_8, decide_eq_false c_14, decide_eq_true c_20, decide_eq_false c_36, c_4, if_neg c_8, if_neg c_14, if_pos c_20, if_neg c_36, Bool.true_and, Bool.false_and, Bool.true_or, Bool.or_true, Bool.false_or, Bool.or_false, Bool.and_true, Bool.and_false, Bool.or_self, Bool.and_self, Bool.false_eq_true, Bool.true_eq_false, and_true, true_and, false_and, and_false, and_self, not_true_eq_false, not_false_eq_true, if_true, if_false, reduceIte, or_false, false_or, true_or, or_true]; done) | (subst_vars; first | with_reducible rfl | (simp only [fnd, bitsOk, upd_s, if_pos c_4, if_neg c_8, if_neg c_14, if_pos c_20, if_neg c_36]; done) | (simp only [fnd, bitsOk, upd_s, decide_eq_false c_8, decide_eq_false c_14, decide_eq_true c_20, decide_eq_false c_36, c_4, if_neg c_8, if_neg c_14, if_pos c_20, if_neg c_36, Bool.true_and, Bool.false_and, Bool.true_or, Bool.or_true, Bool.false_or, Bool.or_false, Bool.and_true, Bool.and_false, Bool.or_self, Bool.and_self, Bool.false_eq_true, Bool.true_eq_false, and_true, true_and, false_and, and_false, and_self, not_true_eq_false, not_false_eq_true, if_true, if_false, reduceIte, or_false, false_or, true_or, or_true]; done)) | contradiction | rfl)
        · skip
          refine lv_iload_n hx hb dX4_sheet_23 rfl (lv_at hl 2 rfl) ?_
          refine lv_bipush (v := nI 64) hx hb dX4_sheet_24 (by decide) ?_
          refine lv_icmp_eq (tgt := 35) hx hb dX4_sheet_26 (by decide) (fun c_26 => ?_) (fun c_26 => ?_)
          · skip
            refine lv_iload_n hx hb dX4_sheet_35 rfl (lv_at hl 3 rfl) ?_
            refine lv_if_ge (tgt := 46) hx hb dX4_sheet_36 (by decide) (fun c_36 => ?_) (fun c_36 => ?_)
            · skip
              refine lv_iload_n hx hb dX4_sheet_46 rfl (lv_at hl 3 rfl) ?_
              refine lv_bipush (v := nI 40) hx hb dX4_sheet_47 (by decide) ?_
              refine lv_icmp_le (tgt := 58) hx hb dX4_sheet_49 (by decide) (fun c_49 => ?_) (fun c_49 => ?_)
              · skip
                obtain ⟨i, h_i, h_i2, rfl⟩ := rg_ix (a := 0) (b := 3) (by decide) c_4
                have hcl_i : (nI i).toNatClampNeg = i := nI_clamp (by omega)
                refine lv_aload_n hx hb dX4_sheet_58 rfl (lv_at hl 0 rfl) ?_
                refine c_get (v := .ref (ad 33)) (C := RX4) (T := TX4) (N := 7) hx hb hts hin4 hown hK hP (0) (by decide) cE_0 rfl 5 (by decide) (Or.inl (hts (.fieldLink RX4 35 "PennyRoad" "sheets" "[LPennyRoad$Sheet;") (by decide +kernel))) rfl dX4_sheet_59 ?_
                refine lv_iload_n hx hb dX4_sheet_62 rfl (lv_at hl 1 rfl) ?_
                refine c_aldS hx hb hK hP (by omega) dX4_sheet_63 ?_
                refine lv_iload_n hx hb dX4_sheet_64 rfl (lv_at hl 2 rfl) ?_
                refine lv_iload_n hx hb dX4_sheet_65 rfl (lv_at hl 2 rfl) ?_
                have K_7 : ∀ (x_8 : Int32) (H : Heap) (locs : List Loc) (ls : Array Slot), x_8 = (if (o) = 0 then (nI 0) else v) → va_P D vwCl (cw cy ad (rr p0 p1 p2) ke tb t1 t2 t3 t4 t5 sb ss sw fd) H → va_S (cA ad) s0.heap H locs → lv_has ls 4 [(0, .ref (ad 0)), (1, .int (nI i)), (2, .int (o)), (3, .int (v))] → W p l e (rmz 2 42) s0 m args below meth c H locs 0 0 Q (F0 m 74 ls [.int (x_8), .int (o), .ref (ad (34 + 2 * i))]) := by
                  intro x_8 H locs ls ex_8 hP hS hl
                  refine wq_VN (host := "PennyRoad") S cK_ok hK hP hS (c_X1_rule (by omega)) gX4_sheet_X1_rule_n179 i_X1_rule (c_nest hK 54 rfl) (hts (.initialized RX1) (by decide +kernel)) (hts (.instanceMethod yX1_rule) (by decide +kernel)) (hts (.selects RX1 yX1_rule yX1_rule) (by decide +kernel)) (c_rec hK hP (34 + 2 * i) (by omega) (cE_sh (by omega)) rfl) ⟨Nat.le_of_ble_eq_true rfl, Nat.le_of_ble_eq_true rfl⟩ rfl hl.1 (As := [.int (o), .int (x_8)]) (rest := []) (st1 := []) rfl rfl (Nat.le_of_ble_eq_true rfl) ⟨Nat.le_of_ble_eq_true rfl, Nat.le_of_ble_eq_true rfl⟩ dX4_sheet_74 (fun H locs hP hS => ?_)
                  refine lv_aload_n hx hb dX4_sheet_77 rfl (lv_at hl 0 rfl) ?_
                  refine c_get (v := .ref (ad 33)) (C := RX4) (T := TX4) (N := 7) hx hb hts hin4 hown hK hP (0) (by decide) cE_0 rfl 5 (by decide) (Or.inl (hts (.fieldLink RX4 35 "PennyRoad" "sheets" "[LPennyRoad$Sheet;") (by decide +kernel))) rfl dX4_sheet_78 ?_
                  refine lv_iload_n hx hb dX4_sheet_81 rfl (lv_at hl 1 rfl) ?_
                  refine c_aldS hx hb hK hP (by omega) dX4_sheet_82 ?_
                  refine c_get (v := .int ((upd ss i (x_8)) i)) (C := RX1) (T := TX1) (N := 3) hx hb hts hin1 hown hK hP (34 + 2 * i) (by omega) (cE_sh (by omega)) rfl 2 (by decide) (Or.inr (c_nest hK 30 rfl)) rfl dX4_sheet_83 ?_
                  subst hQ
                  exact cp_ri hx hb hr hlocks hP hS dX4_sheet_86 (by first | with_reducible rfl | (simp only [fnd, bitsOk, upd_s, if_pos c_4, if_neg c_8, if_neg c_14, if_neg c_20, if_pos c_26, if_pos c_36, if_pos c_49]; done) | (simp only [fnd, bitsOk, upd_s, decide_eq_false c_8, decide_eq_false c_14, decide_eq_false c_20, decide_eq_true c_26, decide_eq_true c_36, decide_eq_true c_49, hcl_i, ex_8, c_4, if_neg c_8, if_neg c_14, if_neg c_20, if_pos c_26, if_pos c_36, if_pos c_49, Bool.true_and, Bool.false_and, Bool.true_or, Bool.or_true, Bool.false_or, Bool.or_false, Bool.and_true, Bool.and_false, Bool.or_self, Bool.and_self, Bool.false_eq_true, Bool.true_eq_false, and_true, true_and, false_and, and_false, and_self, not_true_eq_false, not_false_eq_true, if_true, if_false, reduceIte, or_false, false_or, true_or, or_true]; done) | (subst_vars; first | with_reducible rfl | (simp only [fnd, bitsOk, upd_s, if_pos c_4, if_neg c_8, if_neg c_14, if_neg c_20, if_pos c_26, if_pos c_36, if_pos c_49]; done) | (simp only [fnd, bitsOk, upd_s, decide_eq_false c_8, decide_eq_false c_14, decide_eq_false c_20, decide_eq_true c_26, decide_eq_true c_36, decide_eq_true c_49, hcl_i, ex_8, c_4, if_neg c_8, if_neg c_14, if_neg c_20, if_pos c_26, if_pos c_36, if_pos c_49, Bool.true_and, Bool.false_and, Bool.true_or, Bool.or_true, Bool.false_or, Bool.or_false, Bool.and_true, Bool.and_false, Bool.or_self, Bool.and_self, Bool.false_eq_true, Bool.true_eq_false, and_true, true_and, false_and, and_false, and_self, not_true_eq_false, not_false_eq_true, if_true, if_false, reduceIte, or_false, false_or, true_or, or_true]; done)) | contradiction | rfl) (by first | with_reducible rfl | (simp only [fnd, bitsOk, upd_s, if_pos c_4, if_neg c_8, if_neg c_14, if_neg c_20, if_pos c_26, if_pos c_36, if_pos c_49]; done) | (simp only [fnd, bitsOk, upd_s, decide_eq_false c_8, decide_eq_false c_14, decide_eq_false c_20, decide_eq_true c_26, decide_eq_true c_36, decide_eq_true c_49, hcl_i, ex_8, c_4, if_neg c_8, if_neg c_14, if_neg c_20, if_pos c_26, if_pos c_36, if_pos c_49, Bool.true_and, Bool.false_and, Bool.true_or, Bool.or_true, Bool.false_or, Bool.or_false, Bool.and_true, Bool.and_false, Bool.or_self, Bool.and_self, Bool.false_eq_true, Bool.true_eq_false, and_true, true_and, false_and, and_false, and_self, not_true_eq_false, not_false_eq_true, if_true, if_false, reduceIte, or_false, false_or, true_or, or_true]; done) | (subst_vars; first | with_reducible rfl | (simp only [fnd, bitsOk, upd_s, if_pos c_4, if_neg c_8, if_neg c_14, if_neg c_20, if_pos c_26, if_pos c_36, if_pos c_49]; done) | (simp only [fnd, bitsOk, upd_s, decide_eq_false c_8, decide_eq_false c_14, decide_eq_false c_20, decide_eq_true c_26, decide_eq_true c_36, decide_eq_true c_49, hcl_i, ex_8, c_4, if_neg c_8, if_neg c_14, if_neg c_20, if_pos c_26, if_pos c_36, if_pos c_49, Bool.true_and, Bool.false_and, Bool.true_or, Bool.or_true, Bool.false_or, Bool.or_false, Bool.and_true, Bool.and_false, Bool.or_self, Bool.and_self, Bool.false_eq_true, Bool.true_eq_false, and_true, true_and, false_and, and_false, and_self, not_true_eq_false, not_false_eq_true, if_true, if_false, reduceIte, or_false, false_or, true_or, or_true]; done)) | contradiction | rfl)
                refine lv_if_ne (tgt := 73) hx hb dX4_sheet_66 (by decide) (fun c_66 => ?_) (fun c_66 => ?_)
                · skip
                  refine lv_iload_n hx hb dX4_sheet_73 rfl (lv_at hl 3 rfl) ?_
                  exact K_7 (v) _ _ ls (by simp only [if_neg c_66]) hP hS hl
                · skip
                  refine lv_iconst (v := nI 0) hx hb dX4_sheet_69 (by decide) ?_
                  refine lv_goto (tgt := 74) hx hb dX4_sheet_70 (by decide) ?_
                  exact K_7 (nI 0) _ _ ls (by simp only [if_pos c_66]) hP hS hl
              · skip
                refine lv_aload_n hx hb dX4_sheet_52 rfl (lv_at hl 0 rfl) ?_
                refine lv_iconst (v := nI 0) hx hb dX4_sheet_53 (by decide) ?_
                refine wq_V S cK_ok hK hP hS (c_X4_finding (t := 0) (by decide)) gX4_sheet_X4_finding i_X4_finding rfl (c_rec hK hP 0 (by decide) cE_0 rfl) ⟨Nat.le_of_ble_eq_true rfl, Nat.le_of_ble_eq_true rfl⟩ rfl hl.1 (As := [.int (nI 0)]) (rest := []) (st1 := [.int ((-1000000001))]) rfl rfl (Nat.le_of_ble_eq_true rfl) ⟨Nat.le_of_ble_eq_true rfl, Nat.le_of_ble_eq_true rfl⟩ dX4_sheet_54 (fun H locs hP hS => ?_)
                subst hQ
                exact cp_ri hx hb hr hlocks hP hS dX4_sheet_57 (by first | with_reducible rfl | (simp only [fnd, bitsOk, upd_s, if_pos c_4, if_neg c_8, if_neg c_14, if_neg c_20, if_pos c_26, if_pos c_36, if_neg c_49]; done) | (simp only [fnd, bitsOk, upd_s, decide_eq_false c_8, decide_eq_false c_14, decide_eq_false c_20, decide_eq_true c_26, decide_eq_true c_36, decide_eq_false c_49, c_4, if_neg c_8, if_neg c_14, if_neg c_20, if_pos c_26, if_pos c_36, if_neg c_49, Bool.true_and, Bool.false_and, Bool.true_or, Bool.or_true, Bool.false_or, Bool.or_false, Bool.and_true, Bool.and_false, Bool.or_self, Bool.and_self, Bool.false_eq_true, Bool.true_eq_false, and_true, true_and, false_and, and_false, and_self, not_true_eq_false, not_false_eq_true, if_true, if_false, reduceIte, or_false, false_or, true_or, or_true]; done) | (subst_vars; first | with_reducible rfl | (simp only [fnd, bitsOk, upd_s, if_pos c_4, if_neg c_8, if_neg c_14, if_neg c_20, if_pos c_26, if_pos c_36, if_neg c_49]; done) | (simp only [fnd, bitsOk, upd_s, decide_eq_false c_8, decide_eq_false c_14, decide_eq_false c_20, decide_eq_true c_26, decide_eq_true c_36, decide_eq_false c_49, c_4, if_neg c_8, if_neg c_14, if_neg c_20, if_pos c_26, if_pos c_36, if_neg c_49, Bool.true_and, Bool.false_and, Bool.true_or, Bool.or_true, Bool.false_or, Bool.or_false, Bool.and_true, Bool.and_false, Bool.or_self, Bool.and_self, Bool.false_eq_true, Bool.true_eq_false, and_true, true_and, false_and, and_false, and_self, not_true_eq_false, not_false_eq_true, if_true, if_false, reduceIte, or_false, false_or, true_or, or_true]; done)) | contradiction | rfl) (by first | with_reducible rfl | (simp only [fnd, bitsOk, upd_s, if_pos c_4, if_neg c_8, if_neg c_14, if_neg c_20, if_pos c_26, if_pos c_36, if_neg c_49]; done) | (simp only [fnd, bitsOk, upd_s, decide_eq_false c_8, decide_eq_false c_14, decide_eq_false c_20, decide_eq_true c_26, decide_eq_true c_36, decide_eq_false c_49, c_4, if_neg c_8, if_neg c_14, if_neg c_20, if_pos c_26, if_pos c_36, if_neg c_49, Bool.true_and, Bool.false_and, Bool.true_or, Bool.or_true, Bool.false_or, Bool.or_false, Bool.and_true, Bool.and_false, Bool.or_self, Bool.and_self, Bool.false_eq_true, Bool.true_eq_false, and_true, true_and, false_and, and_false, and_self, not_true_eq_false, not_false_eq_true, if_true, if_false, reduceIte, or_false, false_or, true_or, or_true]; done) | (subst_vars; first | with_reducible rfl | (simp only [fnd, bitsOk, upd_s, if_pos c_4, if_neg c_8, if_neg c_14, if_neg c_20, if_pos c_26, if_pos c_36, if_neg c_49]; done) | (simp only [fnd, bitsOk, upd_s, decide_eq_false c_8, decide_eq_false c_14, decide_eq_false c_20, decide_eq_true c_26, decide_eq_true c_36, decide_eq_false c_49, c_4, if_neg c_8, if_neg c_14, if_neg c_20, if_pos c_26, if_pos c_36, if_neg c_49, Bool.true_and, Bool.false_and, Bool.true_or, Bool.or_true, Bool.false_or, Bool.or_false, Bool.and_true, Bool.and_false, Bool.or_self, Bool.and_self, Bool.false_eq_true, Bool.true_eq_false, and_true, true_and, false_and, and_false, and_self, not_true_eq_false, not_false_eq_true, if_true, if_false, reduceIte, or_false, false_or, true_or, or_true]; done)) | contradiction | rfl)
            · skip
              refine lv_aload_n hx hb dX4_sheet_39 rfl (lv_at hl 0 rfl) ?_
              refine lv_bipush (v := nI 6) hx hb dX4_sheet_40 (by decide) ?_
              refine wq_V S cK_ok hK hP hS (c_X4_finding (t := 6) (by decide)) gX4_sheet_X4_finding i_X4_finding rfl (c_rec hK hP 0 (by decide) cE_0 rfl) ⟨Nat.le_of_ble_eq_true rfl, Nat.le_of_ble_eq_true rfl⟩ rfl hl.1 (As := [.int (nI 6)]) (rest := []) (st1 := [.int ((-1000000007))]) rfl rfl (Nat.le_of_ble_eq_true rfl) ⟨Nat.le_of_ble_eq_true rfl, Nat.le_of_ble_eq_true rfl⟩ dX4_sheet_42 (fun H locs hP hS => ?_)
              subst hQ
              exact cp_ri hx hb hr hlocks hP hS dX4_sheet_45 (by first | with_reducible rfl | (simp only [fnd, bitsOk, upd_s, if_pos c_4, if_neg c_8, if_neg c_14, if_neg c_20, if_pos c_26, if_neg c_36]; done) | (simp only [fnd, bitsOk, upd_s, decide_eq_false c_8, decide_eq_false c_14, decide_eq_false c_20, decide_eq_true c_26, decide_eq_false c_36, c_4, if_neg c_8, if_neg c_14, if_neg c_20, if_pos c_26, if_neg c_36, Bool.true_and, Bool.false_and, Bool.true_or, Bool.or_true, Bool.false_or, Bool.or_false, Bool.and_true, Bool.and_false, Bool.or_self, Bool.and_self, Bool.false_eq_true, Bool.true_eq_false, and_true, true_and, false_and, and_false, and_self, not_true_eq_false, not_false_eq_true, if_true, if_false, reduceIte, or_false, false_or, true_or, or_true]; done) | (subst_vars; first | with_reducible rfl | (simp only [fnd, bitsOk, upd_s, if_pos c_4, if_neg c_8, if_neg c_14, if_neg c_20, if_pos c_26, if_neg c_36]; done) | (simp only [fnd, bitsOk, upd_s, decide_eq_false c_8, decide_eq_false c_14, decide_eq_false c_20, decide_eq_true c_26, decide_eq_false c_36, c_4, if_neg c_8, if_neg c_14, if_neg c_20, if_pos c_26, if_neg c_36, Bool.true_and, Bool.false_and, Bool.true_or, Bool.or_true, Bool.false_or, Bool.or_false, Bool.and_true, Bool.and_false, Bool.or_self, Bool.and_self, Bool.false_eq_true, Bool.true_eq_false, and_true, true_and, false_and, and_false, and_self, not_true_eq_false, not_false_eq_true, if_true, if_false, reduceIte, or_false, false_or, true_or, or_true]; done)) | contradiction | rfl) (by first | with_reducible rfl | (simp only [fnd, bitsOk, upd_s, if_pos c_4, if_neg c_8, if_neg c_14, if_neg c_20, if_pos c_26, if_neg c_36]; done) | (simp only [fnd, bitsOk, upd_s, decide_eq_false c_8, decide_eq_false c_14, decide_eq_false c_20, decide_eq_true c_26, decide_eq_false c_36, c_4, if_neg c_8, if_neg c_14, if_neg c_20, if_pos c_26, if_neg c_36, Bool.true_and, Bool.false_and, Bool.true_or, Bool.or_true, Bool.false_or, Bool.or_false, Bool.and_true, Bool.and_false, Bool.or_self, Bool.and_self, Bool.false_eq_true, Bool.true_eq_false, and_true, true_and, false_and, and_false, and_self, not_true_eq_false, not_false_eq_true, if_true, if_false, reduceIte, or_false, false_or, true_or, or_true]; done) | (subst_vars; first | with_reducible rfl | (simp only [fnd, bitsOk, upd_s, if_pos c_4, if_neg c_8, if_neg c_14, if_neg c_20, if_pos c_26, if_neg c_36]; done) | (simp only [fnd, bitsOk, upd_s, decide_eq_false c_8, decide_eq_false c_14, decide_eq_false c_20, decide_eq_true c_26, decide_eq_false c_36, c_4, if_neg c_8, if_neg c_14, if_neg c_20, if_pos c_26, if_neg c_36, Bool.true_and, Bool.false_and, Bool.true_or, Bool.or_true, Bool.false_or, Bool.or_false, Bool.and_true, Bool.and_false, Bool.or_self, Bool.and_self, Bool.false_eq_true, Bool.true_eq_false, and_true, true_and, false_and, and_false, and_self, not_true_eq_false, not_false_eq_true, if_true, if_false, reduceIte, or_false, false_or, true_or, or_true]; done)) | contradiction | rfl)
          · skip
            refine lv_aload_n hx hb dX4_sheet_29 rfl (lv_at hl 0 rfl) ?_
            refine lv_iconst (v := nI 0) hx hb dX4_sheet_30 (by decide) ?_
            refine wq_V S cK_ok hK hP hS (c_X4_finding (t := 0) (by decide)) gX4_sheet_X4_finding i_X4_finding rfl (c_rec hK hP 0 (by decide) cE_0 rfl) ⟨Nat.le_of_ble_eq_true rfl, Nat.le_of_ble_eq_true rfl⟩ rfl hl.1 (As := [.int (nI 0)]) (rest := []) (st1 := [.int ((-1000000001))]) rfl rfl (Nat.le_of_ble_eq_true rfl) ⟨Nat.le_of_ble_eq_true rfl, Nat.le_of_ble_eq_true rfl⟩ dX4_sheet_31 (fun H locs hP hS => ?_)
            subst hQ
            exact cp_ri hx hb hr hlocks hP hS dX4_sheet_34 (by first | with_reducible rfl | (simp only [fnd, bitsOk, upd_s, if_pos c_4, if_neg c_8, if_neg c_14, if_neg c_20, if_neg c_26]; done) | (simp only [fnd, bitsOk, upd_s, decide_eq_false c_8, decide_eq_false c_14, decide_eq_false c_20, decide_eq_false c_26, c_4, if_neg c_8, if_neg c_14, if_neg c_20, if_neg c_26, Bool.true_and, Bool.false_and, Bool.true_or, Bool.or_true, Bool.false_or, Bool.or_false, Bool.and_true, Bool.and_false, Bool.or_self, Bool.and_self, Bool.false_eq_true, Bool.true_eq_false, and_true, true_and, false_and, and_false, and_self, not_true_eq_false, not_false_eq_true, if_true, if_false, reduceIte, or_false, false_or, true_or, or_true]; done) | (subst_vars; first | with_reducible rfl | (simp only [fnd, bitsOk, upd_s, if_pos c_4, if_neg c_8, if_neg c_14, if_neg c_20, if_neg c_26]; done) | (simp only [fnd, bitsOk, upd_s, decide_eq_false c_8, decide_eq_false c_14, decide_eq_false c_20, decide_eq_false c_26, c_4, if_neg c_8, if_neg c_14, if_neg c_20, if_neg c_26, Bool.true_and, Bool.false_and, Bool.true_or, Bool.or_true, Bool.false_or, Bool.or_false, Bool.and_true, Bool.and_false, Bool.or_self, Bool.and_self, Bool.false_eq_true, Bool.true_eq_false, and_true, true_and, false_and, and_false, and_self, not_true_eq_false, not_false_eq_true, if_true, if_false, reduceIte, or_false, false_or, true_or, or_true]; done)) | contradiction | rfl) (by first | with_reducible rfl | (simp only [fnd, bitsOk, upd_s, if_pos c_4, if_neg c_8, if_neg c_14, if_neg c_20, if_neg c_26]; done) | (simp only [fnd, bitsOk, upd_s, decide_eq_false c_8, decide_eq_false c_14, decide_eq_false c_20, decide_eq_false c_26, c_4, if_neg c_8, if_neg c_14, if_neg c_20, if_neg c_26, Bool.true_and, Bool.false_and, Bool.true_or, Bool.or_true, Bool.false_or, Bool.or_false, Bool.and_true, Bool.and_false, Bool.or_self, Bool.and_self, Bool.false_eq_true, Bool.true_eq_false, and_true, true_and, false_and, and_false, and_self, not_true_eq_false, not_false_eq_true, if_true, if_false, reduceIte, or_false, false_or, true_or, or_true]; done) | (subst_vars; first | with_reducible rfl | (simp only [fnd, bitsOk, upd_s, if_pos c_4, if_neg c_8, if_neg c_14, if_neg c_20, if_neg c_26]; done) | (simp only [fnd, bitsOk, upd_s, decide_eq_false c_8, decide_eq_false c_14, decide_eq_false c_20, decide_eq_false c_26, c_4, if_neg c_8, if_neg c_14, if_neg c_20, if_neg c_26, Bool.true_and, Bool.false_and, Bool.true_or, Bool.or_true, Bool.false_or, Bool.or_false, Bool.and_true, Bool.and_false, Bool.or_self, Bool.and_self, Bool.false_eq_true, Bool.true_eq_false, and_true, true_and, false_and, and_false, and_self, not_true_eq_false, not_false_eq_true, if_true, if_false, reduceIte, or_false, false_or, true_or, or_true]; done)) | contradiction | rfl)
theorem i_X4_sheet : ciOk yX4_sheet cX4_sheet 4 (some .int) wsX4_sheet 3 := ⟨⟨_, rfl⟩, by decide +kernel⟩
set_option maxHeartbeats 1000000 in
set_option maxRecDepth 100000 in
theorem c_X4_write {l : Launch} {D : va_G} {cy : Nat → ClassId} {ad : Nat → Nat} {p0 : Nat → Int32} {p1 : Nat → Int32} {p2 : Nat → Int32} {ke : Int32} {tb : Nat → Int32} {t1 : Int32} {t2 : Int32} {t3 : Int32} {t4 : Int32} {t5 : Int32} {sb : Nat → Int32} {ss : Nat → Int32} {sw : Nat → Nat → Int64} {fd : Nat → Int32} {q : Int32} {o : Int32} {x : Int64} (hz : ∀ t, t < 4 → ∃ z : Nat, z ≤ 40 ∧ ss t = nI z) : Met l yX4_write wsX4_write (rmz 2 42) (wPre D (cK D cy ad) (cw cy ad (rr p0 p1 p2) ke tb t1 t2 t3 t4 t5 sb ss sw fd) [.ref (ad 0), .int (q), .int (o), .long (x)]) (cPub D cy ad (some (.long (if rg 0 3 q then (if sb q.toNatClampNeg = 0 then (-1000000006 : Int32).toInt64 else if rg 0 ((ss q.toNatClampNeg) - (nI 1)).toInt o then sw q.toNatClampNeg o.toNatClampNeg else (-1000000001 : Int32).toInt64) else (-1000000001 : Int32).toInt64))) p0 p2 ke tb t1 sb ss (if rg 0 3 q then (if sb q.toNatClampNeg = 0 then sw else if rg 0 ((ss q.toNatClampNeg) - (nI 1)).toInt o then va_up sw q.toNatClampNeg (vp_updL (sw q.toNatClampNeg) o.toNatClampNeg (narF (sb q.toNatClampNeg) x)) else sw) else sw) (if rg 0 3 q then (if sb q.toNatClampNeg = 0 then fnd fd 5 else if rg 0 ((ss q.toNatClampNeg) - (nI 1)).toInt o then fd else fnd fd 0) else fnd fd 0)) 0 0 (cA ad) := by
  refine wq_entry rfl rfl (Nat.le_of_ble_eq_true rfl) ?_
  intro p e s0 m args below meth c S hr hlocks hK hP ls hl
  have S : CallFix p m c cX4_write 8 s0 args wsX4_write RX4 := S
  obtain ⟨hx, hb, hml, hown, hts⟩ := id S
  have hin4 : ∀ w ∈ wsX40, w ∈ wsX4_write := fun w h => List.mem_cons_of_mem _ (List.mem_append_left _ (List.mem_append_right _ h))
  have hin1 : ∀ w ∈ wsX10, w ∈ wsX4_write := fun w h => List.mem_cons_of_mem _ (List.mem_append_right _ h)
  have hS : va_S (cA ad) s0.heap s0.heap [] := va_S.rf
  have hl : lv_has ls 8 [(0, .ref (ad 0)), (1, .int (q)), (2, .int (o)), (3, .long (x))] := hl
  generalize hQ : MQ below (cPub D cy ad (some (.long (if rg 0 3 q then (if sb q.toNatClampNeg = 0 then (-1000000006 : Int32).toInt64 else if rg 0 ((ss q.toNatClampNeg) - (nI 1)).toInt o then sw q.toNatClampNeg o.toNatClampNeg else (-1000000001 : Int32).toInt64) else (-1000000001 : Int32).toInt64))) p0 p2 ke tb t1 sb ss (if rg 0 3 q then (if sb q.toNatClampNeg = 0 then sw else if rg 0 ((ss q.toNatClampNeg) - (nI 1)).toInt o then va_up sw q.toNatClampNeg (vp_updL (sw q.toNatClampNeg) o.toNatClampNeg (narF (sb q.toNatClampNeg) x)) else sw) else sw) (if rg 0 3 q then (if sb q.toNatClampNeg = 0 then fnd fd 5 else if rg 0 ((ss q.toNatClampNeg) - (nI 1)).toInt o then fd else fnd fd 0) else fnd fd 0)) args s0 0 0 (cA ad) = Q
  refine lv_iload_n hx hb dX4_write_0 rfl (lv_at hl 1 rfl) ?_
  refine sq_S S (c_X4_isSheet) gX4_write_X4_isSheet i_X4_isSheet ⟨Nat.le_of_ble_eq_true rfl, Nat.le_of_ble_eq_true rfl⟩ rfl hl.1 (As := [.int (q)]) (rest := []) (st1 := [.int (z (rg 0 3 (q)))]) rfl rfl (Nat.le_of_ble_eq_true rfl) ⟨Nat.le_of_ble_eq_true rfl, Nat.le_of_ble_eq_true rfl⟩ dX4_write_1 ?_
  refine lvz_if_ne (tgt := 14) hx hb dX4_write_4 (by decide) (fun c_4 => ?_) (fun c_4 => ?_)
  · skip
    obtain ⟨i, h_i, h_i2, rfl⟩ := rg_ix (a := 0) (b := 3) (by decide) c_4
    have hcl_i : (nI i).toNatClampNeg = i := nI_clamp (by omega)
    refine lv_aload_n hx hb dX4_write_14 rfl (lv_at hl 0 rfl) ?_
    refine c_get (v := .ref (ad 33)) (C := RX4) (T := TX4) (N := 7) hx hb hts hin4 hown hK hP (0) (by decide) cE_0 rfl 5 (by decide) (Or.inl (hts (.fieldLink RX4 35 "PennyRoad" "sheets" "[LPennyRoad$Sheet;") (by decide +kernel))) rfl dX4_write_15 ?_
    refine lv_iload_n hx hb dX4_write_18 rfl (lv_at hl 1 rfl) ?_
    refine c_aldS hx hb hK hP (by omega) dX4_write_19 ?_
    refine lv_astore (lv' := [(5, .ref (ad (34 + 2 * i))), (0, .ref (ad 0)), (1, .int (nI i)), (2, .int (o)), (3, .long (x))]) hx hb dX4_write_20 hl (by decide) rfl (fun ls hl => ?_)
    refine lv_aload hx hb dX4_write_22 (lv_at hl 0 rfl) ?_
    refine wq_VN (host := "PennyRoad") S cK_ok hK hP hS (c_X1_isMissing (by omega)) gX4_write_X1_isMissing_n183 i_X1_isMissing (c_nest hK 55 rfl) (hts (.initialized RX1) (by decide +kernel)) (hts (.instanceMethod yX1_isMissing) (by decide +kernel)) (hts (.selects RX1 yX1_isMissing yX1_isMissing) (by decide +kernel)) (c_rec hK hP (34 + 2 * i) (by omega) (cE_sh (by omega)) rfl) ⟨Nat.le_of_ble_eq_true rfl, Nat.le_of_ble_eq_true rfl⟩ rfl hl.1 (As := []) (rest := []) (st1 := [.int (z (sb i = 0))]) rfl rfl (Nat.le_of_ble_eq_true rfl) ⟨Nat.le_of_ble_eq_true rfl, Nat.le_of_ble_eq_true rfl⟩ dX4_write_24 (fun H locs hP hS => ?_)
    refine lvz_if_eq (tgt := 37) hx hb dX4_write_27 (by decide) (fun c_27 => ?_) (fun c_27 => ?_)
    · skip
      obtain ⟨z_, hz4, hze⟩ := hz i (by omega)
      have hclz : (ss i).toNatClampNeg = z_ := by rw [hze]; exact nI_clamp (by omega)
      refine lv_iload_n hx hb dX4_write_37 rfl (lv_at hl 3 rfl) ?_
      refine lv_iconst (v := nI 0) hx hb dX4_write_38 (by decide) ?_
      refine lv_aload hx hb dX4_write_39 (lv_at hl 0 rfl) ?_
      refine c_get (v := .int (ss i)) (C := RX1) (T := TX1) (N := 3) hx hb hts hin1 hown hK hP (34 + 2 * i) (by omega) (cE_sh (by omega)) rfl 2 (by decide) (Or.inr (c_nest hK 30 rfl)) rfl dX4_write_41 ?_
      refine lv_top hze ?_
      refine lv_iconst (v := nI 1) hx hb dX4_write_44 (by decide) ?_
      refine lv_isub hx hb dX4_write_45 ?_
      refine sq_S S (c_X4_withinA (by decide)) gX4_write_X4_within i_X4_within ⟨Nat.le_of_ble_eq_true rfl, Nat.le_of_ble_eq_true rfl⟩ rfl hl.1 (As := [.int (o), .int (nI 0), .int ((nI z_) - (nI 1))]) (rest := []) (st1 := [.int (z (rg 0 ((nI z_) - (nI 1)).toInt (o)))]) rfl rfl (Nat.le_of_ble_eq_true rfl) ⟨Nat.le_of_ble_eq_true rfl, Nat.le_of_ble_eq_true rfl⟩ dX4_write_46 ?_
      refine lvz_if_ne (tgt := 59) hx hb dX4_write_49 (by decide) (fun c_49 => ?_) (fun c_49 => ?_)
      · skip
        obtain ⟨j_, h_j, rfl⟩ := rgsn hz4 c_49
        have hcl_j_ : (nI j_).toNatClampNeg = j_ := nI_clamp (by omega)
        refine lv_aload hx hb dX4_write_59 (lv_at hl 0 rfl) ?_
        refine c_get (v := .ref (ad (35 + 2 * i))) (C := RX1) (T := TX1) (N := 3) hx hb hts hin1 hown hK hP (34 + 2 * i) (by omega) (cE_sh (by omega)) rfl 0 (by decide) (Or.inr (c_nest hK 28 rfl)) rfl dX4_write_61 ?_
        refine lv_iload_n hx hb dX4_write_64 rfl (lv_at hl 3 rfl) ?_
        refine c_aldL hx hb hK hP i (by omega) (by omega) dX4_write_65 ?_
        refine lv_lstore (lv' := [(6, .long (sw i j_)), (5, .ref (ad (34 + 2 * i))), (0, .ref (ad 0)), (1, .int (nI i)), (2, .int (nI j_)), (3, .long (x))]) hx hb dX4_write_66 hl (by decide) rfl (fun ls hl => ?_)
        refine lv_aload hx hb dX4_write_68 (lv_at hl 1 rfl) ?_
        refine lv_iload_n hx hb dX4_write_70 rfl (lv_at hl 4 rfl) ?_
        refine lv_lload_n hx hb dX4_write_71 rfl (lv_at hl 5 rfl) ?_
        refine wq_VN (host := "PennyRoad") S cK_ok hK hP hS (c_X1_put (by omega) (by omega)) gX4_write_X1_put_n190 i_X1_put (c_nest hK 56 rfl) (hts (.initialized RX1) (by decide +kernel)) (hts (.instanceMethod yX1_put) (by decide +kernel)) (hts (.selects RX1 yX1_put yX1_put) (by decide +kernel)) (c_rec hK hP (34 + 2 * i) (by omega) (cE_sh (by omega)) rfl) ⟨Nat.le_of_ble_eq_true rfl, Nat.le_of_ble_eq_true rfl⟩ rfl hl.1 (As := [.int (nI j_), .long (x)]) (rest := []) (st1 := []) rfl rfl (Nat.le_of_ble_eq_true rfl) ⟨Nat.le_of_ble_eq_true rfl, Nat.le_of_ble_eq_true rfl⟩ dX4_write_72 (fun H locs hP hS => ?_)
        refine lv_lload hx hb dX4_write_75 (lv_at hl 0 rfl) ?_
        subst hQ
        exact cp_rl hx hb hr hlocks hP hS dX4_write_77 (by first | with_reducible rfl | (simp only [fnd, if_pos c_4, if_neg c_27, if_pos c_49]; done) | (simp only [fnd, hcl_i, hze, hcl_j_, c_4, if_neg c_27, c_49, Bool.false_eq_true, Bool.true_eq_false, and_true, true_and, false_and, and_false, and_self, not_true_eq_false, not_false_eq_true, if_true, if_false, reduceIte, or_false, false_or, true_or, or_true]; done) | (subst_vars; first | with_reducible rfl | (simp only [fnd, if_pos c_4, if_neg c_27, if_pos c_49]; done) | (simp only [fnd, hcl_i, hze, hcl_j_, c_4, if_neg c_27, c_49, Bool.false_eq_true, Bool.true_eq_false, and_true, true_and, false_and, and_false, and_self, not_true_eq_false, not_false_eq_true, if_true, if_false, reduceIte, or_false, false_or, true_or, or_true]; done)) | contradiction | rfl) (by first | with_reducible rfl | (simp only [fnd, if_pos c_4, if_neg c_27, if_pos c_49]; done) | (simp only [fnd, hcl_i, hze, hcl_j_, c_4, if_neg c_27, c_49, Bool.false_eq_true, Bool.true_eq_false, and_true, true_and, false_and, and_false, and_self, not_true_eq_false, not_false_eq_true, if_true, if_false, reduceIte, or_false, false_or, true_or, or_true]; done) | (subst_vars; first | with_reducible rfl | (simp only [fnd, if_pos c_4, if_neg c_27, if_pos c_49]; done) | (simp only [fnd, hcl_i, hze, hcl_j_, c_4, if_neg c_27, c_49, Bool.false_eq_true, Bool.true_eq_false, and_true, true_and, false_and, and_false, and_self, not_true_eq_false, not_false_eq_true, if_true, if_false, reduceIte, or_false, false_or, true_or, or_true]; done)) | contradiction | rfl)
      · skip
        refine lv_aload_n hx hb dX4_write_52 rfl (lv_at hl 1 rfl) ?_
        refine lv_iconst (v := nI 0) hx hb dX4_write_53 (by decide) ?_
        refine wq_V S cK_ok hK hP hS (c_X4_finding (t := 0) (by decide)) gX4_write_X4_finding i_X4_finding rfl (c_rec hK hP 0 (by decide) cE_0 rfl) ⟨Nat.le_of_ble_eq_true rfl, Nat.le_of_ble_eq_true rfl⟩ rfl hl.1 (As := [.int (nI 0)]) (rest := []) (st1 := [.int ((-1000000001))]) rfl rfl (Nat.le_of_ble_eq_true rfl) ⟨Nat.le_of_ble_eq_true rfl, Nat.le_of_ble_eq_true rfl⟩ dX4_write_54 (fun H locs hP hS => ?_)
        refine lv_i2l (v := ((-1000000001) : Int32).toInt64) hx hb dX4_write_57 rfl ?_
        subst hQ
        exact cp_rl hx hb hr hlocks hP hS dX4_write_58 (by first | with_reducible rfl | (simp only [fnd, if_pos c_4, if_neg c_27, if_neg c_49]; done) | (simp only [fnd, hcl_i, hze, c_4, if_neg c_27, c_49, Bool.false_eq_true, Bool.true_eq_false, and_true, true_and, false_and, and_false, and_self, not_true_eq_false, not_false_eq_true, if_true, if_false, reduceIte, or_false, false_or, true_or, or_true]; done) | (subst_vars; first | with_reducible rfl | (simp only [fnd, if_pos c_4, if_neg c_27, if_neg c_49]; done) | (simp only [fnd, hcl_i, hze, c_4, if_neg c_27, c_49, Bool.false_eq_true, Bool.true_eq_false, and_true, true_and, false_and, and_false, and_self, not_true_eq_false, not_false_eq_true, if_true, if_false, reduceIte, or_false, false_or, true_or, or_true]; done)) | contradiction | rfl) (by first | with_reducible rfl | (simp only [fnd, if_pos c_4, if_neg c_27, if_neg c_49]; done) | (simp only [fnd, hcl_i, hze, c_4, if_neg c_27, c_49, Bool.false_eq_true, Bool.true_eq_false, and_true, true_and, false_and, and_false, and_self, not_true_eq_false, not_false_eq_true, if_true, if_false, reduceIte, or_false, false_or, true_or, or_true]; done) | (subst_vars; first | with_reducible rfl | (simp only [fnd, if_pos c_4, if_neg c_27, if_neg c_49]; done) | (simp only [fnd, hcl_i, hze, c_4, if_neg c_27, c_49, Bool.false_eq_true, Bool.true_eq_false, and_true, true_and, false_and, and_false, and_self, not_true_eq_false, not_false_eq_true, if_true, if_false, reduceIte, or_false, false_or, true_or, or_true]; done)) | contradiction | rfl)
    · skip
      refine lv_aload_n hx hb dX4_write_30 rfl (lv_at hl 1 rfl) ?_
      refine lv_iconst (v := nI 5) hx hb dX4_write_31 (by decide) ?_
      refine wq_V S cK_ok hK hP hS (c_X4_finding (t := 5) (by decide)) gX4_write_X4_finding i_X4_finding rfl (c_rec hK hP 0 (by decide) cE_0 rfl) ⟨Nat.le_of_ble_eq_true rfl, Nat.le_of_ble_eq_true rfl⟩ rfl hl.1 (As := [.int (nI 5)]) (rest := []) (st1 := [.int ((-1000000006))]) rfl rfl (Nat.le_of_ble_eq_true rfl) ⟨Nat.le_of_ble_eq_true rfl, Nat.le_of_ble_eq_true rfl⟩ dX4_write_32 (fun H locs hP hS => ?_)
      refine lv_i2l (v := ((-1000000006) : Int32).toInt64) hx hb dX4_write_35 rfl ?_
      subst hQ
      exact cp_rl hx hb hr hlocks hP hS dX4_write_36 (by first | with_reducible rfl | (simp only [fnd, if_pos c_4, if_pos c_27]; done) | (simp only [fnd, hcl_i, c_4, if_pos c_27, Bool.false_eq_true, Bool.true_eq_false, and_true, true_and, false_and, and_false, and_self, not_true_eq_false, not_false_eq_true, if_true, if_false, reduceIte, or_false, false_or, true_or, or_true]; done) | (subst_vars; first | with_reducible rfl | (simp only [fnd, if_pos c_4, if_pos c_27]; done) | (simp only [fnd, hcl_i, c_4, if_pos c_27, Bool.false_eq_true, Bool.true_eq_false, and_true, true_and, false_and, and_false, and_self, not_true_eq_false, not_false_eq_true, if_true, if_false, reduceIte, or_false, false_or, true_or, or_true]; done)) | contradiction | rfl) (by first | with_reducible rfl | (simp only [fnd, if_pos c_4, if_pos c_27]; done) | (simp only [fnd, hcl_i, c_4, if_pos c_27, Bool.false_eq_true, Bool.true_eq_false, and_true, true_and, false_and, and_false, and_self, not_true_eq_false, not_false_eq_true, if_true, if_false, reduceIte, or_false, false_or, true_or, or_true]; done) | (subst_vars; first | with_reducible rfl | (simp only [fnd, if_pos c_4, if_pos c_27]; done) | (simp only [fnd, hcl_i, c_4, if_pos c_27, Bool.false_eq_true, Bool.true_eq_false, and_true, true_and, false_and, and_false, and_self, not_true_eq_false, not_false_eq_true, if_true, if_false, reduceIte, or_false, false_or, true_or, or_true]; done)) | contradiction | rfl)
  · skip
    refine lv_aload_n hx hb dX4_write_7 rfl (lv_at hl 0 rfl) ?_
    refine lv_iconst (v := nI 0) hx hb dX4_write_8 (by decide) ?_
    refine wq_V S cK_ok hK hP hS (c_X4_finding (t := 0) (by decide)) gX4_write_X4_finding i_X4_finding rfl (c_rec hK hP 0 (by decide) cE_0 rfl) ⟨Nat.le_of_ble_eq_true rfl, Nat.le_of_ble_eq_true rfl⟩ rfl hl.1 (As := [.int (nI 0)]) (rest := []) (st1 := [.int ((-1000000001))]) rfl rfl (Nat.le_of_ble_eq_true rfl) ⟨Nat.le_of_ble_eq_true rfl, Nat.le_of_ble_eq_true rfl⟩ dX4_write_9 (fun H locs hP hS => ?_)
    refine lv_i2l (v := ((-1000000001) : Int32).toInt64) hx hb dX4_write_12 rfl ?_
    subst hQ
    exact cp_rl hx hb hr hlocks hP hS dX4_write_13 (by first | with_reducible rfl | (simp only [fnd, if_neg c_4]; done) | (simp only [fnd, c_4, Bool.false_eq_true, Bool.true_eq_false, and_true, true_and, false_and, and_false, and_self, not_true_eq_false, not_false_eq_true, if_true, if_false, reduceIte, or_false, false_or, true_or, or_true]; done) | (subst_vars; first | with_reducible rfl | (simp only [fnd, if_neg c_4]; done) | (simp only [fnd, c_4, Bool.false_eq_true, Bool.true_eq_false, and_true, true_and, false_and, and_false, and_self, not_true_eq_false, not_false_eq_true, if_true, if_false, reduceIte, or_false, false_or, true_or, or_true]; done)) | contradiction | rfl) (by first | with_reducible rfl | (simp only [fnd, if_neg c_4]; done) | (simp only [fnd, c_4, Bool.false_eq_true, Bool.true_eq_false, and_true, true_and, false_and, and_false, and_self, not_true_eq_false, not_false_eq_true, if_true, if_false, reduceIte, or_false, false_or, true_or, or_true]; done) | (subst_vars; first | with_reducible rfl | (simp only [fnd, if_neg c_4]; done) | (simp only [fnd, c_4, Bool.false_eq_true, Bool.true_eq_false, and_true, true_and, false_and, and_false, and_self, not_true_eq_false, not_false_eq_true, if_true, if_false, reduceIte, or_false, false_or, true_or, or_true]; done)) | contradiction | rfl)
theorem i_X4_write : ciOk yX4_write cX4_write 8 (some .long) wsX4_write 3 := ⟨⟨_, rfl⟩, by decide +kernel⟩
