set_option maxHeartbeats 1000000 in
set_option maxRecDepth 100000 in
theorem c_X4_stop {l : Launch} {D : va_G} {cy : Nat → ClassId} {ad : Nat → Nat} {p0 : Nat → Int32} {p1 : Nat → Int32} {p2 : Nat → Int32} {ke : Int32} {tb : Nat → Int32} {t1 : Int32} {t2 : Int32} {t3 : Int32} {t4 : Int32} {t5 : Int32} {sb : Nat → Int32} {ss : Nat → Int32} {sw : Nat → Nat → Int64} {fd : Nat → Int32} {q : Int32} {N : Nat} (hN : p0 0 = nI N) (h8 : N ≤ 8) : Met l yX4_stop wsX4_stop (rmz 5 111) (wPre D (cK D cy ad) (cw cy ad (rr p0 p1 p2) ke tb t1 t2 t3 t4 t5 sb ss sw fd) [.ref (ad 0), .int (q)]) (cPub D cy ad (some (.int (if rg 1 60 q then (sO N q.toNatClampNeg p0 (withL p0 7 N 0 (nI 0)) (2 ^ N) (N + 1) 0).elim (-1000000004) nI else -1000000001))) p0 p2 ke tb t1 sb ss sw (if rg 1 60 q then (sO N q.toNatClampNeg p0 (withL p0 7 N 0 (nI 0)) (2 ^ N) (N + 1) 0).elim (fnd fd 3) (fun _ => fd) else fnd fd 0)) 0 0 (cA ad) := by
  refine wq_entry rfl rfl (Nat.le_of_ble_eq_true rfl) ?_
  intro p e s0 m args below meth c S hr hlocks hK hP ls hl
  have S : CallFix p m c cX4_stop 5 s0 args wsX4_stop RX4 := S
  obtain ⟨hx, hb, hml, hown, hts⟩ := id S
  have hin4 : ∀ w ∈ wsX40, w ∈ wsX4_stop := fun w h => List.mem_cons_of_mem _ (List.mem_append_left _ (List.mem_append_left _ (List.mem_append_right _ h)))
  have hin0 : ∀ w ∈ wsX00, w ∈ wsX4_stop := fun w h => List.mem_cons_of_mem _ (List.mem_append_left _ (List.mem_append_right _ h))
  have hin3 : ∀ w ∈ wsX30, w ∈ wsX4_stop := fun w h => List.mem_cons_of_mem _ (List.mem_append_right _ h)
  have hS : va_S (cA ad) s0.heap s0.heap [] := va_S.rf
  have hl : lv_has ls 5 [(0, .ref (ad 0)), (1, .int (q))] := hl
  generalize hQ : MQ below (cPub D cy ad (some (.int (if rg 1 60 q then (sO N q.toNatClampNeg p0 (withL p0 7 N 0 (nI 0)) (2 ^ N) (N + 1) 0).elim (-1000000004) nI else -1000000001))) p0 p2 ke tb t1 sb ss sw (if rg 1 60 q then (sO N q.toNatClampNeg p0 (withL p0 7 N 0 (nI 0)) (2 ^ N) (N + 1) 0).elim (fnd fd 3) (fun _ => fd) else fnd fd 0)) args s0 0 0 (cA ad) = Q
  obtain ⟨M_, hM_, hM2⟩ : ∃ M : Nat, 2 ^ N = M ∧ M ≤ 256 := ⟨_, rfl, pow_8 N (by omega)⟩
  refine lv_iload_n hx hb dX4_stop_0 rfl (lv_at hl 1 rfl) ?_
  refine lv_iconst (v := nI 1) hx hb dX4_stop_1 (by decide) ?_
  refine lv_bipush (v := nI 60) hx hb dX4_stop_2 (by decide) ?_
  refine sq_S S (c_X4_withinN (by decide) (by decide)) gX4_stop_X4_within i_X4_within ⟨Nat.le_of_ble_eq_true rfl, Nat.le_of_ble_eq_true rfl⟩ rfl hl.1 (As := [.int (q), .int (nI 1), .int (nI 60)]) (rest := []) (st1 := [.int (z (rg 1 60 (q)))]) rfl rfl (Nat.le_of_ble_eq_true rfl) ⟨Nat.le_of_ble_eq_true rfl, Nat.le_of_ble_eq_true rfl⟩ dX4_stop_4 ?_
  refine lvz_if_ne (tgt := 16) hx hb dX4_stop_7 (by decide) (fun c_7 => ?_) (fun c_7 => ?_)
  · skip
    obtain ⟨h, h_h, h_h2, rfl⟩ := rg_ix (a := 1) (b := 60) (by decide) c_7
    have hcl_h : (nI h).toNatClampNeg = h := nI_clamp (by omega)
    refine lv_aload_n hx hb dX4_stop_16 rfl (lv_at hl 0 rfl) ?_
    refine c_get (v := .ref (ad (1 + 10 * 0))) (C := RX4) (T := TX4) (N := 7) hx hb hts hin4 hown hK hP (0) (by decide) cE_0 rfl 0 (by decide) (Or.inl (hts (.fieldLink RX4 10 "PennyRoad" "present" "LPennyRoad$Road;") (by decide +kernel))) rfl dX4_stop_17 ?_
    refine lv_bipush (v := nI 7) hx hb dX4_stop_20 (by decide) ?_
    refine wq_VN (host := "PennyRoad") S cK_ok hK hP hS (c_X0_setWith_r0 hN h8 (by omega) (by omega)) gX4_stop_X0_setWith_n127 i_X0_setWith (c_nest hK 46 rfl) (hts (.initialized RX0) (by decide +kernel)) (hts (.instanceMethod yX0_setWith) (by decide +kernel)) (hts (.selects RX0 yX0_setWith yX0_setWith) (by decide +kernel)) (c_rec hK hP (1 + 10 * 0) (by decide) (cE_rd (by decide)) rfl) ⟨Nat.le_of_ble_eq_true rfl, Nat.le_of_ble_eq_true rfl⟩ rfl hl.1 (As := [.int (nI 7)]) (rest := []) (st1 := [.int (withL p0 7 N 0 (nI 0))]) rfl rfl (Nat.le_of_ble_eq_true rfl) ⟨Nat.le_of_ble_eq_true rfl, Nat.le_of_ble_eq_true rfl⟩ dX4_stop_22 (fun H locs hP hS => ?_)
    refine lv_istore_n (lv' := [(2, .int (withL p0 7 N 0 (nI 0))), (0, .ref (ad 0)), (1, .int (nI h))]) hx hb dX4_stop_25 rfl hl (by decide) rfl (fun ls hl => ?_)
    refine lv_iconst (v := nI 0) hx hb dX4_stop_26 (by decide) ?_
    refine lv_istore_n (lv' := [(3, .int (nI 0)), (2, .int (withL p0 7 N 0 (nI 0))), (0, .ref (ad 0)), (1, .int (nI h))]) hx hb dX4_stop_27 rfl hl (by decide) rfl (fun ls hl => ?_)
    have L_28 : ∀ (n : Nat) (m_ : Nat) (aa : Nat → Int32) (H : Heap) (locs : List Loc) (ls : Array Slot), (m_ + n = N + 1) → (sO N h p0 (withL p0 7 N 0 (nI 0)) M_ (N + 1) 0 = sO N h p0 (withL p0 7 N 0 (nI 0)) M_ n m_) → va_P D vwCl (cw cy ad (rr p0 aa p2) ke tb t1 t2 t3 t4 t5 sb ss sw fd) H → va_S (cA ad) s0.heap H locs → lv_has ls 5 [(3, .int (nI m_)), (2, .int (withL p0 7 N 0 (nI 0))), (0, .ref (ad 0)), (1, .int (nI h))] → W p l e (rmz 5 111) s0 m args below meth c H locs 0 0 Q (F0 m 28 ls []) := by
      intro n
      induction n with
      | zero =>
        intro m_ aa H locs ls hj hF hP hS hl
        refine lv_iload_n hx hb dX4_stop_28 rfl (lv_at hl 0 rfl) ?_
        refine lv_aload_n hx hb dX4_stop_29 rfl (lv_at hl 2 rfl) ?_
        refine c_get (v := .ref (ad (1 + 10 * 0))) (C := RX4) (T := TX4) (N := 7) hx hb hts hin4 hown hK hP (0) (by decide) cE_0 rfl 0 (by decide) (Or.inl (hts (.fieldLink RX4 10 "PennyRoad" "present" "LPennyRoad$Road;") (by decide +kernel))) rfl dX4_stop_30 ?_
        refine c_get (v := .int (p0 0)) (C := RX0) (T := TX0) (N := 6) hx hb hts hin0 hown hK hP (1 + 10 * 0) (by decide) (cE_rd (by decide)) rfl 4 (by decide) (Or.inr (c_nest hK 25 rfl)) rfl dX4_stop_33 ?_
        refine lv_top hN ?_
        refine lvn_icmp_gt (tgt := 97) hx hb dX4_stop_36 (by decide) (by omega) (by omega) (fun c_36 => ?_) (fun c_36 => ?_)
        · skip
          have hE : sO N h p0 (withL p0 7 N 0 (nI 0)) M_ (N + 1) 0 = none := hF
          refine lv_aload_n hx hb dX4_stop_97 rfl (lv_at hl 2 rfl) ?_
          refine lv_iconst (v := nI 3) hx hb dX4_stop_98 (by decide) ?_
          refine wq_V S cK_ok hK hP hS (c_X4_finding (t := 3) (by decide)) gX4_stop_X4_finding i_X4_finding rfl (c_rec hK hP 0 (by decide) cE_0 rfl) ⟨Nat.le_of_ble_eq_true rfl, Nat.le_of_ble_eq_true rfl⟩ rfl hl.1 (As := [.int (nI 3)]) (rest := []) (st1 := [.int ((-1000000004))]) rfl rfl (Nat.le_of_ble_eq_true rfl) ⟨Nat.le_of_ble_eq_true rfl, Nat.le_of_ble_eq_true rfl⟩ dX4_stop_99 (fun H locs hP hS => ?_)
          subst hQ
          exact cp_ri hx hb hr hlocks hP hS dX4_stop_102 (by first | with_reducible rfl | (simp only [fnd, Option.elim_none, Option.elim_some, if_pos c_7, if_pos c_36]; done) | (simp only [fnd, Option.elim_none, Option.elim_some, hM_, hcl_h, hE, c_7, if_pos c_36, Bool.false_eq_true, Bool.true_eq_false, and_true, true_and, false_and, and_false, and_self, not_true_eq_false, not_false_eq_true, if_true, if_false, reduceIte, or_false, false_or, true_or, or_true]; done) | (subst_vars; first | with_reducible rfl | (simp only [fnd, Option.elim_none, Option.elim_some, if_pos c_7, if_pos c_36]; done) | (simp only [fnd, Option.elim_none, Option.elim_some, hM_, hcl_h, hE, c_7, if_pos c_36, Bool.false_eq_true, Bool.true_eq_false, and_true, true_and, false_and, and_false, and_self, not_true_eq_false, not_false_eq_true, if_true, if_false, reduceIte, or_false, false_or, true_or, or_true]; done)) | contradiction | rfl) (by first | with_reducible rfl | (simp only [fnd, Option.elim_none, Option.elim_some, if_pos c_7, if_pos c_36]; done) | (simp only [fnd, Option.elim_none, Option.elim_some, hM_, hcl_h, hE, c_7, if_pos c_36, Bool.false_eq_true, Bool.true_eq_false, and_true, true_and, false_and, and_false, and_self, not_true_eq_false, not_false_eq_true, if_true, if_false, reduceIte, or_false, false_or, true_or, or_true]; done) | (subst_vars; first | with_reducible rfl | (simp only [fnd, Option.elim_none, Option.elim_some, if_pos c_7, if_pos c_36]; done) | (simp only [fnd, Option.elim_none, Option.elim_some, hM_, hcl_h, hE, c_7, if_pos c_36, Bool.false_eq_true, Bool.true_eq_false, and_true, true_and, false_and, and_false, and_self, not_true_eq_false, not_false_eq_true, if_true, if_false, reduceIte, or_false, false_or, true_or, or_true]; done)) | contradiction | rfl)
        · skip
          exfalso; omega
      | succ n ih_28 =>
        intro m_ aa H locs ls hj hF hP hS hl
        refine lv_iload_n hx hb dX4_stop_28 rfl (lv_at hl 0 rfl) ?_
        refine lv_aload_n hx hb dX4_stop_29 rfl (lv_at hl 2 rfl) ?_
        refine c_get (v := .ref (ad (1 + 10 * 0))) (C := RX4) (T := TX4) (N := 7) hx hb hts hin4 hown hK hP (0) (by decide) cE_0 rfl 0 (by decide) (Or.inl (hts (.fieldLink RX4 10 "PennyRoad" "present" "LPennyRoad$Road;") (by decide +kernel))) rfl dX4_stop_30 ?_
        refine c_get (v := .int (p0 0)) (C := RX0) (T := TX0) (N := 6) hx hb hts hin0 hown hK hP (1 + 10 * 0) (by decide) (cE_rd (by decide)) rfl 4 (by decide) (Or.inr (c_nest hK 25 rfl)) rfl dX4_stop_33 ?_
        refine lv_top hN ?_
        refine lvn_icmp_gt (tgt := 97) hx hb dX4_stop_36 (by decide) (by omega) (by omega) (fun c_36 => ?_) (fun c_36 => ?_)
        · skip
          exfalso; omega
        · skip
          refine lv_iconst (v := nI 0) hx hb dX4_stop_39 (by decide) ?_
          refine lv_istore (lv' := [(4, .int (nI 0)), (3, .int (nI m_)), (2, .int (withL p0 7 N 0 (nI 0))), (0, .ref (ad 0)), (1, .int (nI h))]) hx hb dX4_stop_40 hl (by decide) rfl (fun ls hl => ?_)
          have L_42 : ∀ (k : Nat) (x : Nat) (ab : Nat → Int32) (H : Heap) (locs : List Loc) (ls : Array Slot), (x + k = M_) → (sO N h p0 (withL p0 7 N 0 (nI 0)) M_ (N + 1) 0 = sI N h p0 (withL p0 7 N 0 (nI 0)) m_ k x (sO N h p0 (withL p0 7 N 0 (nI 0)) M_ n (m_ + 1))) → va_P D vwCl (cw cy ad (rr p0 ab p2) ke tb t1 t2 t3 t4 t5 sb ss sw fd) H → va_S (cA ad) s0.heap H locs → lv_has ls 5 [(4, .int (nI x)), (3, .int (nI m_)), (2, .int (withL p0 7 N 0 (nI 0))), (0, .ref (ad 0)), (1, .int (nI h))] → W p l e (rmz 5 111) s0 m args below meth c H locs 0 0 Q (F0 m 42 ls []) := by
            intro k
            induction k with
            | zero =>
              intro x ab H locs ls hj2 hG hP hS hl
              refine lv_iload hx hb dX4_stop_42 (lv_at hl 0 rfl) ?_
              refine lv_iconst (v := nI 1) hx hb dX4_stop_44 (by decide) ?_
              refine lv_aload_n hx hb dX4_stop_45 rfl (lv_at hl 3 rfl) ?_
              refine c_get (v := .ref (ad (1 + 10 * 0))) (C := RX4) (T := TX4) (N := 7) hx hb hts hin4 hown hK hP (0) (by decide) cE_0 rfl 0 (by decide) (Or.inl (hts (.fieldLink RX4 10 "PennyRoad" "present" "LPennyRoad$Road;") (by decide +kernel))) rfl dX4_stop_46 ?_
              refine c_get (v := .int (p0 0)) (C := RX0) (T := TX0) (N := 6) hx hb hts hin0 hown hK hP (1 + 10 * 0) (by decide) (cE_rd (by decide)) rfl 4 (by decide) (Or.inr (c_nest hK 25 rfl)) rfl dX4_stop_49 ?_
              refine lv_top hN ?_
              refine lv_ishl hx hb dX4_stop_52 ?_
              refine lv_top ((shl_N N (by omega)).trans (by rw [hM_])) ?_
              refine lvn_icmp_ge (tgt := 91) hx hb dX4_stop_53 (by decide) (by omega) (by omega) (fun c_53 => ?_) (fun c_53 => ?_)
              · skip
                refine lv_iinc (v := nI (m_ + 1)) (lv' := [(3, .int (nI (m_ + 1))), (4, .int (nI x)), (2, .int (withL p0 7 N 0 (nI 0))), (0, .ref (ad 0)), (1, .int (nI h))]) hx hb dX4_stop_91 hl (k := 1) rfl (nI_add _ _) (by decide) rfl (fun ls hl => ?_)
                refine lv_goto (tgt := 28) hx hb dX4_stop_94 (by decide) ?_
                exact ih_28 (m_ + 1) _ _ _ ls (by omega) hG hP hS (lv_sub hl [0, 2, 3, 4] rfl)
              · skip
                exfalso; omega
            | succ k ih_42 =>
              intro x ab H locs ls hj2 hG hP hS hl
              refine lv_iload hx hb dX4_stop_42 (lv_at hl 0 rfl) ?_
              refine lv_iconst (v := nI 1) hx hb dX4_stop_44 (by decide) ?_
              refine lv_aload_n hx hb dX4_stop_45 rfl (lv_at hl 3 rfl) ?_
              refine c_get (v := .ref (ad (1 + 10 * 0))) (C := RX4) (T := TX4) (N := 7) hx hb hts hin4 hown hK hP (0) (by decide) cE_0 rfl 0 (by decide) (Or.inl (hts (.fieldLink RX4 10 "PennyRoad" "present" "LPennyRoad$Road;") (by decide +kernel))) rfl dX4_stop_46 ?_
              refine c_get (v := .int (p0 0)) (C := RX0) (T := TX0) (N := 6) hx hb hts hin0 hown hK hP (1 + 10 * 0) (by decide) (cE_rd (by decide)) rfl 4 (by decide) (Or.inr (c_nest hK 25 rfl)) rfl dX4_stop_49 ?_
              refine lv_top hN ?_
              refine lv_ishl hx hb dX4_stop_52 ?_
              refine lv_top ((shl_N N (by omega)).trans (by rw [hM_])) ?_
              refine lvn_icmp_ge (tgt := 91) hx hb dX4_stop_53 (by decide) (by omega) (by omega) (fun c_53 => ?_) (fun c_53 => ?_)
              · skip
                exfalso; omega
              · skip
                refine lv_iload hx hb dX4_stop_56 (lv_at hl 0 rfl) ?_
                refine sq_S S (c_bitCount (by omega)) gX4_stop_J6_bitCount_0f7a4 i_J6_bitCount_0f7a4 ⟨Nat.le_of_ble_eq_true rfl, Nat.le_of_ble_eq_true rfl⟩ rfl hl.1 (As := [.int (nI x)]) (rest := []) (st1 := [.int (nI (onesL x x 0))]) rfl rfl (Nat.le_of_ble_eq_true rfl) ⟨Nat.le_of_ble_eq_true rfl, Nat.le_of_ble_eq_true rfl⟩ dX4_stop_58 ?_
                have ho := onesL_le x x 0
                refine lv_iload_n hx hb dX4_stop_61 rfl (lv_at hl 1 rfl) ?_
                refine lvn_icmp_ne (tgt := 85) hx hb dX4_stop_62 (by decide) (by omega) (by omega) (fun c_62 => ?_) (fun c_62 => ?_)
                · skip
                  refine lv_iinc (v := nI (x + 1)) (lv' := [(4, .int (nI (x + 1))), (3, .int (nI m_)), (2, .int (withL p0 7 N 0 (nI 0))), (0, .ref (ad 0)), (1, .int (nI h))]) hx hb dX4_stop_85 hl (k := 0) rfl (nI_add _ _) (by decide) rfl (fun ls hl => ?_)
                  refine lv_goto (tgt := 42) hx hb dX4_stop_88 (by decide) ?_
                  exact ih_42 (x + 1) _ _ _ ls (by omega) (hG.trans (if_neg (fun e9 => c_62 e9.1))) hP hS hl
                · skip
                  refine lv_iload hx hb dX4_stop_65 (lv_at hl 0 rfl) ?_
                  refine lv_iload_n hx hb dX4_stop_67 rfl (lv_at hl 2 rfl) ?_
                  refine lv_iand hx hb dX4_stop_68 ?_
                  refine lv_if_ne (tgt := 85) hx hb dX4_stop_69 (by decide) (fun c_69 => ?_) (fun c_69 => ?_)
                  · skip
                    refine lv_iinc (v := nI (x + 1)) (lv' := [(4, .int (nI (x + 1))), (3, .int (nI m_)), (2, .int (withL p0 7 N 0 (nI 0))), (0, .ref (ad 0)), (1, .int (nI h))]) hx hb dX4_stop_85 hl (k := 0) rfl (nI_add _ _) (by decide) rfl (fun ls hl => ?_)
                    refine lv_goto (tgt := 42) hx hb dX4_stop_88 (by decide) ?_
                    exact ih_42 (x + 1) _ _ _ ls (by omega) (hG.trans (if_neg (fun e9 => c_69 e9.2.1))) hP hS hl
                  · skip
                    refine lv_aload_n hx hb dX4_stop_72 rfl (lv_at hl 3 rfl) ?_
                    refine lv_iload hx hb dX4_stop_73 (lv_at hl 0 rfl) ?_
                    refine lv_iload_n hx hb dX4_stop_75 rfl (lv_at hl 4 rfl) ?_
                    refine wq_V S cK_ok hK hP hS (c_X4_lastsWithout (by omega) (by omega) hN h8) gX4_stop_X4_lastsWithout i_X4_lastsWithout rfl (c_rec hK hP 0 (by decide) cE_0 rfl) ⟨Nat.le_of_ble_eq_true rfl, Nat.le_of_ble_eq_true rfl⟩ rfl hl.1 (As := [.int (nI x), .int (nI h)]) (rest := []) (st1 := [.int (z (0 < lastC N h (stopC x N 0 p0) 2))]) rfl rfl (Nat.le_of_ble_eq_true rfl) ⟨Nat.le_of_ble_eq_true rfl, Nat.le_of_ble_eq_true rfl⟩ dX4_stop_76 (fun H locs hP hS => ?_)
                    refine lvz_if_eq (tgt := 85) hx hb dX4_stop_79 (by decide) (fun c_79 => ?_) (fun c_79 => ?_)
                    · skip
                      refine lv_iinc (v := nI (x + 1)) (lv' := [(4, .int (nI (x + 1))), (3, .int (nI m_)), (2, .int (withL p0 7 N 0 (nI 0))), (0, .ref (ad 0)), (1, .int (nI h))]) hx hb dX4_stop_85 hl (k := 0) rfl (nI_add _ _) (by decide) rfl (fun ls hl => ?_)
                      refine lv_goto (tgt := 42) hx hb dX4_stop_88 (by decide) ?_
                      exact ih_42 (x + 1) _ _ _ ls (by omega) (hG.trans (if_neg (fun e9 => c_79 e9.2.2))) hP hS hl
                    · skip
                      have hE : sO N h p0 (withL p0 7 N 0 (nI 0)) M_ (N + 1) 0 = some x := hG.trans (if_pos ⟨c_62, c_69, c_79⟩)
                      refine lv_iload hx hb dX4_stop_82 (lv_at hl 0 rfl) ?_
                      subst hQ
                      exact cp_ri hx hb hr hlocks hP hS dX4_stop_84 (by first | with_reducible rfl | (simp only [fnd, Option.elim_none, Option.elim_some, if_pos c_7, if_neg c_36, if_neg c_53, if_pos c_62, if_pos c_69, if_pos c_79]; done) | (simp only [fnd, Option.elim_none, Option.elim_some, hM_, hcl_h, hE, c_7, if_neg c_36, if_neg c_53, if_pos c_62, if_pos c_69, if_pos c_79, Bool.false_eq_true, Bool.true_eq_false, and_true, true_and, false_and, and_false, and_self, not_true_eq_false, not_false_eq_true, if_true, if_false, reduceIte, or_false, false_or, true_or, or_true]; done) | (subst_vars; first | with_reducible rfl | (simp only [fnd, Option.elim_none, Option.elim_some, if_pos c_7, if_neg c_36, if_neg c_53, if_pos c_62, if_pos c_69, if_pos c_79]; done) | (simp only [fnd, Option.elim_none, Option.elim_some, hM_, hcl_h, hE, c_7, if_neg c_36, if_neg c_53, if_pos c_62, if_pos c_69, if_pos c_79, Bool.false_eq_true, Bool.true_eq_false, and_true, true_and, false_and, and_false, and_self, not_true_eq_false, not_false_eq_true, if_true, if_false, reduceIte, or_false, false_or, true_or, or_true]; done)) | contradiction | rfl) (by first | with_reducible rfl | (simp only [fnd, Option.elim_none, Option.elim_some, if_pos c_7, if_neg c_36, if_neg c_53, if_pos c_62, if_pos c_69, if_pos c_79]; done) | (simp only [fnd, Option.elim_none, Option.elim_some, hM_, hcl_h, hE, c_7, if_neg c_36, if_neg c_53, if_pos c_62, if_pos c_69, if_pos c_79, Bool.false_eq_true, Bool.true_eq_false, and_true, true_and, false_and, and_false, and_self, not_true_eq_false, not_false_eq_true, if_true, if_false, reduceIte, or_false, false_or, true_or, or_true]; done) | (subst_vars; first | with_reducible rfl | (simp only [fnd, Option.elim_none, Option.elim_some, if_pos c_7, if_neg c_36, if_neg c_53, if_pos c_62, if_pos c_69, if_pos c_79]; done) | (simp only [fnd, Option.elim_none, Option.elim_some, hM_, hcl_h, hE, c_7, if_neg c_36, if_neg c_53, if_pos c_62, if_pos c_69, if_pos c_79, Bool.false_eq_true, Bool.true_eq_false, and_true, true_and, false_and, and_false, and_self, not_true_eq_false, not_false_eq_true, if_true, if_false, reduceIte, or_false, false_or, true_or, or_true]; done)) | contradiction | rfl)
          exact L_42 M_ 0 aa _ _ ls (by omega) hF hP hS hl
    exact L_28 (N + 1) 0 p1 _ _ ls (by omega) rfl hP hS hl
  · skip
    refine lv_aload_n hx hb dX4_stop_10 rfl (lv_at hl 0 rfl) ?_
    refine lv_iconst (v := nI 0) hx hb dX4_stop_11 (by decide) ?_
    refine wq_V S cK_ok hK hP hS (c_X4_finding (t := 0) (by decide)) gX4_stop_X4_finding i_X4_finding rfl (c_rec hK hP 0 (by decide) cE_0 rfl) ⟨Nat.le_of_ble_eq_true rfl, Nat.le_of_ble_eq_true rfl⟩ rfl hl.1 (As := [.int (nI 0)]) (rest := []) (st1 := [.int ((-1000000001))]) rfl rfl (Nat.le_of_ble_eq_true rfl) ⟨Nat.le_of_ble_eq_true rfl, Nat.le_of_ble_eq_true rfl⟩ dX4_stop_12 (fun H locs hP hS => ?_)
    subst hQ
    exact cp_ri hx hb hr hlocks hP hS dX4_stop_15 (by first | with_reducible rfl | (simp only [fnd, Option.elim_none, Option.elim_some, if_neg c_7]; done) | (simp only [fnd, Option.elim_none, Option.elim_some, hM_, c_7, Bool.false_eq_true, Bool.true_eq_false, and_true, true_and, false_and, and_false, and_self, not_true_eq_false, not_false_eq_true, if_true, if_false, reduceIte, or_false, false_or, true_or, or_true]; done) | (subst_vars; first | with_reducible rfl | (simp only [fnd, Option.elim_none, Option.elim_some, if_neg c_7]; done) | (simp only [fnd, Option.elim_none, Option.elim_some, hM_, c_7, Bool.false_eq_true, Bool.true_eq_false, and_true, true_and, false_and, and_false, and_self, not_true_eq_false, not_false_eq_true, if_true, if_false, reduceIte, or_false, false_or, true_or, or_true]; done)) | contradiction | rfl) (by first | with_reducible rfl | (simp only [fnd, Option.elim_none, Option.elim_some, if_neg c_7]; done) | (simp only [fnd, Option.elim_none, Option.elim_some, hM_, c_7, Bool.false_eq_true, Bool.true_eq_false, and_true, true_and, false_and, and_false, and_self, not_true_eq_false, not_false_eq_true, if_true, if_false, reduceIte, or_false, false_or, true_or, or_true]; done) | (subst_vars; first | with_reducible rfl | (simp only [fnd, Option.elim_none, Option.elim_some, if_neg c_7]; done) | (simp only [fnd, Option.elim_none, Option.elim_some, hM_, c_7, Bool.false_eq_true, Bool.true_eq_false, and_true, true_and, false_and, and_false, and_self, not_true_eq_false, not_false_eq_true, if_true, if_false, reduceIte, or_false, false_or, true_or, or_true]; done)) | contradiction | rfl)
theorem i_X4_stop : ciOk yX4_stop cX4_stop 5 (some .int) wsX4_stop 1 := ⟨⟨_, rfl⟩, by decide +kernel⟩
