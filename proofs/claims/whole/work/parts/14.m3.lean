set_option maxHeartbeats 1000000 in
set_option maxRecDepth 100000 in
theorem c_X5_meet {l : Launch} {D : va_G} {cy : Nat → ClassId} {ad : Nat → Nat} {sr kS ot asd stt : Nat → Int32} {ik : Int32} {tp : Nat → Int32} {td fr tt vl wr : Int32} {bo so : Nat → Int32} {nu mv : Nat → Int64} {q : Int32} {o : Int32} {N : Nat} (hN : sr 0 = nI N) (h8 : N ≤ 8) : Met l yX5_meet wsX5_meet (rmz 6 134) (wPre D (mK D cy ad) (mw cy ad sr kS ot asd stt ik tp td fr tt vl wr bo so nu mv) [.ref (ad 0), .int (q), .int (o)]) (mPub D cy ad (some (.int (if twoP N q o then (if meetL N q.toNatClampNeg o.toNatClampNeg 201 0 sr ≤ 200 then nI (meetL N q.toNatClampNeg o.toNatClampNeg 201 0 sr) else -1000000004) else -1000000001))) sr kS (if twoP N q o then (if meetL N q.toNatClampNeg o.toNatClampNeg 201 0 sr ≤ 200 then stt else fnd stt 3) else fnd stt 0) ik tp td bo so nu) 0 0 (mA ad) := by
  refine wq_entry rfl rfl (Nat.le_of_ble_eq_true rfl) ?_
  intro p e s0 m args below meth c S hr hlocks hK hP ls hl
  have S : CallFix p m c cX5_meet 5 s0 args wsX5_meet RX5 := S
  obtain ⟨hx, hb, hml, hown, hts⟩ := id S
  have hin : ∀ w ∈ wsX50, w ∈ wsX5_meet := fun w h => List.mem_cons_of_mem _ (List.mem_append_right _ h)
  have hS : va_S (mA ad) s0.heap s0.heap [] := va_S.rf
  have hl : lv_has ls 5 [(0, .ref (ad 0)), (1, .int (q)), (2, .int (o))] := hl
  generalize hQ : MQ below (mPub D cy ad (some (.int (if twoP N q o then (if meetL N q.toNatClampNeg o.toNatClampNeg 201 0 sr ≤ 200 then nI (meetL N q.toNatClampNeg o.toNatClampNeg 201 0 sr) else -1000000004) else -1000000001))) sr kS (if twoP N q o then (if meetL N q.toNatClampNeg o.toNatClampNeg 201 0 sr ≤ 200 then stt else fnd stt 3) else fnd stt 0) ik tp td bo so nu) args s0 0 0 (mA ad) = Q
  refine lv_aload_n hx hb dX5_meet_0 rfl (lv_at hl 0 rfl) ?_
  refine lv_iload_n hx hb dX5_meet_1 rfl (lv_at hl 1 rfl) ?_
  refine lv_iload_n hx hb dX5_meet_2 rfl (lv_at hl 2 rfl) ?_
  refine wq_V S mK_ok hK hP hS (c_X5_areTwo hN h8) gX5_meet_X5_areTwo i_X5_areTwo rfl (m_rec hK hP) ⟨Nat.le_of_ble_eq_true rfl, Nat.le_of_ble_eq_true rfl⟩ rfl hl.1 (As := [.int (q), .int (o)]) (rest := []) (st1 := [.int (z (twoP N (q) (o)))]) rfl rfl (Nat.le_of_ble_eq_true rfl) ⟨Nat.le_of_ble_eq_true rfl, Nat.le_of_ble_eq_true rfl⟩ dX5_meet_3 (fun H locs hP hS => ?_)
  refine lvz_if_ne (tgt := 16) hx hb dX5_meet_6 (by decide) (fun c_6 => ?_) (fun c_6 => ?_)
  · skip
    have hcq : isN N q = true := (twoP_sp c_6).1
    have hco : isN N o = true := (twoP_sp c_6).2.1
    have hne : ¬ q = o := (twoP_sp c_6).2.2
    obtain ⟨i, h_i, rfl⟩ := isN_ix h8 hcq
    have hcl_i : (nI i).toNatClampNeg = i := nI_clamp (by omega)
    obtain ⟨k, h_k, rfl⟩ := isN_ix h8 hco
    have hcl_k : (nI k).toNatClampNeg = k := nI_clamp (by omega)
    refine lv_aload_n hx hb dX5_meet_16 rfl (lv_at hl 0 rfl) ?_
    refine wq_V S mK_ok hK hP hS (c_X5_laysAside) gX5_meet_X5_laysAside i_X5_laysAside rfl (m_rec hK hP) ⟨Nat.le_of_ble_eq_true rfl, Nat.le_of_ble_eq_true rfl⟩ rfl hl.1 (As := []) (rest := []) (st1 := []) rfl rfl (Nat.le_of_ble_eq_true rfl) ⟨Nat.le_of_ble_eq_true rfl, Nat.le_of_ble_eq_true rfl⟩ dX5_meet_17 (fun H locs hP hS => ?_)
    refine lv_iconst (v := nI 0) hx hb dX5_meet_20 (by decide) ?_
    refine lv_istore_n (lv' := [(3, .int (nI 0)), (0, .ref (ad 0)), (1, .int (nI i)), (2, .int (nI k))]) hx hb dX5_meet_21 rfl hl (by decide) rfl (fun ls hl => ?_)
    have L_22 : ∀ (n : Nat) (j : Nat) (ss : Nat → Int32) (H : Heap) (locs : List Loc) (ls : Array Slot), (j + n = 201) → (ss 0 = nI N) → (meetL N i k 201 0 sr = meetL N i k n j ss) → va_P D vwCl (mw cy ad ss kS ot sr stt ik tp td fr tt vl wr bo so nu mv) H → va_S (mA ad) s0.heap H locs → lv_has ls 5 [(3, .int (nI j)), (0, .ref (ad 0)), (1, .int (nI i)), (2, .int (nI k))] → W p l e (rmz 6 134) s0 m args below meth c H locs 0 0 Q (F0 m 22 ls []) := by
      intro n
      induction n with
      | zero =>
        intro j ss H locs ls hj hm hF hP hS hl
        refine lv_iload_n hx hb dX5_meet_22 rfl (lv_at hl 0 rfl) ?_
        refine lv_sipush (v := nI 200) hx hb dX5_meet_23 (by decide) ?_
        refine lvn_icmp_gt (tgt := 54) hx hb dX5_meet_26 (by decide) (by omega) (by omega) (fun c_26 => ?_) (fun c_26 => ?_)
        · skip
          have hE : meetL N i k 201 0 sr = j := by first | exact hF | exact hF.trans (if_pos c_41)
          refine lv_aload_n hx hb dX5_meet_54 rfl (lv_at hl 1 rfl) ?_
          refine lv_iload_n hx hb dX5_meet_55 rfl (lv_at hl 0 rfl) ?_
          refine wq_V S mK_ok hK hP hS (c_X5_takesBack) gX5_meet_X5_takesBack i_X5_takesBack rfl (m_rec hK hP) ⟨Nat.le_of_ble_eq_true rfl, Nat.le_of_ble_eq_true rfl⟩ rfl hl.1 (As := [.int (nI j)]) (rest := []) (st1 := [.int (nI j)]) rfl rfl (Nat.le_of_ble_eq_true rfl) ⟨Nat.le_of_ble_eq_true rfl, Nat.le_of_ble_eq_true rfl⟩ dX5_meet_56 (fun H locs hP hS => ?_)
          refine lv_istore (lv' := [(4, .int (nI j)), (3, .int (nI j)), (0, .ref (ad 0)), (1, .int (nI i)), (2, .int (nI k))]) hx hb dX5_meet_59 hl (by decide) rfl (fun ls hl => ?_)
          refine lv_iload hx hb dX5_meet_61 (lv_at hl 0 rfl) ?_
          refine lv_sipush (v := nI 200) hx hb dX5_meet_63 (by decide) ?_
          refine lvn_icmp_le (tgt := 78) hx hb dX5_meet_66 (by decide) (by omega) (by omega) (fun c_66 => ?_) (fun c_66 => ?_)
          · skip
            refine lv_iload hx hb dX5_meet_78 (lv_at hl 0 rfl) ?_
            subst hQ
            exact mp_ri hx hb hr hlocks hP hS dX5_meet_80 (by first | with_reducible rfl | (simp only [fnd, if_pos c_6, if_pos c_26, if_pos c_66]; done) | (simp only [fnd, hcl_i, hcl_k, hE, c_6, if_pos c_26, if_pos c_66, Bool.false_eq_true, Bool.true_eq_false, and_true, true_and, false_and, and_false, and_self, not_true_eq_false, not_false_eq_true, if_true, if_false, reduceIte, or_false, false_or, true_or, or_true]; done) | (subst_vars; first | with_reducible rfl | (simp only [fnd, if_pos c_6, if_pos c_26, if_pos c_66]; done) | (simp only [fnd, hcl_i, hcl_k, hE, c_6, if_pos c_26, if_pos c_66, Bool.false_eq_true, Bool.true_eq_false, and_true, true_and, false_and, and_false, and_self, not_true_eq_false, not_false_eq_true, if_true, if_false, reduceIte, or_false, false_or, true_or, or_true]; done)) | contradiction | rfl) (by first | with_reducible rfl | (simp only [fnd, if_pos c_6, if_pos c_26, if_pos c_66]; done) | (simp only [fnd, hcl_i, hcl_k, hE, c_6, if_pos c_26, if_pos c_66, Bool.false_eq_true, Bool.true_eq_false, and_true, true_and, false_and, and_false, and_self, not_true_eq_false, not_false_eq_true, if_true, if_false, reduceIte, or_false, false_or, true_or, or_true]; done) | (subst_vars; first | with_reducible rfl | (simp only [fnd, if_pos c_6, if_pos c_26, if_pos c_66]; done) | (simp only [fnd, hcl_i, hcl_k, hE, c_6, if_pos c_26, if_pos c_66, Bool.false_eq_true, Bool.true_eq_false, and_true, true_and, false_and, and_false, and_self, not_true_eq_false, not_false_eq_true, if_true, if_false, reduceIte, or_false, false_or, true_or, or_true]; done)) | contradiction | rfl)
          · skip
            refine lv_aload_n hx hb dX5_meet_69 rfl (lv_at hl 2 rfl) ?_
            refine lv_ldc (v := (-1000000004)) hx hb hown (hts (.constant RX5 144 ((-1000000004))) (by decide +kernel)) dX5_meet_70 ?_
            refine wq_V S mK_ok hK hP hS (c_X5_finds (t := 3) (by decide)) gX5_meet_X5_finds i_X5_finds rfl (m_rec hK hP) ⟨Nat.le_of_ble_eq_true rfl, Nat.le_of_ble_eq_true rfl⟩ rfl hl.1 (As := [.int ((-1000000004))]) (rest := []) (st1 := [.int ((-1000000004))]) rfl rfl (Nat.le_of_ble_eq_true rfl) ⟨Nat.le_of_ble_eq_true rfl, Nat.le_of_ble_eq_true rfl⟩ dX5_meet_72 (fun H locs hP hS => ?_)
            refine lv_goto (tgt := 80) hx hb dX5_meet_75 (by decide) ?_
            subst hQ
            exact mp_ri hx hb hr hlocks hP hS dX5_meet_80 (by first | with_reducible rfl | (simp only [fnd, if_pos c_6, if_pos c_26, if_neg c_66]; done) | (simp only [fnd, hcl_i, hcl_k, hE, c_6, if_pos c_26, if_neg c_66, Bool.false_eq_true, Bool.true_eq_false, and_true, true_and, false_and, and_false, and_self, not_true_eq_false, not_false_eq_true, if_true, if_false, reduceIte, or_false, false_or, true_or, or_true]; done) | (subst_vars; first | with_reducible rfl | (simp only [fnd, if_pos c_6, if_pos c_26, if_neg c_66]; done) | (simp only [fnd, hcl_i, hcl_k, hE, c_6, if_pos c_26, if_neg c_66, Bool.false_eq_true, Bool.true_eq_false, and_true, true_and, false_and, and_false, and_self, not_true_eq_false, not_false_eq_true, if_true, if_false, reduceIte, or_false, false_or, true_or, or_true]; done)) | contradiction | rfl) (by first | with_reducible rfl | (simp only [fnd, if_pos c_6, if_pos c_26, if_neg c_66]; done) | (simp only [fnd, hcl_i, hcl_k, hE, c_6, if_pos c_26, if_neg c_66, Bool.false_eq_true, Bool.true_eq_false, and_true, true_and, false_and, and_false, and_self, not_true_eq_false, not_false_eq_true, if_true, if_false, reduceIte, or_false, false_or, true_or, or_true]; done) | (subst_vars; first | with_reducible rfl | (simp only [fnd, if_pos c_6, if_pos c_26, if_neg c_66]; done) | (simp only [fnd, hcl_i, hcl_k, hE, c_6, if_pos c_26, if_neg c_66, Bool.false_eq_true, Bool.true_eq_false, and_true, true_and, false_and, and_false, and_self, not_true_eq_false, not_false_eq_true, if_true, if_false, reduceIte, or_false, false_or, true_or, or_true]; done)) | contradiction | rfl)
        · skip
          exfalso; omega
      | succ n ih_22 =>
        intro j ss H locs ls hj hm hF hP hS hl
        refine lv_iload_n hx hb dX5_meet_22 rfl (lv_at hl 0 rfl) ?_
        refine lv_sipush (v := nI 200) hx hb dX5_meet_23 (by decide) ?_
        refine lvn_icmp_gt (tgt := 54) hx hb dX5_meet_26 (by decide) (by omega) (by omega) (fun c_26 => ?_) (fun c_26 => ?_)
        · skip
          exfalso; omega
        · skip
          refine lv_aload_n hx hb dX5_meet_29 rfl (lv_at hl 1 rfl) ?_
          refine lv_iload_n hx hb dX5_meet_30 rfl (lv_at hl 2 rfl) ?_
          refine lv_iconst (v := nI 1) hx hb dX5_meet_31 (by decide) ?_
          refine wq_V S mK_ok hK hP hS (c_X5_its (by omega) (by omega)) gX5_meet_X5_its i_X5_its rfl (m_rec hK hP) ⟨Nat.le_of_ble_eq_true rfl, Nat.le_of_ble_eq_true rfl⟩ rfl hl.1 (As := [.int (nI i), .int (nI 1)]) (rest := []) (st1 := [.int (ss (5 + 8 * i + 1))]) rfl rfl (Nat.le_of_ble_eq_true rfl) ⟨Nat.le_of_ble_eq_true rfl, Nat.le_of_ble_eq_true rfl⟩ dX5_meet_32 (fun H locs hP hS => ?_)
          refine lv_aload_n hx hb dX5_meet_35 rfl (lv_at hl 1 rfl) ?_
          refine lv_iload_n hx hb dX5_meet_36 rfl (lv_at hl 3 rfl) ?_
          refine lv_iconst (v := nI 1) hx hb dX5_meet_37 (by decide) ?_
          refine wq_V S mK_ok hK hP hS (c_X5_its (by omega) (by omega)) gX5_meet_X5_its i_X5_its rfl (m_rec hK hP) ⟨Nat.le_of_ble_eq_true rfl, Nat.le_of_ble_eq_true rfl⟩ rfl hl.1 (As := [.int (nI k), .int (nI 1)]) (rest := [.int (ss (5 + 8 * i + 1))]) (st1 := [.int (ss (5 + 8 * k + 1)), .int (ss (5 + 8 * i + 1))]) rfl rfl (Nat.le_of_ble_eq_true rfl) ⟨Nat.le_of_ble_eq_true rfl, Nat.le_of_ble_eq_true rfl⟩ dX5_meet_38 (fun H locs hP hS => ?_)
          refine lv_icmp_eq (tgt := 54) hx hb dX5_meet_41 (by decide) (fun c_41 => ?_) (fun c_41 => ?_)
          · skip
            have hE : meetL N i k 201 0 sr = j := by first | exact hF | exact hF.trans (if_pos c_41)
            refine lv_aload_n hx hb dX5_meet_54 rfl (lv_at hl 1 rfl) ?_
            refine lv_iload_n hx hb dX5_meet_55 rfl (lv_at hl 0 rfl) ?_
            refine wq_V S mK_ok hK hP hS (c_X5_takesBack) gX5_meet_X5_takesBack i_X5_takesBack rfl (m_rec hK hP) ⟨Nat.le_of_ble_eq_true rfl, Nat.le_of_ble_eq_true rfl⟩ rfl hl.1 (As := [.int (nI j)]) (rest := []) (st1 := [.int (nI j)]) rfl rfl (Nat.le_of_ble_eq_true rfl) ⟨Nat.le_of_ble_eq_true rfl, Nat.le_of_ble_eq_true rfl⟩ dX5_meet_56 (fun H locs hP hS => ?_)
            refine lv_istore (lv' := [(4, .int (nI j)), (3, .int (nI j)), (0, .ref (ad 0)), (1, .int (nI i)), (2, .int (nI k))]) hx hb dX5_meet_59 hl (by decide) rfl (fun ls hl => ?_)
            refine lv_iload hx hb dX5_meet_61 (lv_at hl 0 rfl) ?_
            refine lv_sipush (v := nI 200) hx hb dX5_meet_63 (by decide) ?_
            refine lvn_icmp_le (tgt := 78) hx hb dX5_meet_66 (by decide) (by omega) (by omega) (fun c_66 => ?_) (fun c_66 => ?_)
            · skip
              refine lv_iload hx hb dX5_meet_78 (lv_at hl 0 rfl) ?_
              subst hQ
              exact mp_ri hx hb hr hlocks hP hS dX5_meet_80 (by first | with_reducible rfl | (simp only [fnd, if_pos c_6, if_neg c_26, if_pos c_41, if_pos c_66]; done) | (simp only [fnd, hcl_i, hcl_k, hE, c_6, if_neg c_26, if_pos c_41, if_pos c_66, Bool.false_eq_true, Bool.true_eq_false, and_true, true_and, false_and, and_false, and_self, not_true_eq_false, not_false_eq_true, if_true, if_false, reduceIte, or_false, false_or, true_or, or_true]; done) | (subst_vars; first | with_reducible rfl | (simp only [fnd, if_pos c_6, if_neg c_26, if_pos c_41, if_pos c_66]; done) | (simp only [fnd, hcl_i, hcl_k, hE, c_6, if_neg c_26, if_pos c_41, if_pos c_66, Bool.false_eq_true, Bool.true_eq_false, and_true, true_and, false_and, and_false, and_self, not_true_eq_false, not_false_eq_true, if_true, if_false, reduceIte, or_false, false_or, true_or, or_true]; done)) | contradiction | rfl) (by first | with_reducible rfl | (simp only [fnd, if_pos c_6, if_neg c_26, if_pos c_41, if_pos c_66]; done) | (simp only [fnd, hcl_i, hcl_k, hE, c_6, if_neg c_26, if_pos c_41, if_pos c_66, Bool.false_eq_true, Bool.true_eq_false, and_true, true_and, false_and, and_false, and_self, not_true_eq_false, not_false_eq_true, if_true, if_false, reduceIte, or_false, false_or, true_or, or_true]; done) | (subst_vars; first | with_reducible rfl | (simp only [fnd, if_pos c_6, if_neg c_26, if_pos c_41, if_pos c_66]; done) | (simp only [fnd, hcl_i, hcl_k, hE, c_6, if_neg c_26, if_pos c_41, if_pos c_66, Bool.false_eq_true, Bool.true_eq_false, and_true, true_and, false_and, and_false, and_self, not_true_eq_false, not_false_eq_true, if_true, if_false, reduceIte, or_false, false_or, true_or, or_true]; done)) | contradiction | rfl)
            · skip
              refine lv_aload_n hx hb dX5_meet_69 rfl (lv_at hl 2 rfl) ?_
              refine lv_ldc (v := (-1000000004)) hx hb hown (hts (.constant RX5 144 ((-1000000004))) (by decide +kernel)) dX5_meet_70 ?_
              refine wq_V S mK_ok hK hP hS (c_X5_finds (t := 3) (by decide)) gX5_meet_X5_finds i_X5_finds rfl (m_rec hK hP) ⟨Nat.le_of_ble_eq_true rfl, Nat.le_of_ble_eq_true rfl⟩ rfl hl.1 (As := [.int ((-1000000004))]) (rest := []) (st1 := [.int ((-1000000004))]) rfl rfl (Nat.le_of_ble_eq_true rfl) ⟨Nat.le_of_ble_eq_true rfl, Nat.le_of_ble_eq_true rfl⟩ dX5_meet_72 (fun H locs hP hS => ?_)
              refine lv_goto (tgt := 80) hx hb dX5_meet_75 (by decide) ?_
              subst hQ
              exact mp_ri hx hb hr hlocks hP hS dX5_meet_80 (by first | with_reducible rfl | (simp only [fnd, if_pos c_6, if_neg c_26, if_pos c_41, if_neg c_66]; done) | (simp only [fnd, hcl_i, hcl_k, hE, c_6, if_neg c_26, if_pos c_41, if_neg c_66, Bool.false_eq_true, Bool.true_eq_false, and_true, true_and, false_and, and_false, and_self, not_true_eq_false, not_false_eq_true, if_true, if_false, reduceIte, or_false, false_or, true_or, or_true]; done) | (subst_vars; first | with_reducible rfl | (simp only [fnd, if_pos c_6, if_neg c_26, if_pos c_41, if_neg c_66]; done) | (simp only [fnd, hcl_i, hcl_k, hE, c_6, if_neg c_26, if_pos c_41, if_neg c_66, Bool.false_eq_true, Bool.true_eq_false, and_true, true_and, false_and, and_false, and_self, not_true_eq_false, not_false_eq_true, if_true, if_false, reduceIte, or_false, false_or, true_or, or_true]; done)) | contradiction | rfl) (by first | with_reducible rfl | (simp only [fnd, if_pos c_6, if_neg c_26, if_pos c_41, if_neg c_66]; done) | (simp only [fnd, hcl_i, hcl_k, hE, c_6, if_neg c_26, if_pos c_41, if_neg c_66, Bool.false_eq_true, Bool.true_eq_false, and_true, true_and, false_and, and_false, and_self, not_true_eq_false, not_false_eq_true, if_true, if_false, reduceIte, or_false, false_or, true_or, or_true]; done) | (subst_vars; first | with_reducible rfl | (simp only [fnd, if_pos c_6, if_neg c_26, if_pos c_41, if_neg c_66]; done) | (simp only [fnd, hcl_i, hcl_k, hE, c_6, if_neg c_26, if_pos c_41, if_neg c_66, Bool.false_eq_true, Bool.true_eq_false, and_true, true_and, false_and, and_false, and_self, not_true_eq_false, not_false_eq_true, if_true, if_false, reduceIte, or_false, false_or, true_or, or_true]; done)) | contradiction | rfl)
          · skip
            refine lv_aload_n hx hb dX5_meet_44 rfl (lv_at hl 1 rfl) ?_
            refine wq_V S mK_ok hK hP hS (c_X5_hour hm h8) gX5_meet_X5_hour i_X5_hour rfl (m_rec hK hP) ⟨Nat.le_of_ble_eq_true rfl, Nat.le_of_ble_eq_true rfl⟩ rfl hl.1 (As := []) (rest := []) (st1 := []) rfl rfl (Nat.le_of_ble_eq_true rfl) ⟨Nat.le_of_ble_eq_true rfl, Nat.le_of_ble_eq_true rfl⟩ dX5_meet_45 (fun H locs hP hS => ?_)
            refine lv_iinc (v := nI (j + 1)) (lv' := [(3, .int (nI (j + 1))), (0, .ref (ad 0)), (1, .int (nI i)), (2, .int (nI k))]) hx hb dX5_meet_48 hl (k := 0) rfl (nI_add _ _) (by decide) rfl (fun ls hl => ?_)
            refine lv_goto (tgt := 22) hx hb dX5_meet_51 (by decide) ?_
            exact ih_22 (j + 1) _ _ _ ls (by omega) (hourF_0.trans hm) (hF.trans (if_neg c_41)) hP hS hl
    exact L_22 201 0 sr _ _ ls (by omega) hN rfl hP hS hl
  · skip
    refine lv_aload_n hx hb dX5_meet_9 rfl (lv_at hl 0 rfl) ?_
    refine lv_ldc (v := (-1000000001)) hx hb hown (hts (.constant RX5 41 ((-1000000001))) (by decide +kernel)) dX5_meet_10 ?_
    refine wq_V S mK_ok hK hP hS (c_X5_finds (t := 0) (by decide)) gX5_meet_X5_finds i_X5_finds rfl (m_rec hK hP) ⟨Nat.le_of_ble_eq_true rfl, Nat.le_of_ble_eq_true rfl⟩ rfl hl.1 (As := [.int ((-1000000001))]) (rest := []) (st1 := [.int ((-1000000001))]) rfl rfl (Nat.le_of_ble_eq_true rfl) ⟨Nat.le_of_ble_eq_true rfl, Nat.le_of_ble_eq_true rfl⟩ dX5_meet_12 (fun H locs hP hS => ?_)
    subst hQ
    exact mp_ri hx hb hr hlocks hP hS dX5_meet_15 (by first | with_reducible rfl | (simp only [fnd, if_neg c_6]; done) | (simp only [fnd, c_6, Bool.false_eq_true, Bool.true_eq_false, and_true, true_and, false_and, and_false, and_self, not_true_eq_false, not_false_eq_true, if_true, if_false, reduceIte, or_false, false_or, true_or, or_true]; done) | (subst_vars; first | with_reducible rfl | (simp only [fnd, if_neg c_6]; done) | (simp only [fnd, c_6, Bool.false_eq_true, Bool.true_eq_false, and_true, true_and, false_and, and_false, and_self, not_true_eq_false, not_false_eq_true, if_true, if_false, reduceIte, or_false, false_or, true_or, or_true]; done)) | contradiction | rfl) (by first | with_reducible rfl | (simp only [fnd, if_neg c_6]; done) | (simp only [fnd, c_6, Bool.false_eq_true, Bool.true_eq_false, and_true, true_and, false_and, and_false, and_self, not_true_eq_false, not_false_eq_true, if_true, if_false, reduceIte, or_false, false_or, true_or, or_true]; done) | (subst_vars; first | with_reducible rfl | (simp only [fnd, if_neg c_6]; done) | (simp only [fnd, c_6, Bool.false_eq_true, Bool.true_eq_false, and_true, true_and, false_and, and_false, and_self, not_true_eq_false, not_false_eq_true, if_true, if_false, reduceIte, or_false, false_or, true_or, or_true]; done)) | contradiction | rfl)
theorem i_X5_meet : ciOk yX5_meet cX5_meet 5 (some .int) wsX5_meet 2 := ⟨⟨_, rfl⟩, by decide +kernel⟩
set_option maxHeartbeats 1000000 in
set_option maxRecDepth 100000 in
theorem c_X5_penny {l : Launch} {D : va_G} {cy : Nat → ClassId} {ad : Nat → Nat} {sr kS ot asd stt : Nat → Int32} {ik : Int32} {tp : Nat → Int32} {td fr tt vl wr : Int32} {bo so : Nat → Int32} {nu mv : Nat → Int64} {q : Int32} {v : Int32} {N : Nat} (hN : sr 0 = nI N) (h8 : N ≤ 8) : Met l yX5_penny wsX5_penny (rmz 8 178) (wPre D (mK D cy ad) (mw cy ad sr kS ot asd stt ik tp td fr tt vl wr bo so nu mv) [.ref (ad 0), .int (q), .int (v)]) (mPub D cy ad (some (.int (if rg 1 100 q ∧ rg 0 999999 v then (if 0 ≤ pennyL N q.toNatClampNeg v sr 21 then pennyL N q.toNatClampNeg v sr 21 else -1000000004) else -1000000001))) sr kS (if rg 1 100 q ∧ rg 0 999999 v then (if 0 ≤ pennyL N q.toNatClampNeg v sr 21 then stt else fnd stt 3) else fnd stt 0) ik tp td bo so nu) 0 0 (mA ad) := by
  refine wq_entry rfl rfl (Nat.le_of_ble_eq_true rfl) ?_
  intro p e s0 m args below meth c S hr hlocks hK hP ls hl
  have S : CallFix p m c cX5_penny 6 s0 args wsX5_penny RX5 := S
  obtain ⟨hx, hb, hml, hown, hts⟩ := id S
  have hin : ∀ w ∈ wsX50, w ∈ wsX5_penny := fun w h => List.mem_cons_of_mem _ (List.mem_append_right _ h)
  have hS : va_S (mA ad) s0.heap s0.heap [] := va_S.rf
  have hl : lv_has ls 6 [(0, .ref (ad 0)), (1, .int (q)), (2, .int (v))] := hl
  generalize hQ : MQ below (mPub D cy ad (some (.int (if rg 1 100 q ∧ rg 0 999999 v then (if 0 ≤ pennyL N q.toNatClampNeg v sr 21 then pennyL N q.toNatClampNeg v sr 21 else -1000000004) else -1000000001))) sr kS (if rg 1 100 q ∧ rg 0 999999 v then (if 0 ≤ pennyL N q.toNatClampNeg v sr 21 then stt else fnd stt 3) else fnd stt 0) ik tp td bo so nu) args s0 0 0 (mA ad) = Q
  refine lv_iload_n hx hb dX5_penny_0 rfl (lv_at hl 1 rfl) ?_
  refine sq_S S (c_X5_isFar) gX5_penny_X5_isFar i_X5_isFar ⟨Nat.le_of_ble_eq_true rfl, Nat.le_of_ble_eq_true rfl⟩ rfl hl.1 (As := [.int (q)]) (rest := []) (st1 := [.int (z (rg 1 100 (q)))]) rfl rfl (Nat.le_of_ble_eq_true rfl) ⟨Nat.le_of_ble_eq_true rfl, Nat.le_of_ble_eq_true rfl⟩ dX5_penny_1 ?_
  refine lvz_if_eq (tgt := 19) hx hb dX5_penny_4 (by decide) (fun c_4 => ?_) (fun c_4 => ?_)
  · skip
    refine lv_aload_n hx hb dX5_penny_19 rfl (lv_at hl 0 rfl) ?_
    refine lv_ldc (v := (-1000000001)) hx hb hown (hts (.constant RX5 41 ((-1000000001))) (by decide +kernel)) dX5_penny_20 ?_
    refine wq_V S mK_ok hK hP hS (c_X5_finds (t := 0) (by decide)) gX5_penny_X5_finds i_X5_finds rfl (m_rec hK hP) ⟨Nat.le_of_ble_eq_true rfl, Nat.le_of_ble_eq_true rfl⟩ rfl hl.1 (As := [.int ((-1000000001))]) (rest := []) (st1 := [.int ((-1000000001))]) rfl rfl (Nat.le_of_ble_eq_true rfl) ⟨Nat.le_of_ble_eq_true rfl, Nat.le_of_ble_eq_true rfl⟩ dX5_penny_22 (fun H locs hP hS => ?_)
    subst hQ
    exact mp_ri hx hb hr hlocks hP hS dX5_penny_25 (by first | with_reducible rfl | (simp only [fnd, if_neg c_4]; done) | (simp only [fnd, c_4, Bool.false_eq_true, Bool.true_eq_false, and_true, true_and, false_and, and_false, and_self, not_true_eq_false, not_false_eq_true, if_true, if_false, reduceIte, or_false, false_or, true_or, or_true]; done) | (subst_vars; first | with_reducible rfl | (simp only [fnd, if_neg c_4]; done) | (simp only [fnd, c_4, Bool.false_eq_true, Bool.true_eq_false, and_true, true_and, false_and, and_false, and_self, not_true_eq_false, not_false_eq_true, if_true, if_false, reduceIte, or_false, false_or, true_or, or_true]; done)) | contradiction | rfl) (by first | with_reducible rfl | (simp only [fnd, if_neg c_4]; done) | (simp only [fnd, c_4, Bool.false_eq_true, Bool.true_eq_false, and_true, true_and, false_and, and_false, and_self, not_true_eq_false, not_false_eq_true, if_true, if_false, reduceIte, or_false, false_or, true_or, or_true]; done) | (subst_vars; first | with_reducible rfl | (simp only [fnd, if_neg c_4]; done) | (simp only [fnd, c_4, Bool.false_eq_true, Bool.true_eq_false, and_true, true_and, false_and, and_false, and_self, not_true_eq_false, not_false_eq_true, if_true, if_false, reduceIte, or_false, false_or, true_or, or_true]; done)) | contradiction | rfl)
  · skip
    refine lv_iload_n hx hb dX5_penny_7 rfl (lv_at hl 2 rfl) ?_
    refine lv_i2l (v := (v).toInt64) hx hb dX5_penny_8 rfl ?_
    refine lv_lconst (v := 0) hx hb dX5_penny_9 (by decide) ?_
    refine lv_ldc2 (v := 999999) hx hb hown (hts (.constantLong RX5 60 (999999)) (by decide +kernel)) dX5_penny_10 ?_
    refine sq_S S (c_X5_inY) gX5_penny_X5_in i_X5_in ⟨Nat.le_of_ble_eq_true rfl, Nat.le_of_ble_eq_true rfl⟩ rfl hl.1 (As := [.long ((v).toInt64), .long (0), .long (999999)]) (rest := []) (st1 := [.int (z (rg 0 999999 (v)))]) rfl rfl (Nat.le_of_ble_eq_true rfl) ⟨Nat.le_of_ble_eq_true rfl, Nat.le_of_ble_eq_true rfl⟩ dX5_penny_13 ?_
    refine lvz_if_ne (tgt := 26) hx hb dX5_penny_16 (by decide) (fun c_16 => ?_) (fun c_16 => ?_)
    · skip
      obtain ⟨i, h_i, h_i2, rfl⟩ := rg_ix (a := 1) (b := 100) (by decide) c_4
      have hcl_i : (nI i).toNatClampNeg = i := nI_clamp (by omega)
      refine lv_aload_n hx hb dX5_penny_26 rfl (lv_at hl 0 rfl) ?_
      refine m_get hx hb hts hin hown hK hP 0 (by decide) (hts (.fieldLink RX5 7 "PennyRoadModel" "s" "[I") (by decide +kernel)) rfl dX5_penny_27 ?_
      refine lv_iconst (v := nI 3) hx hb dX5_penny_30 (by decide) ?_
      refine m_ald hx hb hK hP 1 rfl (by decide) (by omega) dX5_penny_31 ?_
      refine lv_istore_n (lv' := [(3, .int (sr 3)), (0, .ref (ad 0)), (1, .int (nI i)), (2, .int (v))]) hx hb dX5_penny_32 rfl hl (by decide) rfl (fun ls hl => ?_)
      refine lv_iconst (v := (-1)) hx hb dX5_penny_33 (by decide) ?_
      refine lv_istore (lv' := [(4, .int ((-1))), (3, .int (sr 3)), (0, .ref (ad 0)), (1, .int (nI i)), (2, .int (v))]) hx hb dX5_penny_34 hl (by decide) rfl (fun ls hl => ?_)
      refine lv_bipush (v := nI 20) hx hb dX5_penny_36 (by decide) ?_
      refine lv_istore (lv' := [(5, .int (nI 20)), (4, .int ((-1))), (3, .int (sr 3)), (0, .ref (ad 0)), (1, .int (nI i)), (2, .int (v))]) hx hb dX5_penny_38 hl (by decide) rfl (fun ls hl => ?_)
      have L_40 : ∀ (n : Nat) (f : Int32) (x : Int32) (aa : Nat → Int32) (H : Heap) (locs : List Loc) (ls : Array Slot), (n ≤ 21) → (f < 0 → -1 = f) → (pennyL N i v sr 21 = if f < 0 then pennyL N i v sr n else f) → va_P D vwCl (mw cy ad (upd sr 3 x) kS ot aa stt ik tp td fr tt vl wr bo so nu mv) H → va_S (mA ad) s0.heap H locs → lv_has ls 6 [(5, .int (pm n)), (4, .int (f)), (3, .int (sr 3)), (0, .ref (ad 0)), (1, .int (nI i)), (2, .int (v))] → W p l e (rmz 8 178) s0 m args below meth c H locs 0 0 Q (F0 m 40 ls []) := by
        intro n
        induction n with
        | zero =>
          intro f x aa H locs ls hn hf hF hP hS hl
          have hl : lv_has ls 6 [(5, .int ((-1))), (4, .int (f)), (3, .int (sr 3)), (0, .ref (ad 0)), (1, .int (nI i)), (2, .int (v))] := hl
          refine lv_iload hx hb dX5_penny_40 (lv_at hl 0 rfl) ?_
          refine lv_if_lt (tgt := 82) hx hb dX5_penny_42 (by decide) (fun c_42 => ?_) (fun c_42 => ?_)
          · skip
            have hE : pennyL N i v sr 21 = f := by
              first
              | exact hF.trans (if_neg (fun h => absurd c_47 (Int32.not_le.mpr h)))
              | (rw [hF]; by_cases c : f < 0
                 · rw [if_pos c]; exact hf c
                 · rw [if_neg c])
            refine lv_aload_n hx hb dX5_penny_82 rfl (lv_at hl 3 rfl) ?_
            refine m_get hx hb hts hin hown hK hP 0 (by decide) (hts (.fieldLink RX5 7 "PennyRoadModel" "s" "[I") (by decide +kernel)) rfl dX5_penny_83 ?_
            refine lv_iconst (v := nI 3) hx hb dX5_penny_86 (by decide) ?_
            refine lv_iload_n hx hb dX5_penny_87 rfl (lv_at hl 2 rfl) ?_
            refine m_ast (w' := (mw cy ad (upd (upd sr 3 x) 3 (sr 3)) kS ot aa stt ik tp td fr tt vl wr bo so nu mv)) hx hb hK hP hS 1 rfl (by decide) (by omega) rfl dX5_penny_88 (fun H locs hP hS => ?_)
            rw [upd_back] at hP
            refine lv_iload hx hb dX5_penny_89 (lv_at hl 1 rfl) ?_
            refine lv_if_ge (tgt := 103) hx hb dX5_penny_91 (by decide) (fun c_91 => ?_) (fun c_91 => ?_)
            · skip
              refine lv_iload hx hb dX5_penny_103 (lv_at hl 1 rfl) ?_
              subst hQ
              exact mp_ri hx hb hr hlocks hP hS dX5_penny_105 (by first | with_reducible rfl | (simp only [fnd, if_pos c_4, if_pos c_16, if_pos c_42, if_pos c_91]; done) | (simp only [fnd, hcl_i, hE, c_4, c_16, if_pos c_42, if_pos c_91, Bool.false_eq_true, Bool.true_eq_false, and_true, true_and, false_and, and_false, and_self, not_true_eq_false, not_false_eq_true, if_true, if_false, reduceIte, or_false, false_or, true_or, or_true]; done) | (subst_vars; first | with_reducible rfl | (simp only [fnd, if_pos c_4, if_pos c_16, if_pos c_42, if_pos c_91]; done) | (simp only [fnd, hcl_i, hE, c_4, c_16, if_pos c_42, if_pos c_91, Bool.false_eq_true, Bool.true_eq_false, and_true, true_and, false_and, and_false, and_self, not_true_eq_false, not_false_eq_true, if_true, if_false, reduceIte, or_false, false_or, true_or, or_true]; done)) | contradiction | rfl) (by first | with_reducible rfl | (simp only [fnd, if_pos c_4, if_pos c_16, if_pos c_42, if_pos c_91]; done) | (simp only [fnd, hcl_i, hE, c_4, c_16, if_pos c_42, if_pos c_91, Bool.false_eq_true, Bool.true_eq_false, and_true, true_and, false_and, and_false, and_self, not_true_eq_false, not_false_eq_true, if_true, if_false, reduceIte, or_false, false_or, true_or, or_true]; done) | (subst_vars; first | with_reducible rfl | (simp only [fnd, if_pos c_4, if_pos c_16, if_pos c_42, if_pos c_91]; done) | (simp only [fnd, hcl_i, hE, c_4, c_16, if_pos c_42, if_pos c_91, Bool.false_eq_true, Bool.true_eq_false, and_true, true_and, false_and, and_false, and_self, not_true_eq_false, not_false_eq_true, if_true, if_false, reduceIte, or_false, false_or, true_or, or_true]; done)) | contradiction | rfl)
            · skip
              refine lv_aload_n hx hb dX5_penny_94 rfl (lv_at hl 3 rfl) ?_
              refine lv_ldc (v := (-1000000004)) hx hb hown (hts (.constant RX5 144 ((-1000000004))) (by decide +kernel)) dX5_penny_95 ?_
              refine wq_V S mK_ok hK hP hS (c_X5_finds (t := 3) (by decide)) gX5_penny_X5_finds i_X5_finds rfl (m_rec hK hP) ⟨Nat.le_of_ble_eq_true rfl, Nat.le_of_ble_eq_true rfl⟩ rfl hl.1 (As := [.int ((-1000000004))]) (rest := []) (st1 := [.int ((-1000000004))]) rfl rfl (Nat.le_of_ble_eq_true rfl) ⟨Nat.le_of_ble_eq_true rfl, Nat.le_of_ble_eq_true rfl⟩ dX5_penny_97 (fun H locs hP hS => ?_)
              refine lv_goto (tgt := 105) hx hb dX5_penny_100 (by decide) ?_
              subst hQ
              exact mp_ri hx hb hr hlocks hP hS dX5_penny_105 (by first | with_reducible rfl | (simp only [fnd, if_pos c_4, if_pos c_16, if_pos c_42, if_neg c_91]; done) | (simp only [fnd, hcl_i, hE, c_4, c_16, if_pos c_42, if_neg c_91, Bool.false_eq_true, Bool.true_eq_false, and_true, true_and, false_and, and_false, and_self, not_true_eq_false, not_false_eq_true, if_true, if_false, reduceIte, or_false, false_or, true_or, or_true]; done) | (subst_vars; first | with_reducible rfl | (simp only [fnd, if_pos c_4, if_pos c_16, if_pos c_42, if_neg c_91]; done) | (simp only [fnd, hcl_i, hE, c_4, c_16, if_pos c_42, if_neg c_91, Bool.false_eq_true, Bool.true_eq_false, and_true, true_and, false_and, and_false, and_self, not_true_eq_false, not_false_eq_true, if_true, if_false, reduceIte, or_false, false_or, true_or, or_true]; done)) | contradiction | rfl) (by first | with_reducible rfl | (simp only [fnd, if_pos c_4, if_pos c_16, if_pos c_42, if_neg c_91]; done) | (simp only [fnd, hcl_i, hE, c_4, c_16, if_pos c_42, if_neg c_91, Bool.false_eq_true, Bool.true_eq_false, and_true, true_and, false_and, and_false, and_self, not_true_eq_false, not_false_eq_true, if_true, if_false, reduceIte, or_false, false_or, true_or, or_true]; done) | (subst_vars; first | with_reducible rfl | (simp only [fnd, if_pos c_4, if_pos c_16, if_pos c_42, if_neg c_91]; done) | (simp only [fnd, hcl_i, hE, c_4, c_16, if_pos c_42, if_neg c_91, Bool.false_eq_true, Bool.true_eq_false, and_true, true_and, false_and, and_false, and_self, not_true_eq_false, not_false_eq_true, if_true, if_false, reduceIte, or_false, false_or, true_or, or_true]; done)) | contradiction | rfl)
          · skip
            exact absurd (by decide) c_42
        | succ n ih_40 =>
          intro f x aa H locs ls hn hf hF hP hS hl
          have hl : lv_has ls 6 [(5, .int (nI n)), (4, .int (f)), (3, .int (sr 3)), (0, .ref (ad 0)), (1, .int (nI i)), (2, .int (v))] := hl
          refine lv_iload hx hb dX5_penny_40 (lv_at hl 0 rfl) ?_
          refine lv_if_lt (tgt := 82) hx hb dX5_penny_42 (by decide) (fun c_42 => ?_) (fun c_42 => ?_)
          · skip
            exact absurd c_42 (nI_pos (by omega))
          · skip
            refine lv_iload hx hb dX5_penny_45 (lv_at hl 1 rfl) ?_
            refine lv_if_ge (tgt := 82) hx hb dX5_penny_47 (by decide) (fun c_47 => ?_) (fun c_47 => ?_)
            · skip
              have hE : pennyL N i v sr 21 = f := by
                first
                | exact hF.trans (if_neg (fun h => absurd c_47 (Int32.not_le.mpr h)))
                | (rw [hF]; by_cases c : f < 0
                   · rw [if_pos c]; exact hf c
                   · rw [if_neg c])
              refine lv_aload_n hx hb dX5_penny_82 rfl (lv_at hl 3 rfl) ?_
              refine m_get hx hb hts hin hown hK hP 0 (by decide) (hts (.fieldLink RX5 7 "PennyRoadModel" "s" "[I") (by decide +kernel)) rfl dX5_penny_83 ?_
              refine lv_iconst (v := nI 3) hx hb dX5_penny_86 (by decide) ?_
              refine lv_iload_n hx hb dX5_penny_87 rfl (lv_at hl 2 rfl) ?_
              refine m_ast (w' := (mw cy ad (upd (upd sr 3 x) 3 (sr 3)) kS ot aa stt ik tp td fr tt vl wr bo so nu mv)) hx hb hK hP hS 1 rfl (by decide) (by omega) rfl dX5_penny_88 (fun H locs hP hS => ?_)
              rw [upd_back] at hP
              refine lv_iload hx hb dX5_penny_89 (lv_at hl 1 rfl) ?_
              refine lv_if_ge (tgt := 103) hx hb dX5_penny_91 (by decide) (fun c_91 => ?_) (fun c_91 => ?_)
              · skip
                refine lv_iload hx hb dX5_penny_103 (lv_at hl 1 rfl) ?_
                subst hQ
                exact mp_ri hx hb hr hlocks hP hS dX5_penny_105 (by first | with_reducible rfl | (simp only [fnd, if_pos c_4, if_pos c_16, if_neg c_42, if_pos c_47, if_pos c_91]; done) | (simp only [fnd, hcl_i, hE, c_4, c_16, if_neg c_42, if_pos c_47, if_pos c_91, Bool.false_eq_true, Bool.true_eq_false, and_true, true_and, false_and, and_false, and_self, not_true_eq_false, not_false_eq_true, if_true, if_false, reduceIte, or_false, false_or, true_or, or_true]; done) | (subst_vars; first | with_reducible rfl | (simp only [fnd, if_pos c_4, if_pos c_16, if_neg c_42, if_pos c_47, if_pos c_91]; done) | (simp only [fnd, hcl_i, hE, c_4, c_16, if_neg c_42, if_pos c_47, if_pos c_91, Bool.false_eq_true, Bool.true_eq_false, and_true, true_and, false_and, and_false, and_self, not_true_eq_false, not_false_eq_true, if_true, if_false, reduceIte, or_false, false_or, true_or, or_true]; done)) | contradiction | rfl) (by first | with_reducible rfl | (simp only [fnd, if_pos c_4, if_pos c_16, if_neg c_42, if_pos c_47, if_pos c_91]; done) | (simp only [fnd, hcl_i, hE, c_4, c_16, if_neg c_42, if_pos c_47, if_pos c_91, Bool.false_eq_true, Bool.true_eq_false, and_true, true_and, false_and, and_false, and_self, not_true_eq_false, not_false_eq_true, if_true, if_false, reduceIte, or_false, false_or, true_or, or_true]; done) | (subst_vars; first | with_reducible rfl | (simp only [fnd, if_pos c_4, if_pos c_16, if_neg c_42, if_pos c_47, if_pos c_91]; done) | (simp only [fnd, hcl_i, hE, c_4, c_16, if_neg c_42, if_pos c_47, if_pos c_91, Bool.false_eq_true, Bool.true_eq_false, and_true, true_and, false_and, and_false, and_self, not_true_eq_false, not_false_eq_true, if_true, if_false, reduceIte, or_false, false_or, true_or, or_true]; done)) | contradiction | rfl)
              · skip
                refine lv_aload_n hx hb dX5_penny_94 rfl (lv_at hl 3 rfl) ?_
                refine lv_ldc (v := (-1000000004)) hx hb hown (hts (.constant RX5 144 ((-1000000004))) (by decide +kernel)) dX5_penny_95 ?_
                refine wq_V S mK_ok hK hP hS (c_X5_finds (t := 3) (by decide)) gX5_penny_X5_finds i_X5_finds rfl (m_rec hK hP) ⟨Nat.le_of_ble_eq_true rfl, Nat.le_of_ble_eq_true rfl⟩ rfl hl.1 (As := [.int ((-1000000004))]) (rest := []) (st1 := [.int ((-1000000004))]) rfl rfl (Nat.le_of_ble_eq_true rfl) ⟨Nat.le_of_ble_eq_true rfl, Nat.le_of_ble_eq_true rfl⟩ dX5_penny_97 (fun H locs hP hS => ?_)
                refine lv_goto (tgt := 105) hx hb dX5_penny_100 (by decide) ?_
                subst hQ
                exact mp_ri hx hb hr hlocks hP hS dX5_penny_105 (by first | with_reducible rfl | (simp only [fnd, if_pos c_4, if_pos c_16, if_neg c_42, if_pos c_47, if_neg c_91]; done) | (simp only [fnd, hcl_i, hE, c_4, c_16, if_neg c_42, if_pos c_47, if_neg c_91, Bool.false_eq_true, Bool.true_eq_false, and_true, true_and, false_and, and_false, and_self, not_true_eq_false, not_false_eq_true, if_true, if_false, reduceIte, or_false, false_or, true_or, or_true]; done) | (subst_vars; first | with_reducible rfl | (simp only [fnd, if_pos c_4, if_pos c_16, if_neg c_42, if_pos c_47, if_neg c_91]; done) | (simp only [fnd, hcl_i, hE, c_4, c_16, if_neg c_42, if_pos c_47, if_neg c_91, Bool.false_eq_true, Bool.true_eq_false, and_true, true_and, false_and, and_false, and_self, not_true_eq_false, not_false_eq_true, if_true, if_false, reduceIte, or_false, false_or, true_or, or_true]; done)) | contradiction | rfl) (by first | with_reducible rfl | (simp only [fnd, if_pos c_4, if_pos c_16, if_neg c_42, if_pos c_47, if_neg c_91]; done) | (simp only [fnd, hcl_i, hE, c_4, c_16, if_neg c_42, if_pos c_47, if_neg c_91, Bool.false_eq_true, Bool.true_eq_false, and_true, true_and, false_and, and_false, and_self, not_true_eq_false, not_false_eq_true, if_true, if_false, reduceIte, or_false, false_or, true_or, or_true]; done) | (subst_vars; first | with_reducible rfl | (simp only [fnd, if_pos c_4, if_pos c_16, if_neg c_42, if_pos c_47, if_neg c_91]; done) | (simp only [fnd, hcl_i, hE, c_4, c_16, if_neg c_42, if_pos c_47, if_neg c_91, Bool.false_eq_true, Bool.true_eq_false, and_true, true_and, false_and, and_false, and_self, not_true_eq_false, not_false_eq_true, if_true, if_false, reduceIte, or_false, false_or, true_or, or_true]; done)) | contradiction | rfl)
            · skip
              refine lv_aload_n hx hb dX5_penny_50 rfl (lv_at hl 3 rfl) ?_
              refine m_get hx hb hts hin hown hK hP 0 (by decide) (hts (.fieldLink RX5 7 "PennyRoadModel" "s" "[I") (by decide +kernel)) rfl dX5_penny_51 ?_
              refine lv_iconst (v := nI 3) hx hb dX5_penny_54 (by decide) ?_
              refine lv_iload hx hb dX5_penny_55 (lv_at hl 0 rfl) ?_
              refine m_ast (w' := (mw cy ad (upd (upd sr 3 x) 3 (nI n)) kS ot aa stt ik tp td fr tt vl wr bo so nu mv)) hx hb hK hP hS 1 rfl (by decide) (by omega) rfl dX5_penny_57 (fun H locs hP hS => ?_)
              rw [upd_upd] at hP
              refine lv_aload_n hx hb dX5_penny_58 rfl (lv_at hl 3 rfl) ?_
              refine lv_iconst (v := nI 2) hx hb dX5_penny_59 (by decide) ?_
              refine lv_iload_n hx hb dX5_penny_60 rfl (lv_at hl 4 rfl) ?_
              refine wq_V S mK_ok hK hP hS (c_X5_behind ((upd_0 (by omega)).trans hN) h8 (by omega) (by omega)) gX5_penny_X5_behind i_X5_behind rfl (m_rec hK hP) ⟨Nat.le_of_ble_eq_true rfl, Nat.le_of_ble_eq_true rfl⟩ rfl hl.1 (As := [.int (nI 2), .int (nI i)]) (rest := []) (st1 := [.int ((hrsF N i (upd sr 3 (nI n))) 2)]) rfl rfl (Nat.le_of_ble_eq_true rfl) ⟨Nat.le_of_ble_eq_true rfl, Nat.le_of_ble_eq_true rfl⟩ dX5_penny_61 (fun H locs hP hS => ?_)
              refine lv_iload_n hx hb dX5_penny_64 rfl (lv_at hl 5 rfl) ?_
              have K_1 : ∀ (x_2 : Int32) (H : Heap) (locs : List Loc) (ls : Array Slot), x_2 = (if ((hrsF N i (upd sr 3 (nI n))) 2) < (v) then ((-1)) else (nI n)) → va_P D vwCl (mw cy ad (upd sr 3 (nI n)) kS ot (upd sr 3 (nI n)) stt ik tp td fr tt vl wr bo so nu mv) H → va_S (mA ad) s0.heap H locs → lv_has ls 6 [(5, .int (nI n)), (4, .int (f)), (3, .int (sr 3)), (0, .ref (ad 0)), (1, .int (nI i)), (2, .int (v))] → W p l e (rmz 8 178) s0 m args below meth c H locs 0 0 Q (F0 m 74 ls [.int (x_2)]) := by
                intro x_2 H locs ls ex_2 hP hS hl
                refine lv_istore (lv' := [(4, .int (x_2)), (5, .int (nI n)), (3, .int (sr 3)), (0, .ref (ad 0)), (1, .int (nI i)), (2, .int (v))]) hx hb dX5_penny_74 hl (by decide) rfl (fun ls hl => ?_)
                refine lv_iinc (v := pm n) (lv' := [(5, .int (pm n)), (4, .int (x_2)), (3, .int (sr 3)), (0, .ref (ad 0)), (1, .int (nI i)), (2, .int (v))]) hx hb dX5_penny_76 hl (k := 1) rfl (pm_dec n) (by decide) rfl (fun ls hl => ?_)
                refine lv_goto (tgt := 40) hx hb dX5_penny_79 (by decide) ?_
                exact ih_40 _ _ _ _ _ ls (by omega) (fnd_neg (C := hrsF N i (upd sr 3 (nI n)) 2 < v) (n := n) (by omega) ex_2) (fnd_step (C := hrsF N i (upd sr 3 (nI n)) 2 < v) (n := n) (by omega) (hF.trans (if_pos (Int32.not_le.mp c_47))) ex_2) hP hS hl
              refine lv_icmp_lt (tgt := 73) hx hb dX5_penny_65 (by decide) (fun c_65 => ?_) (fun c_65 => ?_)
              · skip
                refine lv_iconst (v := (-1)) hx hb dX5_penny_73 (by decide) ?_
                exact K_1 ((-1)) _ _ ls (by simp only [if_pos c_65]) hP hS hl
              · skip
                refine lv_iload hx hb dX5_penny_68 (lv_at hl 0 rfl) ?_
                refine lv_goto (tgt := 74) hx hb dX5_penny_70 (by decide) ?_
                exact K_1 (nI n) _ _ ls (by simp only [if_neg c_65]) hP hS hl
      exact L_40 21 (-1) (sr 3) asd _ _ ls (by omega) (fun _ => rfl) (if_pos (by decide)).symm (by rw [upd_id]; exact hP) hS hl
    · skip
      refine lv_aload_n hx hb dX5_penny_19 rfl (lv_at hl 0 rfl) ?_
      refine lv_ldc (v := (-1000000001)) hx hb hown (hts (.constant RX5 41 ((-1000000001))) (by decide +kernel)) dX5_penny_20 ?_
      refine wq_V S mK_ok hK hP hS (c_X5_finds (t := 0) (by decide)) gX5_penny_X5_finds i_X5_finds rfl (m_rec hK hP) ⟨Nat.le_of_ble_eq_true rfl, Nat.le_of_ble_eq_true rfl⟩ rfl hl.1 (As := [.int ((-1000000001))]) (rest := []) (st1 := [.int ((-1000000001))]) rfl rfl (Nat.le_of_ble_eq_true rfl) ⟨Nat.le_of_ble_eq_true rfl, Nat.le_of_ble_eq_true rfl⟩ dX5_penny_22 (fun H locs hP hS => ?_)
      subst hQ
      exact mp_ri hx hb hr hlocks hP hS dX5_penny_25 (by first | with_reducible rfl | (simp only [fnd, if_pos c_4, if_neg c_16]; done) | (simp only [fnd, c_4, c_16, Bool.false_eq_true, Bool.true_eq_false, and_true, true_and, false_and, and_false, and_self, not_true_eq_false, not_false_eq_true, if_true, if_false, reduceIte, or_false, false_or, true_or, or_true]; done) | (subst_vars; first | with_reducible rfl | (simp only [fnd, if_pos c_4, if_neg c_16]; done) | (simp only [fnd, c_4, c_16, Bool.false_eq_true, Bool.true_eq_false, and_true, true_and, false_and, and_false, and_self, not_true_eq_false, not_false_eq_true, if_true, if_false, reduceIte, or_false, false_or, true_or, or_true]; done)) | contradiction | rfl) (by first | with_reducible rfl | (simp only [fnd, if_pos c_4, if_neg c_16]; done) | (simp only [fnd, c_4, c_16, Bool.false_eq_true, Bool.true_eq_false, and_true, true_and, false_and, and_false, and_self, not_true_eq_false, not_false_eq_true, if_true, if_false, reduceIte, or_false, false_or, true_or, or_true]; done) | (subst_vars; first | with_reducible rfl | (simp only [fnd, if_pos c_4, if_neg c_16]; done) | (simp only [fnd, c_4, c_16, Bool.false_eq_true, Bool.true_eq_false, and_true, true_and, false_and, and_false, and_self, not_true_eq_false, not_false_eq_true, if_true, if_false, reduceIte, or_false, false_or, true_or, or_true]; done)) | contradiction | rfl)
theorem i_X5_penny : ciOk yX5_penny cX5_penny 6 (some .int) wsX5_penny 2 := ⟨⟨_, rfl⟩, by decide +kernel⟩
set_option maxHeartbeats 1000000 in
set_option maxRecDepth 100000 in
theorem c_X5_reason {l : Launch} {D : va_G} {cy : Nat → ClassId} {ad : Nat → Nat} {sr kS ot asd stt : Nat → Int32} {ik : Int32} {tp : Nat → Int32} {td fr tt vl wr : Int32} {bo so : Nat → Int32} {nu mv : Nat → Int64} {q : Int32} {n : Int32} {v : Int32} {N : Nat} (hN : sr 0 = nI N) (h8 : N ≤ 8) : Met l yX5_reason wsX5_reason (rmz 8 178) (wPre D (mK D cy ad) (mw cy ad sr kS ot asd stt ik tp td fr tt vl wr bo so nu mv) [.ref (ad 0), .int (q), .int (n), .int (v)]) (mPub D cy ad (some (.int (if isN N q ∧ rg 1 100 n ∧ rg 0 999999 v then (if 0 ≤ reasonL N q.toNatClampNeg n.toNatClampNeg v sr 10 0 then reasonL N q.toNatClampNeg n.toNatClampNeg v sr 10 0 else -1000000004) else -1000000001))) sr kS (if isN N q ∧ rg 1 100 n ∧ rg 0 999999 v then (if 0 ≤ reasonL N q.toNatClampNeg n.toNatClampNeg v sr 10 0 then stt else fnd stt 3) else fnd stt 0) ik tp td bo so nu) 0 0 (mA ad) := by
  refine wq_entry rfl rfl (Nat.le_of_ble_eq_true rfl) ?_
  intro p e s0 m args below meth c S hr hlocks hK hP ls hl
  have S : CallFix p m c cX5_reason 7 s0 args wsX5_reason RX5 := S
  obtain ⟨hx, hb, hml, hown, hts⟩ := id S
  have hin : ∀ w ∈ wsX50, w ∈ wsX5_reason := fun w h => List.mem_cons_of_mem _ (List.mem_append_right _ h)
  have hS : va_S (mA ad) s0.heap s0.heap [] := va_S.rf
  have hl : lv_has ls 7 [(0, .ref (ad 0)), (1, .int (q)), (2, .int (n)), (3, .int (v))] := hl
  generalize hQ : MQ below (mPub D cy ad (some (.int (if isN N q ∧ rg 1 100 n ∧ rg 0 999999 v then (if 0 ≤ reasonL N q.toNatClampNeg n.toNatClampNeg v sr 10 0 then reasonL N q.toNatClampNeg n.toNatClampNeg v sr 10 0 else -1000000004) else -1000000001))) sr kS (if isN N q ∧ rg 1 100 n ∧ rg 0 999999 v then (if 0 ≤ reasonL N q.toNatClampNeg n.toNatClampNeg v sr 10 0 then stt else fnd stt 3) else fnd stt 0) ik tp td bo so nu) args s0 0 0 (mA ad) = Q
  refine lv_aload_n hx hb dX5_reason_0 rfl (lv_at hl 0 rfl) ?_
  refine lv_iload_n hx hb dX5_reason_1 rfl (lv_at hl 1 rfl) ?_
  refine wq_V S mK_ok hK hP hS (c_X5_isWalker hN h8) gX5_reason_X5_isWalker i_X5_isWalker rfl (m_rec hK hP) ⟨Nat.le_of_ble_eq_true rfl, Nat.le_of_ble_eq_true rfl⟩ rfl hl.1 (As := [.int (q)]) (rest := []) (st1 := [.int (z (isN N (q)))]) rfl rfl (Nat.le_of_ble_eq_true rfl) ⟨Nat.le_of_ble_eq_true rfl, Nat.le_of_ble_eq_true rfl⟩ dX5_reason_2 (fun H locs hP hS => ?_)
  refine lvz_if_eq (tgt := 27) hx hb dX5_reason_5 (by decide) (fun c_5 => ?_) (fun c_5 => ?_)
  · skip
    refine lv_aload_n hx hb dX5_reason_27 rfl (lv_at hl 0 rfl) ?_
    refine lv_ldc (v := (-1000000001)) hx hb hown (hts (.constant RX5 41 ((-1000000001))) (by decide +kernel)) dX5_reason_28 ?_
    refine wq_V S mK_ok hK hP hS (c_X5_finds (t := 0) (by decide)) gX5_reason_X5_finds i_X5_finds rfl (m_rec hK hP) ⟨Nat.le_of_ble_eq_true rfl, Nat.le_of_ble_eq_true rfl⟩ rfl hl.1 (As := [.int ((-1000000001))]) (rest := []) (st1 := [.int ((-1000000001))]) rfl rfl (Nat.le_of_ble_eq_true rfl) ⟨Nat.le_of_ble_eq_true rfl, Nat.le_of_ble_eq_true rfl⟩ dX5_reason_30 (fun H locs hP hS => ?_)
    subst hQ
    exact mp_ri hx hb hr hlocks hP hS dX5_reason_33 (by first | with_reducible rfl | (simp only [fnd, if_neg c_5]; done) | (simp only [fnd, c_5, Bool.false_eq_true, Bool.true_eq_false, and_true, true_and, false_and, and_false, and_self, not_true_eq_false, not_false_eq_true, if_true, if_false, reduceIte, or_false, false_or, true_or, or_true]; done) | (subst_vars; first | with_reducible rfl | (simp only [fnd, if_neg c_5]; done) | (simp only [fnd, c_5, Bool.false_eq_true, Bool.true_eq_false, and_true, true_and, false_and, and_false, and_self, not_true_eq_false, not_false_eq_true, if_true, if_false, reduceIte, or_false, false_or, true_or, or_true]; done)) | contradiction | rfl) (by first | with_reducible rfl | (simp only [fnd, if_neg c_5]; done) | (simp only [fnd, c_5, Bool.false_eq_true, Bool.true_eq_false, and_true, true_and, false_and, and_false, and_self, not_true_eq_false, not_false_eq_true, if_true, if_false, reduceIte, or_false, false_or, true_or, or_true]; done) | (subst_vars; first | with_reducible rfl | (simp only [fnd, if_neg c_5]; done) | (simp only [fnd, c_5, Bool.false_eq_true, Bool.true_eq_false, and_true, true_and, false_and, and_false, and_self, not_true_eq_false, not_false_eq_true, if_true, if_false, reduceIte, or_false, false_or, true_or, or_true]; done)) | contradiction | rfl)
  · skip
    refine lv_iload_n hx hb dX5_reason_8 rfl (lv_at hl 2 rfl) ?_
    refine sq_S S (c_X5_isFar) gX5_reason_X5_isFar i_X5_isFar ⟨Nat.le_of_ble_eq_true rfl, Nat.le_of_ble_eq_true rfl⟩ rfl hl.1 (As := [.int (n)]) (rest := []) (st1 := [.int (z (rg 1 100 (n)))]) rfl rfl (Nat.le_of_ble_eq_true rfl) ⟨Nat.le_of_ble_eq_true rfl, Nat.le_of_ble_eq_true rfl⟩ dX5_reason_9 ?_
    refine lvz_if_eq (tgt := 27) hx hb dX5_reason_12 (by decide) (fun c_12 => ?_) (fun c_12 => ?_)
    · skip
      refine lv_aload_n hx hb dX5_reason_27 rfl (lv_at hl 0 rfl) ?_
      refine lv_ldc (v := (-1000000001)) hx hb hown (hts (.constant RX5 41 ((-1000000001))) (by decide +kernel)) dX5_reason_28 ?_
      refine wq_V S mK_ok hK hP hS (c_X5_finds (t := 0) (by decide)) gX5_reason_X5_finds i_X5_finds rfl (m_rec hK hP) ⟨Nat.le_of_ble_eq_true rfl, Nat.le_of_ble_eq_true rfl⟩ rfl hl.1 (As := [.int ((-1000000001))]) (rest := []) (st1 := [.int ((-1000000001))]) rfl rfl (Nat.le_of_ble_eq_true rfl) ⟨Nat.le_of_ble_eq_true rfl, Nat.le_of_ble_eq_true rfl⟩ dX5_reason_30 (fun H locs hP hS => ?_)
      subst hQ
      exact mp_ri hx hb hr hlocks hP hS dX5_reason_33 (by first | with_reducible rfl | (simp only [fnd, if_pos c_5, if_neg c_12]; done) | (simp only [fnd, c_5, c_12, Bool.false_eq_true, Bool.true_eq_false, and_true, true_and, false_and, and_false, and_self, not_true_eq_false, not_false_eq_true, if_true, if_false, reduceIte, or_false, false_or, true_or, or_true]; done) | (subst_vars; first | with_reducible rfl | (simp only [fnd, if_pos c_5, if_neg c_12]; done) | (simp only [fnd, c_5, c_12, Bool.false_eq_true, Bool.true_eq_false, and_true, true_and, false_and, and_false, and_self, not_true_eq_false, not_false_eq_true, if_true, if_false, reduceIte, or_false, false_or, true_or, or_true]; done)) | contradiction | rfl) (by first | with_reducible rfl | (simp only [fnd, if_pos c_5, if_neg c_12]; done) | (simp only [fnd, c_5, c_12, Bool.false_eq_true, Bool.true_eq_false, and_true, true_and, false_and, and_false, and_self, not_true_eq_false, not_false_eq_true, if_true, if_false, reduceIte, or_false, false_or, true_or, or_true]; done) | (subst_vars; first | with_reducible rfl | (simp only [fnd, if_pos c_5, if_neg c_12]; done) | (simp only [fnd, c_5, c_12, Bool.false_eq_true, Bool.true_eq_false, and_true, true_and, false_and, and_false, and_self, not_true_eq_false, not_false_eq_true, if_true, if_false, reduceIte, or_false, false_or, true_or, or_true]; done)) | contradiction | rfl)
    · skip
      refine lv_iload_n hx hb dX5_reason_15 rfl (lv_at hl 3 rfl) ?_
      refine lv_i2l (v := (v).toInt64) hx hb dX5_reason_16 rfl ?_
      refine lv_lconst (v := 0) hx hb dX5_reason_17 (by decide) ?_
      refine lv_ldc2 (v := 999999) hx hb hown (hts (.constantLong RX5 60 (999999)) (by decide +kernel)) dX5_reason_18 ?_
      refine sq_S S (c_X5_inY) gX5_reason_X5_in i_X5_in ⟨Nat.le_of_ble_eq_true rfl, Nat.le_of_ble_eq_true rfl⟩ rfl hl.1 (As := [.long ((v).toInt64), .long (0), .long (999999)]) (rest := []) (st1 := [.int (z (rg 0 999999 (v)))]) rfl rfl (Nat.le_of_ble_eq_true rfl) ⟨Nat.le_of_ble_eq_true rfl, Nat.le_of_ble_eq_true rfl⟩ dX5_reason_21 ?_
      refine lvz_if_ne (tgt := 34) hx hb dX5_reason_24 (by decide) (fun c_24 => ?_) (fun c_24 => ?_)
      · skip
        obtain ⟨i, h_i, rfl⟩ := isN_ix h8 c_5
        have hcl_i : (nI i).toNatClampNeg = i := nI_clamp (by omega)
        obtain ⟨h, h_h, h_h2, rfl⟩ := rg_ix (a := 1) (b := 100) (by decide) c_12
        have hcl_h : (nI h).toNatClampNeg = h := nI_clamp (by omega)
        refine lv_aload_n hx hb dX5_reason_34 rfl (lv_at hl 0 rfl) ?_
        refine lv_iload_n hx hb dX5_reason_35 rfl (lv_at hl 1 rfl) ?_
        refine lv_iconst (v := nI 3) hx hb dX5_reason_36 (by decide) ?_
        refine wq_V S mK_ok hK hP hS (c_X5_its (by omega) (by omega)) gX5_reason_X5_its i_X5_its rfl (m_rec hK hP) ⟨Nat.le_of_ble_eq_true rfl, Nat.le_of_ble_eq_true rfl⟩ rfl hl.1 (As := [.int (nI i), .int (nI 3)]) (rest := []) (st1 := [.int (sr (5 + 8 * i + 3))]) rfl rfl (Nat.le_of_ble_eq_true rfl) ⟨Nat.le_of_ble_eq_true rfl, Nat.le_of_ble_eq_true rfl⟩ dX5_reason_37 (fun H locs hP hS => ?_)
        refine lv_istore (lv' := [(4, .int (sr (5 + 8 * i + 3))), (0, .ref (ad 0)), (1, .int (nI i)), (2, .int (nI h)), (3, .int (v))]) hx hb dX5_reason_40 hl (by decide) rfl (fun ls hl => ?_)
        refine lv_iconst (v := (-1)) hx hb dX5_reason_42 (by decide) ?_
        refine lv_istore (lv' := [(5, .int ((-1))), (4, .int (sr (5 + 8 * i + 3))), (0, .ref (ad 0)), (1, .int (nI i)), (2, .int (nI h)), (3, .int (v))]) hx hb dX5_reason_43 hl (by decide) rfl (fun ls hl => ?_)
        refine lv_iconst (v := nI 0) hx hb dX5_reason_45 (by decide) ?_
        refine lv_istore (lv' := [(6, .int (nI 0)), (5, .int ((-1))), (4, .int (sr (5 + 8 * i + 3))), (0, .ref (ad 0)), (1, .int (nI i)), (2, .int (nI h)), (3, .int (v))]) hx hb dX5_reason_46 hl (by decide) rfl (fun ls hl => ?_)
        have L_48 : ∀ (n : Nat) (j : Nat) (f : Int32) (x : Int32) (aa : Nat → Int32) (H : Heap) (locs : List Loc) (ls : Array Slot), (j + n = 10) → (f < 0 → -1 = f) → (reasonL N i h v sr 10 0 = if f < 0 then reasonL N i h v sr n j else f) → va_P D vwCl (mw cy ad (upd sr (5 + 8 * i + 3) x) kS ot aa stt ik tp td fr tt vl wr bo so nu mv) H → va_S (mA ad) s0.heap H locs → lv_has ls 7 [(6, .int (nI j)), (5, .int (f)), (4, .int (sr (5 + 8 * i + 3))), (0, .ref (ad 0)), (1, .int (nI i)), (2, .int (nI h)), (3, .int (v))] → W p l e (rmz 8 178) s0 m args below meth c H locs 0 0 Q (F0 m 48 ls []) := by
          intro n
          induction n with
          | zero =>
            intro j f x aa H locs ls hj hf hF hP hS hl
            refine lv_iload hx hb dX5_reason_48 (lv_at hl 0 rfl) ?_
            refine lv_bipush (v := nI 9) hx hb dX5_reason_50 (by decide) ?_
            refine lvn_icmp_gt (tgt := 101) hx hb dX5_reason_52 (by decide) (by omega) (by omega) (fun c_52 => ?_) (fun c_52 => ?_)
            · skip
              have hE : reasonL N i h v sr 10 0 = f := by
                first
                | exact hF.trans (if_neg (fun h => absurd c_57 (Int32.not_le.mpr h)))
                | (rw [hF]; by_cases c : f < 0
                   · rw [if_pos c]; exact hf c
                   · rw [if_neg c])
              refine lv_aload_n hx hb dX5_reason_101 rfl (lv_at hl 3 rfl) ?_
              refine m_get hx hb hts hin hown hK hP 0 (by decide) (hts (.fieldLink RX5 7 "PennyRoadModel" "s" "[I") (by decide +kernel)) rfl dX5_reason_102 ?_
              refine lv_iload_n hx hb dX5_reason_105 rfl (lv_at hl 4 rfl) ?_
              refine lv_iconst (v := nI 3) hx hb dX5_reason_106 (by decide) ?_
              refine sq_S S (c_X5_spotOf) gX5_reason_X5_spotOf i_X5_spotOf ⟨Nat.le_of_ble_eq_true rfl, Nat.le_of_ble_eq_true rfl⟩ rfl hl.1 (As := [.int (nI i), .int (nI 3)]) (rest := [.ref (ad 1)]) (st1 := [.int (nI (5 + 8 * i + 3)), .ref (ad 1)]) rfl rfl (Nat.le_of_ble_eq_true rfl) ⟨Nat.le_of_ble_eq_true rfl, Nat.le_of_ble_eq_true rfl⟩ dX5_reason_107 ?_
              refine lv_iload hx hb dX5_reason_110 (lv_at hl 2 rfl) ?_
              refine m_ast (w' := (mw cy ad (upd (upd sr (5 + 8 * i + 3) x) (5 + 8 * i + 3) (sr (5 + 8 * i + 3))) kS ot aa stt ik tp td fr tt vl wr bo so nu mv)) hx hb hK hP hS 1 rfl (by decide) (by omega) rfl dX5_reason_112 (fun H locs hP hS => ?_)
              rw [upd_back] at hP
              refine lv_iload hx hb dX5_reason_113 (lv_at hl 1 rfl) ?_
              refine lv_if_ge (tgt := 127) hx hb dX5_reason_115 (by decide) (fun c_115 => ?_) (fun c_115 => ?_)
              · skip
                refine lv_iload hx hb dX5_reason_127 (lv_at hl 1 rfl) ?_
                subst hQ
                exact mp_ri hx hb hr hlocks hP hS dX5_reason_129 (by first | with_reducible rfl | (simp only [fnd, if_pos c_5, if_pos c_12, if_pos c_24, if_pos c_52, if_pos c_115]; done) | (simp only [fnd, hcl_i, hcl_h, hE, c_5, c_12, c_24, if_pos c_52, if_pos c_115, Bool.false_eq_true, Bool.true_eq_false, and_true, true_and, false_and, and_false, and_self, not_true_eq_false, not_false_eq_true, if_true, if_false, reduceIte, or_false, false_or, true_or, or_true]; done) | (subst_vars; first | with_reducible rfl | (simp only [fnd, if_pos c_5, if_pos c_12, if_pos c_24, if_pos c_52, if_pos c_115]; done) | (simp only [fnd, hcl_i, hcl_h, hE, c_5, c_12, c_24, if_pos c_52, if_pos c_115, Bool.false_eq_true, Bool.true_eq_false, and_true, true_and, false_and, and_false, and_self, not_true_eq_false, not_false_eq_true, if_true, if_false, reduceIte, or_false, false_or, true_or, or_true]; done)) | contradiction | rfl) (by first | with_reducible rfl | (simp only [fnd, if_pos c_5, if_pos c_12, if_pos c_24, if_pos c_52, if_pos c_115]; done) | (simp only [fnd, hcl_i, hcl_h, hE, c_5, c_12, c_24, if_pos c_52, if_pos c_115, Bool.false_eq_true, Bool.true_eq_false, and_true, true_and, false_and, and_false, and_self, not_true_eq_false, not_false_eq_true, if_true, if_false, reduceIte, or_false, false_or, true_or, or_true]; done) | (subst_vars; first | with_reducible rfl | (simp only [fnd, if_pos c_5, if_pos c_12, if_pos c_24, if_pos c_52, if_pos c_115]; done) | (simp only [fnd, hcl_i, hcl_h, hE, c_5, c_12, c_24, if_pos c_52, if_pos c_115, Bool.false_eq_true, Bool.true_eq_false, and_true, true_and, false_and, and_false, and_self, not_true_eq_false, not_false_eq_true, if_true, if_false, reduceIte, or_false, false_or, true_or, or_true]; done)) | contradiction | rfl)
              · skip
                refine lv_aload_n hx hb dX5_reason_118 rfl (lv_at hl 3 rfl) ?_
                refine lv_ldc (v := (-1000000004)) hx hb hown (hts (.constant RX5 144 ((-1000000004))) (by decide +kernel)) dX5_reason_119 ?_
                refine wq_V S mK_ok hK hP hS (c_X5_finds (t := 3) (by decide)) gX5_reason_X5_finds i_X5_finds rfl (m_rec hK hP) ⟨Nat.le_of_ble_eq_true rfl, Nat.le_of_ble_eq_true rfl⟩ rfl hl.1 (As := [.int ((-1000000004))]) (rest := []) (st1 := [.int ((-1000000004))]) rfl rfl (Nat.le_of_ble_eq_true rfl) ⟨Nat.le_of_ble_eq_true rfl, Nat.le_of_ble_eq_true rfl⟩ dX5_reason_121 (fun H locs hP hS => ?_)
                refine lv_goto (tgt := 129) hx hb dX5_reason_124 (by decide) ?_
                subst hQ
                exact mp_ri hx hb hr hlocks hP hS dX5_reason_129 (by first | with_reducible rfl | (simp only [fnd, if_pos c_5, if_pos c_12, if_pos c_24, if_pos c_52, if_neg c_115]; done) | (simp only [fnd, hcl_i, hcl_h, hE, c_5, c_12, c_24, if_pos c_52, if_neg c_115, Bool.false_eq_true, Bool.true_eq_false, and_true, true_and, false_and, and_false, and_self, not_true_eq_false, not_false_eq_true, if_true, if_false, reduceIte, or_false, false_or, true_or, or_true]; done) | (subst_vars; first | with_reducible rfl | (simp only [fnd, if_pos c_5, if_pos c_12, if_pos c_24, if_pos c_52, if_neg c_115]; done) | (simp only [fnd, hcl_i, hcl_h, hE, c_5, c_12, c_24, if_pos c_52, if_neg c_115, Bool.false_eq_true, Bool.true_eq_false, and_true, true_and, false_and, and_false, and_self, not_true_eq_false, not_false_eq_true, if_true, if_false, reduceIte, or_false, false_or, true_or, or_true]; done)) | contradiction | rfl) (by first | with_reducible rfl | (simp only [fnd, if_pos c_5, if_pos c_12, if_pos c_24, if_pos c_52, if_neg c_115]; done) | (simp only [fnd, hcl_i, hcl_h, hE, c_5, c_12, c_24, if_pos c_52, if_neg c_115, Bool.false_eq_true, Bool.true_eq_false, and_true, true_and, false_and, and_false, and_self, not_true_eq_false, not_false_eq_true, if_true, if_false, reduceIte, or_false, false_or, true_or, or_true]; done) | (subst_vars; first | with_reducible rfl | (simp only [fnd, if_pos c_5, if_pos c_12, if_pos c_24, if_pos c_52, if_neg c_115]; done) | (simp only [fnd, hcl_i, hcl_h, hE, c_5, c_12, c_24, if_pos c_52, if_neg c_115, Bool.false_eq_true, Bool.true_eq_false, and_true, true_and, false_and, and_false, and_self, not_true_eq_false, not_false_eq_true, if_true, if_false, reduceIte, or_false, false_or, true_or, or_true]; done)) | contradiction | rfl)
            · skip
              exfalso; omega
          | succ n ih_48 =>
            intro j f x aa H locs ls hj hf hF hP hS hl
            refine lv_iload hx hb dX5_reason_48 (lv_at hl 0 rfl) ?_
            refine lv_bipush (v := nI 9) hx hb dX5_reason_50 (by decide) ?_
            refine lvn_icmp_gt (tgt := 101) hx hb dX5_reason_52 (by decide) (by omega) (by omega) (fun c_52 => ?_) (fun c_52 => ?_)
            · skip
              exfalso; omega
            · skip
              refine lv_iload hx hb dX5_reason_55 (lv_at hl 1 rfl) ?_
              refine lv_if_ge (tgt := 101) hx hb dX5_reason_57 (by decide) (fun c_57 => ?_) (fun c_57 => ?_)
              · skip
                have hE : reasonL N i h v sr 10 0 = f := by
                  first
                  | exact hF.trans (if_neg (fun h => absurd c_57 (Int32.not_le.mpr h)))
                  | (rw [hF]; by_cases c : f < 0
                     · rw [if_pos c]; exact hf c
                     · rw [if_neg c])
                refine lv_aload_n hx hb dX5_reason_101 rfl (lv_at hl 3 rfl) ?_
                refine m_get hx hb hts hin hown hK hP 0 (by decide) (hts (.fieldLink RX5 7 "PennyRoadModel" "s" "[I") (by decide +kernel)) rfl dX5_reason_102 ?_
                refine lv_iload_n hx hb dX5_reason_105 rfl (lv_at hl 4 rfl) ?_
                refine lv_iconst (v := nI 3) hx hb dX5_reason_106 (by decide) ?_
                refine sq_S S (c_X5_spotOf) gX5_reason_X5_spotOf i_X5_spotOf ⟨Nat.le_of_ble_eq_true rfl, Nat.le_of_ble_eq_true rfl⟩ rfl hl.1 (As := [.int (nI i), .int (nI 3)]) (rest := [.ref (ad 1)]) (st1 := [.int (nI (5 + 8 * i + 3)), .ref (ad 1)]) rfl rfl (Nat.le_of_ble_eq_true rfl) ⟨Nat.le_of_ble_eq_true rfl, Nat.le_of_ble_eq_true rfl⟩ dX5_reason_107 ?_
                refine lv_iload hx hb dX5_reason_110 (lv_at hl 2 rfl) ?_
                refine m_ast (w' := (mw cy ad (upd (upd sr (5 + 8 * i + 3) x) (5 + 8 * i + 3) (sr (5 + 8 * i + 3))) kS ot aa stt ik tp td fr tt vl wr bo so nu mv)) hx hb hK hP hS 1 rfl (by decide) (by omega) rfl dX5_reason_112 (fun H locs hP hS => ?_)
                rw [upd_back] at hP
                refine lv_iload hx hb dX5_reason_113 (lv_at hl 1 rfl) ?_
                refine lv_if_ge (tgt := 127) hx hb dX5_reason_115 (by decide) (fun c_115 => ?_) (fun c_115 => ?_)
                · skip
                  refine lv_iload hx hb dX5_reason_127 (lv_at hl 1 rfl) ?_
                  subst hQ
                  exact mp_ri hx hb hr hlocks hP hS dX5_reason_129 (by first | with_reducible rfl | (simp only [fnd, if_pos c_5, if_pos c_12, if_pos c_24, if_neg c_52, if_pos c_57, if_pos c_115]; done) | (simp only [fnd, hcl_i, hcl_h, hE, c_5, c_12, c_24, if_neg c_52, if_pos c_57, if_pos c_115, Bool.false_eq_true, Bool.true_eq_false, and_true, true_and, false_and, and_false, and_self, not_true_eq_false, not_false_eq_true, if_true, if_false, reduceIte, or_false, false_or, true_or, or_true]; done) | (subst_vars; first | with_reducible rfl | (simp only [fnd, if_pos c_5, if_pos c_12, if_pos c_24, if_neg c_52, if_pos c_57, if_pos c_115]; done) | (simp only [fnd, hcl_i, hcl_h, hE, c_5, c_12, c_24, if_neg c_52, if_pos c_57, if_pos c_115, Bool.false_eq_true, Bool.true_eq_false, and_true, true_and, false_and, and_false, and_self, not_true_eq_false, not_false_eq_true, if_true, if_false, reduceIte, or_false, false_or, true_or, or_true]; done)) | contradiction | rfl) (by first | with_reducible rfl | (simp only [fnd, if_pos c_5, if_pos c_12, if_pos c_24, if_neg c_52, if_pos c_57, if_pos c_115]; done) | (simp only [fnd, hcl_i, hcl_h, hE, c_5, c_12, c_24, if_neg c_52, if_pos c_57, if_pos c_115, Bool.false_eq_true, Bool.true_eq_false, and_true, true_and, false_and, and_false, and_self, not_true_eq_false, not_false_eq_true, if_true, if_false, reduceIte, or_false, false_or, true_or, or_true]; done) | (subst_vars; first | with_reducible rfl | (simp only [fnd, if_pos c_5, if_pos c_12, if_pos c_24, if_neg c_52, if_pos c_57, if_pos c_115]; done) | (simp only [fnd, hcl_i, hcl_h, hE, c_5, c_12, c_24, if_neg c_52, if_pos c_57, if_pos c_115, Bool.false_eq_true, Bool.true_eq_false, and_true, true_and, false_and, and_false, and_self, not_true_eq_false, not_false_eq_true, if_true, if_false, reduceIte, or_false, false_or, true_or, or_true]; done)) | contradiction | rfl)
                · skip
                  refine lv_aload_n hx hb dX5_reason_118 rfl (lv_at hl 3 rfl) ?_
                  refine lv_ldc (v := (-1000000004)) hx hb hown (hts (.constant RX5 144 ((-1000000004))) (by decide +kernel)) dX5_reason_119 ?_
                  refine wq_V S mK_ok hK hP hS (c_X5_finds (t := 3) (by decide)) gX5_reason_X5_finds i_X5_finds rfl (m_rec hK hP) ⟨Nat.le_of_ble_eq_true rfl, Nat.le_of_ble_eq_true rfl⟩ rfl hl.1 (As := [.int ((-1000000004))]) (rest := []) (st1 := [.int ((-1000000004))]) rfl rfl (Nat.le_of_ble_eq_true rfl) ⟨Nat.le_of_ble_eq_true rfl, Nat.le_of_ble_eq_true rfl⟩ dX5_reason_121 (fun H locs hP hS => ?_)
                  refine lv_goto (tgt := 129) hx hb dX5_reason_124 (by decide) ?_
                  subst hQ
                  exact mp_ri hx hb hr hlocks hP hS dX5_reason_129 (by first | with_reducible rfl | (simp only [fnd, if_pos c_5, if_pos c_12, if_pos c_24, if_neg c_52, if_pos c_57, if_neg c_115]; done) | (simp only [fnd, hcl_i, hcl_h, hE, c_5, c_12, c_24, if_neg c_52, if_pos c_57, if_neg c_115, Bool.false_eq_true, Bool.true_eq_false, and_true, true_and, false_and, and_false, and_self, not_true_eq_false, not_false_eq_true, if_true, if_false, reduceIte, or_false, false_or, true_or, or_true]; done) | (subst_vars; first | with_reducible rfl | (simp only [fnd, if_pos c_5, if_pos c_12, if_pos c_24, if_neg c_52, if_pos c_57, if_neg c_115]; done) | (simp only [fnd, hcl_i, hcl_h, hE, c_5, c_12, c_24, if_neg c_52, if_pos c_57, if_neg c_115, Bool.false_eq_true, Bool.true_eq_false, and_true, true_and, false_and, and_false, and_self, not_true_eq_false, not_false_eq_true, if_true, if_false, reduceIte, or_false, false_or, true_or, or_true]; done)) | contradiction | rfl) (by first | with_reducible rfl | (simp only [fnd, if_pos c_5, if_pos c_12, if_pos c_24, if_neg c_52, if_pos c_57, if_neg c_115]; done) | (simp only [fnd, hcl_i, hcl_h, hE, c_5, c_12, c_24, if_neg c_52, if_pos c_57, if_neg c_115, Bool.false_eq_true, Bool.true_eq_false, and_true, true_and, false_and, and_false, and_self, not_true_eq_false, not_false_eq_true, if_true, if_false, reduceIte, or_false, false_or, true_or, or_true]; done) | (subst_vars; first | with_reducible rfl | (simp only [fnd, if_pos c_5, if_pos c_12, if_pos c_24, if_neg c_52, if_pos c_57, if_neg c_115]; done) | (simp only [fnd, hcl_i, hcl_h, hE, c_5, c_12, c_24, if_neg c_52, if_pos c_57, if_neg c_115, Bool.false_eq_true, Bool.true_eq_false, and_true, true_and, false_and, and_false, and_self, not_true_eq_false, not_false_eq_true, if_true, if_false, reduceIte, or_false, false_or, true_or, or_true]; done)) | contradiction | rfl)
              · skip
                refine lv_aload_n hx hb dX5_reason_60 rfl (lv_at hl 3 rfl) ?_
                refine m_get hx hb hts hin hown hK hP 0 (by decide) (hts (.fieldLink RX5 7 "PennyRoadModel" "s" "[I") (by decide +kernel)) rfl dX5_reason_61 ?_
                refine lv_iload_n hx hb dX5_reason_64 rfl (lv_at hl 4 rfl) ?_
                refine lv_iconst (v := nI 3) hx hb dX5_reason_65 (by decide) ?_
                refine sq_S S (c_X5_spotOf) gX5_reason_X5_spotOf i_X5_spotOf ⟨Nat.le_of_ble_eq_true rfl, Nat.le_of_ble_eq_true rfl⟩ rfl hl.1 (As := [.int (nI i), .int (nI 3)]) (rest := [.ref (ad 1)]) (st1 := [.int (nI (5 + 8 * i + 3)), .ref (ad 1)]) rfl rfl (Nat.le_of_ble_eq_true rfl) ⟨Nat.le_of_ble_eq_true rfl, Nat.le_of_ble_eq_true rfl⟩ dX5_reason_66 ?_
                refine lv_iload hx hb dX5_reason_69 (lv_at hl 0 rfl) ?_
                refine m_ast (w' := (mw cy ad (upd (upd sr (5 + 8 * i + 3) x) (5 + 8 * i + 3) (nI j)) kS ot aa stt ik tp td fr tt vl wr bo so nu mv)) hx hb hK hP hS 1 rfl (by decide) (by omega) rfl dX5_reason_71 (fun H locs hP hS => ?_)
                rw [upd_upd] at hP
                refine lv_aload_n hx hb dX5_reason_72 rfl (lv_at hl 3 rfl) ?_
                refine lv_iload_n hx hb dX5_reason_73 rfl (lv_at hl 4 rfl) ?_
                refine lv_bipush (v := nI 6) hx hb dX5_reason_74 (by decide) ?_
                refine sq_S S (c_X5_spotOf) gX5_reason_X5_spotOf i_X5_spotOf ⟨Nat.le_of_ble_eq_true rfl, Nat.le_of_ble_eq_true rfl⟩ rfl hl.1 (As := [.int (nI i), .int (nI 6)]) (rest := [.ref (ad 0)]) (st1 := [.int (nI (5 + 8 * i + 6)), .ref (ad 0)]) rfl rfl (Nat.le_of_ble_eq_true rfl) ⟨Nat.le_of_ble_eq_true rfl, Nat.le_of_ble_eq_true rfl⟩ dX5_reason_76 ?_
                refine lv_iload_n hx hb dX5_reason_79 rfl (lv_at hl 5 rfl) ?_
                refine wq_V S mK_ok hK hP hS (c_X5_behind ((upd_0 (by omega)).trans hN) h8 (by omega) (by omega)) gX5_reason_X5_behind i_X5_behind rfl (m_rec hK hP) ⟨Nat.le_of_ble_eq_true rfl, Nat.le_of_ble_eq_true rfl⟩ rfl hl.1 (As := [.int (nI (5 + 8 * i + 6)), .int (nI h)]) (rest := []) (st1 := [.int ((hrsF N h (upd sr (5 + 8 * i + 3) (nI j))) (5 + 8 * i + 6))]) rfl rfl (Nat.le_of_ble_eq_true rfl) ⟨Nat.le_of_ble_eq_true rfl, Nat.le_of_ble_eq_true rfl⟩ dX5_reason_80 (fun H locs hP hS => ?_)
                refine lv_iload_n hx hb dX5_reason_83 rfl (lv_at hl 6 rfl) ?_
                have K_1 : ∀ (x_2 : Int32) (H : Heap) (locs : List Loc) (ls : Array Slot), x_2 = (if ((hrsF N h (upd sr (5 + 8 * i + 3) (nI j))) (5 + 8 * i + 6)) < (v) then ((-1)) else (nI j)) → va_P D vwCl (mw cy ad (upd sr (5 + 8 * i + 3) (nI j)) kS ot (upd sr (5 + 8 * i + 3) (nI j)) stt ik tp td fr tt vl wr bo so nu mv) H → va_S (mA ad) s0.heap H locs → lv_has ls 7 [(6, .int (nI j)), (5, .int (f)), (4, .int (sr (5 + 8 * i + 3))), (0, .ref (ad 0)), (1, .int (nI i)), (2, .int (nI h)), (3, .int (v))] → W p l e (rmz 8 178) s0 m args below meth c H locs 0 0 Q (F0 m 93 ls [.int (x_2)]) := by
                  intro x_2 H locs ls ex_2 hP hS hl
                  refine lv_istore (lv' := [(5, .int (x_2)), (6, .int (nI j)), (4, .int (sr (5 + 8 * i + 3))), (0, .ref (ad 0)), (1, .int (nI i)), (2, .int (nI h)), (3, .int (v))]) hx hb dX5_reason_93 hl (by decide) rfl (fun ls hl => ?_)
                  refine lv_iinc (v := nI (j + 1)) (lv' := [(6, .int (nI (j + 1))), (5, .int (x_2)), (4, .int (sr (5 + 8 * i + 3))), (0, .ref (ad 0)), (1, .int (nI i)), (2, .int (nI h)), (3, .int (v))]) hx hb dX5_reason_95 hl (k := 1) rfl (nI_add _ _) (by decide) rfl (fun ls hl => ?_)
                  refine lv_goto (tgt := 48) hx hb dX5_reason_98 (by decide) ?_
                  exact ih_48 (j + 1) _ _ _ _ _ ls (by omega) (fnd_neg (C := hrsF N h (upd sr (5 + 8 * i + 3) (nI j)) (5 + 8 * i + 6) < v) (n := j) (by omega) ex_2) (fnd_step (C := hrsF N h (upd sr (5 + 8 * i + 3) (nI j)) (5 + 8 * i + 6) < v) (n := j) (by omega) (hF.trans (if_pos (Int32.not_le.mp c_57))) ex_2) hP hS hl
                refine lv_icmp_lt (tgt := 92) hx hb dX5_reason_84 (by decide) (fun c_84 => ?_) (fun c_84 => ?_)
                · skip
                  refine lv_iconst (v := (-1)) hx hb dX5_reason_92 (by decide) ?_
                  exact K_1 ((-1)) _ _ ls (by simp only [if_pos c_84]) hP hS hl
                · skip
                  refine lv_iload hx hb dX5_reason_87 (lv_at hl 0 rfl) ?_
                  refine lv_goto (tgt := 93) hx hb dX5_reason_89 (by decide) ?_
                  exact K_1 (nI j) _ _ ls (by simp only [if_neg c_84]) hP hS hl
        exact L_48 10 0 (-1) (sr (5 + 8 * i + 3)) asd _ _ ls (by omega) (fun _ => rfl) (if_pos (by decide)).symm (by rw [upd_id]; exact hP) hS hl
      · skip
        refine lv_aload_n hx hb dX5_reason_27 rfl (lv_at hl 0 rfl) ?_
        refine lv_ldc (v := (-1000000001)) hx hb hown (hts (.constant RX5 41 ((-1000000001))) (by decide +kernel)) dX5_reason_28 ?_
        refine wq_V S mK_ok hK hP hS (c_X5_finds (t := 0) (by decide)) gX5_reason_X5_finds i_X5_finds rfl (m_rec hK hP) ⟨Nat.le_of_ble_eq_true rfl, Nat.le_of_ble_eq_true rfl⟩ rfl hl.1 (As := [.int ((-1000000001))]) (rest := []) (st1 := [.int ((-1000000001))]) rfl rfl (Nat.le_of_ble_eq_true rfl) ⟨Nat.le_of_ble_eq_true rfl, Nat.le_of_ble_eq_true rfl⟩ dX5_reason_30 (fun H locs hP hS => ?_)
        subst hQ
        exact mp_ri hx hb hr hlocks hP hS dX5_reason_33 (by first | with_reducible rfl | (simp only [fnd, if_pos c_5, if_pos c_12, if_neg c_24]; done) | (simp only [fnd, c_5, c_12, c_24, Bool.false_eq_true, Bool.true_eq_false, and_true, true_and, false_and, and_false, and_self, not_true_eq_false, not_false_eq_true, if_true, if_false, reduceIte, or_false, false_or, true_or, or_true]; done) | (subst_vars; first | with_reducible rfl | (simp only [fnd, if_pos c_5, if_pos c_12, if_neg c_24]; done) | (simp only [fnd, c_5, c_12, c_24, Bool.false_eq_true, Bool.true_eq_false, and_true, true_and, false_and, and_false, and_self, not_true_eq_false, not_false_eq_true, if_true, if_false, reduceIte, or_false, false_or, true_or, or_true]; done)) | contradiction | rfl) (by first | with_reducible rfl | (simp only [fnd, if_pos c_5, if_pos c_12, if_neg c_24]; done) | (simp only [fnd, c_5, c_12, c_24, Bool.false_eq_true, Bool.true_eq_false, and_true, true_and, false_and, and_false, and_self, not_true_eq_false, not_false_eq_true, if_true, if_false, reduceIte, or_false, false_or, true_or, or_true]; done) | (subst_vars; first | with_reducible rfl | (simp only [fnd, if_pos c_5, if_pos c_12, if_neg c_24]; done) | (simp only [fnd, c_5, c_12, c_24, Bool.false_eq_true, Bool.true_eq_false, and_true, true_and, false_and, and_false, and_self, not_true_eq_false, not_false_eq_true, if_true, if_false, reduceIte, or_false, false_or, true_or, or_true]; done)) | contradiction | rfl)
theorem i_X5_reason : ciOk yX5_reason cX5_reason 7 (some .int) wsX5_reason 3 := ⟨⟨_, rfl⟩, by decide +kernel⟩
set_option maxHeartbeats 1000000 in
set_option maxRecDepth 100000 in
theorem c_X5_mostBy {l : Launch} {D : va_G} {cy : Nat → ClassId} {ad : Nat → Nat} {sr kS ot asd stt : Nat → Int32} {ik : Int32} {tp : Nat → Int32} {td fr tt vl wr : Int32} {bo so : Nat → Int32} {nu mv : Nat → Int64} {wh : Nat} {g : Nat} {i : Nat} {q : Nat} {N : Nat} (hN : sr 0 = nI N) (h8 : N ≤ 8) (hi : i < 8) (hw : wh < 69) (hw0 : 0 < wh) (hq : q < 2 ^ 31) (hg : g < 100) : Met l yX5_mostBy wsX5_mostBy (rmz 8 178) (wPre D (mK D cy ad) (mw cy ad sr kS ot asd stt ik tp td fr tt vl wr bo so nu mv) [.ref (ad 0), .int (nI wh), .int (nI g), .int (nI i), .int (nI q)]) (wPost D (mw cy ad sr kS ot (upd sr wh (nI g)) stt ik tp td fr tt vl wr bo so nu mv) (some (.int (mostL N wh i q sr (g + 1) 0 (nI 0) (-1)))) (mA ad)) 0 0 (mA ad) := by
  refine wq_entry rfl rfl (Nat.le_of_ble_eq_true rfl) ?_
  intro p e s0 m args below meth c S hr hlocks hK hP ls hl
  have S : CallFix p m c cX5_mostBy 10 s0 args wsX5_mostBy RX5 := S
  obtain ⟨hx, hb, hml, hown, hts⟩ := id S
  have hin : ∀ w ∈ wsX50, w ∈ wsX5_mostBy := fun w h => List.mem_cons_of_mem _ (List.mem_append_right _ h)
  have hS : va_S (mA ad) s0.heap s0.heap [] := va_S.rf
  have hl : lv_has ls 10 [(0, .ref (ad 0)), (1, .int (nI wh)), (2, .int (nI g)), (3, .int (nI i)), (4, .int (nI q))] := hl
  generalize hQ : MQ below (wPost D (mw cy ad sr kS ot (upd sr wh (nI g)) stt ik tp td fr tt vl wr bo so nu mv) (some (.int (mostL N wh i q sr (g + 1) 0 (nI 0) (-1)))) (mA ad)) args s0 0 0 (mA ad) = Q
  refine lv_aload_n hx hb dX5_mostBy_0 rfl (lv_at hl 0 rfl) ?_
  refine m_get hx hb hts hin hown hK hP 0 (by decide) (hts (.fieldLink RX5 7 "PennyRoadModel" "s" "[I") (by decide +kernel)) rfl dX5_mostBy_1 ?_
  refine lv_iload_n hx hb dX5_mostBy_4 rfl (lv_at hl 1 rfl) ?_
  refine m_ald hx hb hK hP 1 rfl (by decide) (by omega) dX5_mostBy_5 ?_
  refine lv_istore (lv' := [(5, .int (sr wh)), (0, .ref (ad 0)), (1, .int (nI wh)), (2, .int (nI g)), (3, .int (nI i)), (4, .int (nI q))]) hx hb dX5_mostBy_6 hl (by decide) rfl (fun ls hl => ?_)
  refine lv_iconst (v := nI 0) hx hb dX5_mostBy_8 (by decide) ?_
  refine lv_istore (lv' := [(6, .int (nI 0)), (5, .int (sr wh)), (0, .ref (ad 0)), (1, .int (nI wh)), (2, .int (nI g)), (3, .int (nI i)), (4, .int (nI q))]) hx hb dX5_mostBy_9 hl (by decide) rfl (fun ls hl => ?_)
  refine lv_iconst (v := (-1)) hx hb dX5_mostBy_11 (by decide) ?_
  refine lv_istore (lv' := [(7, .int ((-1))), (6, .int (nI 0)), (5, .int (sr wh)), (0, .ref (ad 0)), (1, .int (nI wh)), (2, .int (nI g)), (3, .int (nI i)), (4, .int (nI q))]) hx hb dX5_mostBy_12 hl (by decide) rfl (fun ls hl => ?_)
  refine lv_iconst (v := nI 0) hx hb dX5_mostBy_14 (by decide) ?_
  refine lv_istore (lv' := [(8, .int (nI 0)), (7, .int ((-1))), (6, .int (nI 0)), (5, .int (sr wh)), (0, .ref (ad 0)), (1, .int (nI wh)), (2, .int (nI g)), (3, .int (nI i)), (4, .int (nI q))]) hx hb dX5_mostBy_15 hl (by decide) rfl (fun ls hl => ?_)
  have L_17 : ∀ (n : Nat) (j : Nat) (b : Int32) (t : Int32) (x : Int32) (aa : Nat → Int32) (H : Heap) (locs : List Loc) (ls : Array Slot), (j + n = g + 1) → (0 < j → aa = upd sr wh (nI (j - 1))) → (mostL N wh i q sr (g + 1) 0 (nI 0) (-1) = mostL N wh i q sr n j b t) → va_P D vwCl (mw cy ad (upd sr wh x) kS ot aa stt ik tp td fr tt vl wr bo so nu mv) H → va_S (mA ad) s0.heap H locs → lv_has ls 10 [(8, .int (nI j)), (7, .int (t)), (6, .int (b)), (5, .int (sr wh)), (0, .ref (ad 0)), (1, .int (nI wh)), (2, .int (nI g)), (3, .int (nI i)), (4, .int (nI q))] → W p l e (rmz 8 178) s0 m args below meth c H locs 0 0 Q (F0 m 17 ls []) := by
    intro n
    induction n with
    | zero =>
      intro j b t x aa H locs ls hj ha hF hP hS hl
      refine lv_iload hx hb dX5_mostBy_17 (lv_at hl 0 rfl) ?_
      refine lv_iload_n hx hb dX5_mostBy_19 rfl (lv_at hl 6 rfl) ?_
      refine lvn_icmp_gt (tgt := 83) hx hb dX5_mostBy_20 (by decide) (by omega) (by omega) (fun c_20 => ?_) (fun c_20 => ?_)
      · skip
        have ha9 : aa = upd sr wh (nI g) := by rw [ha (by omega)]; congr 2; omega
        subst ha9
        refine lv_aload_n hx hb dX5_mostBy_83 rfl (lv_at hl 4 rfl) ?_
        refine m_get hx hb hts hin hown hK hP 0 (by decide) (hts (.fieldLink RX5 7 "PennyRoadModel" "s" "[I") (by decide +kernel)) rfl dX5_mostBy_84 ?_
        refine lv_iload_n hx hb dX5_mostBy_87 rfl (lv_at hl 5 rfl) ?_
        refine lv_iload hx hb dX5_mostBy_88 (lv_at hl 3 rfl) ?_
        refine m_ast (w' := (mw cy ad (upd (upd sr wh x) wh (sr wh)) kS ot (upd sr wh (nI g)) stt ik tp td fr tt vl wr bo so nu mv)) hx hb hK hP hS 1 rfl (by decide) (by omega) rfl dX5_mostBy_90 (fun H locs hP hS => ?_)
        rw [upd_back] at hP
        refine lv_iload hx hb dX5_mostBy_91 (lv_at hl 2 rfl) ?_
        subst hQ
        exact wq_ri hx hb hr hlocks hP hS dX5_mostBy_93 (by rw [hF]; rfl) rfl
      · skip
        exfalso; omega
    | succ n ih_17 =>
      intro j b t x aa H locs ls hj ha hF hP hS hl
      refine lv_iload hx hb dX5_mostBy_17 (lv_at hl 0 rfl) ?_
      refine lv_iload_n hx hb dX5_mostBy_19 rfl (lv_at hl 6 rfl) ?_
      refine lvn_icmp_gt (tgt := 83) hx hb dX5_mostBy_20 (by decide) (by omega) (by omega) (fun c_20 => ?_) (fun c_20 => ?_)
      · skip
        exfalso; omega
      · skip
        refine lv_aload_n hx hb dX5_mostBy_23 rfl (lv_at hl 4 rfl) ?_
        refine m_get hx hb hts hin hown hK hP 0 (by decide) (hts (.fieldLink RX5 7 "PennyRoadModel" "s" "[I") (by decide +kernel)) rfl dX5_mostBy_24 ?_
        refine lv_iload_n hx hb dX5_mostBy_27 rfl (lv_at hl 5 rfl) ?_
        refine lv_iload hx hb dX5_mostBy_28 (lv_at hl 0 rfl) ?_
        refine m_ast (w' := (mw cy ad (upd (upd sr wh x) wh (nI j)) kS ot aa stt ik tp td fr tt vl wr bo so nu mv)) hx hb hK hP hS 1 rfl (by decide) (by omega) rfl dX5_mostBy_30 (fun H locs hP hS => ?_)
        rw [upd_upd] at hP
        refine lv_aload_n hx hb dX5_mostBy_31 rfl (lv_at hl 4 rfl) ?_
        refine lv_iload_n hx hb dX5_mostBy_32 rfl (lv_at hl 7 rfl) ?_
        refine lv_bipush (v := nI 6) hx hb dX5_mostBy_33 (by decide) ?_
        refine sq_S S (c_X5_spotOf) gX5_mostBy_X5_spotOf i_X5_spotOf ⟨Nat.le_of_ble_eq_true rfl, Nat.le_of_ble_eq_true rfl⟩ rfl hl.1 (As := [.int (nI i), .int (nI 6)]) (rest := [.ref (ad 0)]) (st1 := [.int (nI (5 + 8 * i + 6)), .ref (ad 0)]) rfl rfl (Nat.le_of_ble_eq_true rfl) ⟨Nat.le_of_ble_eq_true rfl, Nat.le_of_ble_eq_true rfl⟩ dX5_mostBy_35 ?_
        refine lv_iload hx hb dX5_mostBy_38 (lv_at hl 8 rfl) ?_
        refine wq_V S mK_ok hK hP hS (c_X5_behind ((upd_0 (by omega)).trans hN) h8 (by omega) (by omega)) gX5_mostBy_X5_behind i_X5_behind rfl (m_rec hK hP) ⟨Nat.le_of_ble_eq_true rfl, Nat.le_of_ble_eq_true rfl⟩ rfl hl.1 (As := [.int (nI (5 + 8 * i + 6)), .int (nI q)]) (rest := []) (st1 := [.int ((hrsF N q (upd sr wh (nI j))) (5 + 8 * i + 6))]) rfl rfl (Nat.le_of_ble_eq_true rfl) ⟨Nat.le_of_ble_eq_true rfl, Nat.le_of_ble_eq_true rfl⟩ dX5_mostBy_40 (fun H locs hP hS => ?_)
        refine lv_istore (lv' := [(9, .int ((hrsF N q (upd sr wh (nI j))) (5 + 8 * i + 6))), (8, .int (nI j)), (7, .int (t)), (6, .int (b)), (5, .int (sr wh)), (0, .ref (ad 0)), (1, .int (nI wh)), (2, .int (nI g)), (3, .int (nI i)), (4, .int (nI q))]) hx hb dX5_mostBy_43 hl (by decide) rfl (fun ls hl => ?_)
        refine lv_iload hx hb dX5_mostBy_45 (lv_at hl 0 rfl) ?_
        refine lv_iload hx hb dX5_mostBy_47 (lv_at hl 2 rfl) ?_
        have K_1 : ∀ (x_2 : Int32) (H : Heap) (locs : List Loc) (ls : Array Slot), x_2 = (if ((hrsF N q (upd sr wh (nI j))) (5 + 8 * i + 6)) ≤ (t) then b else (nI j)) → va_P D vwCl (mw cy ad (upd sr wh (nI j)) kS ot (upd sr wh (nI j)) stt ik tp td fr tt vl wr bo so nu mv) H → va_S (mA ad) s0.heap H locs → lv_has ls 10 [(9, .int ((hrsF N q (upd sr wh (nI j))) (5 + 8 * i + 6))), (8, .int (nI j)), (7, .int (t)), (6, .int (b)), (5, .int (sr wh)), (0, .ref (ad 0)), (1, .int (nI wh)), (2, .int (nI g)), (3, .int (nI i)), (4, .int (nI q))] → W p l e (rmz 8 178) s0 m args below meth c H locs 0 0 Q (F0 m 59 ls [.int (x_2)]) := by
          intro x_2 H locs ls ex_2 hP hS hl
          refine lv_istore (lv' := [(6, .int (x_2)), (9, .int ((hrsF N q (upd sr wh (nI j))) (5 + 8 * i + 6))), (8, .int (nI j)), (7, .int (t)), (5, .int (sr wh)), (0, .ref (ad 0)), (1, .int (nI wh)), (2, .int (nI g)), (3, .int (nI i)), (4, .int (nI q))]) hx hb dX5_mostBy_59 hl (by decide) rfl (fun ls hl => ?_)
          refine lv_iload hx hb dX5_mostBy_61 (lv_at hl 1 rfl) ?_
          refine lv_iload hx hb dX5_mostBy_63 (lv_at hl 3 rfl) ?_
          have K_3 : ∀ (x_4 : Int32) (H : Heap) (locs : List Loc) (ls : Array Slot), x_4 = (if ((hrsF N q (upd sr wh (nI j))) (5 + 8 * i + 6)) ≤ (t) then t else ((hrsF N q (upd sr wh (nI j))) (5 + 8 * i + 6))) → va_P D vwCl (mw cy ad (upd sr wh (nI j)) kS ot (upd sr wh (nI j)) stt ik tp td fr tt vl wr bo so nu mv) H → va_S (mA ad) s0.heap H locs → lv_has ls 10 [(6, .int (x_2)), (9, .int ((hrsF N q (upd sr wh (nI j))) (5 + 8 * i + 6))), (8, .int (nI j)), (7, .int (t)), (5, .int (sr wh)), (0, .ref (ad 0)), (1, .int (nI wh)), (2, .int (nI g)), (3, .int (nI i)), (4, .int (nI q))] → W p l e (rmz 8 178) s0 m args below meth c H locs 0 0 Q (F0 m 75 ls [.int (x_4)]) := by
            intro x_4 H locs ls ex_4 hP hS hl
            refine lv_istore (lv' := [(7, .int (x_4)), (6, .int (x_2)), (9, .int ((hrsF N q (upd sr wh (nI j))) (5 + 8 * i + 6))), (8, .int (nI j)), (5, .int (sr wh)), (0, .ref (ad 0)), (1, .int (nI wh)), (2, .int (nI g)), (3, .int (nI i)), (4, .int (nI q))]) hx hb dX5_mostBy_75 hl (by decide) rfl (fun ls hl => ?_)
            refine lv_iinc (v := nI (j + 1)) (lv' := [(8, .int (nI (j + 1))), (7, .int (x_4)), (6, .int (x_2)), (9, .int ((hrsF N q (upd sr wh (nI j))) (5 + 8 * i + 6))), (5, .int (sr wh)), (0, .ref (ad 0)), (1, .int (nI wh)), (2, .int (nI g)), (3, .int (nI i)), (4, .int (nI q))]) hx hb dX5_mostBy_77 hl (k := 3) rfl (nI_add _ _) (by decide) rfl (fun ls hl => ?_)
            refine lv_goto (tgt := 17) hx hb dX5_mostBy_80 (by decide) ?_
            exact ih_17 (j + 1) _ _ _ _ _ _ ls (by omega) (fun _ => by rw [Nat.add_sub_cancel]) (by subst ex_2 ex_4; exact hF) hP hS (lv_sub hl [0, 1, 2, 4, 5, 6, 7, 8, 9] rfl)
          refine lv_icmp_le (tgt := 73) hx hb dX5_mostBy_65 (by decide) (fun c_65 => ?_) (fun c_65 => ?_)
          · skip
            refine lv_iload hx hb dX5_mostBy_73 (lv_at hl 3 rfl) ?_
            exact K_3 (t) _ _ ls (by simp only [if_pos c_65]) hP hS hl
          · skip
            refine lv_iload hx hb dX5_mostBy_68 (lv_at hl 1 rfl) ?_
            refine lv_goto (tgt := 75) hx hb dX5_mostBy_70 (by decide) ?_
            exact K_3 ((hrsF N q (upd sr wh (nI j))) (5 + 8 * i + 6)) _ _ ls (by simp only [if_neg c_65]) hP hS hl
        refine lv_icmp_le (tgt := 57) hx hb dX5_mostBy_49 (by decide) (fun c_49 => ?_) (fun c_49 => ?_)
        · skip
          refine lv_iload hx hb dX5_mostBy_57 (lv_at hl 3 rfl) ?_
          exact K_1 (b) _ _ ls (by simp only [if_pos c_49]) hP hS hl
        · skip
          refine lv_iload hx hb dX5_mostBy_52 (lv_at hl 1 rfl) ?_
          refine lv_goto (tgt := 59) hx hb dX5_mostBy_54 (by decide) ?_
          exact K_1 (nI j) _ _ ls (by simp only [if_neg c_49]) hP hS hl
  exact L_17 (g + 1) 0 (nI 0) (-1) (sr wh) asd _ _ ls (by omega) (fun h => absurd h (by decide)) rfl (by rw [upd_id]; exact hP) hS hl
theorem i_X5_mostBy : ciOk yX5_mostBy cX5_mostBy 10 (some .int) wsX5_mostBy 4 := ⟨⟨_, rfl⟩, by decide +kernel⟩
set_option maxHeartbeats 1000000 in
set_option maxRecDepth 100000 in
theorem c_X5_kind {l : Launch} {D : va_G} {cy : Nat → ClassId} {ad : Nat → Nat} {sr kS ot asd stt : Nat → Int32} {ik : Int32} {tp : Nat → Int32} {td fr tt vl wr : Int32} {bo so : Nat → Int32} {nu mv : Nat → Int64} {q : Int32} {n : Int32} {N : Nat} (hN : sr 0 = nI N) (h8 : N ≤ 8) : Met l yX5_kind wsX5_kind (rmz 9 207) (wPre D (mK D cy ad) (mw cy ad sr kS ot asd stt ik tp td fr tt vl wr bo so nu mv) [.ref (ad 0), .int (q), .int (n)]) (mPub D cy ad (some (.int (if isN N q ∧ rg 1 100 n then mostL N (5 + 8 * q.toNatClampNeg + 0) q.toNatClampNeg n.toNatClampNeg sr (5 + 1) 0 (nI 0) (-1) else -1000000001))) sr kS (if isN N q ∧ rg 1 100 n then stt else fnd stt 0) ik tp td bo so nu) 0 0 (mA ad) := by
  refine wq_entry rfl rfl (Nat.le_of_ble_eq_true rfl) ?_
  intro p e s0 m args below meth c S hr hlocks hK hP ls hl
  have S : CallFix p m c cX5_kind 3 s0 args wsX5_kind RX5 := S
  obtain ⟨hx, hb, hml, hown, hts⟩ := id S
  have hin : ∀ w ∈ wsX50, w ∈ wsX5_kind := fun w h => List.mem_cons_of_mem _ (List.mem_append_right _ h)
  have hS : va_S (mA ad) s0.heap s0.heap [] := va_S.rf
  have hl : lv_has ls 3 [(0, .ref (ad 0)), (1, .int (q)), (2, .int (n))] := hl
  generalize hQ : MQ below (mPub D cy ad (some (.int (if isN N q ∧ rg 1 100 n then mostL N (5 + 8 * q.toNatClampNeg + 0) q.toNatClampNeg n.toNatClampNeg sr (5 + 1) 0 (nI 0) (-1) else -1000000001))) sr kS (if isN N q ∧ rg 1 100 n then stt else fnd stt 0) ik tp td bo so nu) args s0 0 0 (mA ad) = Q
  refine lv_aload_n hx hb dX5_kind_0 rfl (lv_at hl 0 rfl) ?_
  refine lv_iload_n hx hb dX5_kind_1 rfl (lv_at hl 1 rfl) ?_
  refine wq_V S mK_ok hK hP hS (c_X5_isWalker hN h8) gX5_kind_X5_isWalker i_X5_isWalker rfl (m_rec hK hP) ⟨Nat.le_of_ble_eq_true rfl, Nat.le_of_ble_eq_true rfl⟩ rfl hl.1 (As := [.int (q)]) (rest := []) (st1 := [.int (z (isN N (q)))]) rfl rfl (Nat.le_of_ble_eq_true rfl) ⟨Nat.le_of_ble_eq_true rfl, Nat.le_of_ble_eq_true rfl⟩ dX5_kind_2 (fun H locs hP hS => ?_)
  refine lvz_if_eq (tgt := 30) hx hb dX5_kind_5 (by decide) (fun c_5 => ?_) (fun c_5 => ?_)
  · skip
    refine lv_aload_n hx hb dX5_kind_30 rfl (lv_at hl 0 rfl) ?_
    refine lv_ldc (v := (-1000000001)) hx hb hown (hts (.constant RX5 41 ((-1000000001))) (by decide +kernel)) dX5_kind_31 ?_
    refine wq_V S mK_ok hK hP hS (c_X5_finds (t := 0) (by decide)) gX5_kind_X5_finds i_X5_finds rfl (m_rec hK hP) ⟨Nat.le_of_ble_eq_true rfl, Nat.le_of_ble_eq_true rfl⟩ rfl hl.1 (As := [.int ((-1000000001))]) (rest := []) (st1 := [.int ((-1000000001))]) rfl rfl (Nat.le_of_ble_eq_true rfl) ⟨Nat.le_of_ble_eq_true rfl, Nat.le_of_ble_eq_true rfl⟩ dX5_kind_33 (fun H locs hP hS => ?_)
    subst hQ
    exact mp_ri hx hb hr hlocks hP hS dX5_kind_36 (by first | with_reducible rfl | (simp only [fnd, if_neg c_5]; done) | (simp only [fnd, c_5, Bool.false_eq_true, Bool.true_eq_false, and_true, true_and, false_and, and_false, and_self, not_true_eq_false, not_false_eq_true, if_true, if_false, reduceIte, or_false, false_or, true_or, or_true]; done) | (subst_vars; first | with_reducible rfl | (simp only [fnd, if_neg c_5]; done) | (simp only [fnd, c_5, Bool.false_eq_true, Bool.true_eq_false, and_true, true_and, false_and, and_false, and_self, not_true_eq_false, not_false_eq_true, if_true, if_false, reduceIte, or_false, false_or, true_or, or_true]; done)) | contradiction | rfl) (by first | with_reducible rfl | (simp only [fnd, if_neg c_5]; done) | (simp only [fnd, c_5, Bool.false_eq_true, Bool.true_eq_false, and_true, true_and, false_and, and_false, and_self, not_true_eq_false, not_false_eq_true, if_true, if_false, reduceIte, or_false, false_or, true_or, or_true]; done) | (subst_vars; first | with_reducible rfl | (simp only [fnd, if_neg c_5]; done) | (simp only [fnd, c_5, Bool.false_eq_true, Bool.true_eq_false, and_true, true_and, false_and, and_false, and_self, not_true_eq_false, not_false_eq_true, if_true, if_false, reduceIte, or_false, false_or, true_or, or_true]; done)) | contradiction | rfl)
  · skip
    refine lv_iload_n hx hb dX5_kind_8 rfl (lv_at hl 2 rfl) ?_
    refine sq_S S (c_X5_isFar) gX5_kind_X5_isFar i_X5_isFar ⟨Nat.le_of_ble_eq_true rfl, Nat.le_of_ble_eq_true rfl⟩ rfl hl.1 (As := [.int (n)]) (rest := []) (st1 := [.int (z (rg 1 100 (n)))]) rfl rfl (Nat.le_of_ble_eq_true rfl) ⟨Nat.le_of_ble_eq_true rfl, Nat.le_of_ble_eq_true rfl⟩ dX5_kind_9 ?_
    refine lvz_if_eq (tgt := 30) hx hb dX5_kind_12 (by decide) (fun c_12 => ?_) (fun c_12 => ?_)
    · skip
      refine lv_aload_n hx hb dX5_kind_30 rfl (lv_at hl 0 rfl) ?_
      refine lv_ldc (v := (-1000000001)) hx hb hown (hts (.constant RX5 41 ((-1000000001))) (by decide +kernel)) dX5_kind_31 ?_
      refine wq_V S mK_ok hK hP hS (c_X5_finds (t := 0) (by decide)) gX5_kind_X5_finds i_X5_finds rfl (m_rec hK hP) ⟨Nat.le_of_ble_eq_true rfl, Nat.le_of_ble_eq_true rfl⟩ rfl hl.1 (As := [.int ((-1000000001))]) (rest := []) (st1 := [.int ((-1000000001))]) rfl rfl (Nat.le_of_ble_eq_true rfl) ⟨Nat.le_of_ble_eq_true rfl, Nat.le_of_ble_eq_true rfl⟩ dX5_kind_33 (fun H locs hP hS => ?_)
      subst hQ
      exact mp_ri hx hb hr hlocks hP hS dX5_kind_36 (by first | with_reducible rfl | (simp only [fnd, if_pos c_5, if_neg c_12]; done) | (simp only [fnd, c_5, c_12, Bool.false_eq_true, Bool.true_eq_false, and_true, true_and, false_and, and_false, and_self, not_true_eq_false, not_false_eq_true, if_true, if_false, reduceIte, or_false, false_or, true_or, or_true]; done) | (subst_vars; first | with_reducible rfl | (simp only [fnd, if_pos c_5, if_neg c_12]; done) | (simp only [fnd, c_5, c_12, Bool.false_eq_true, Bool.true_eq_false, and_true, true_and, false_and, and_false, and_self, not_true_eq_false, not_false_eq_true, if_true, if_false, reduceIte, or_false, false_or, true_or, or_true]; done)) | contradiction | rfl) (by first | with_reducible rfl | (simp only [fnd, if_pos c_5, if_neg c_12]; done) | (simp only [fnd, c_5, c_12, Bool.false_eq_true, Bool.true_eq_false, and_true, true_and, false_and, and_false, and_self, not_true_eq_false, not_false_eq_true, if_true, if_false, reduceIte, or_false, false_or, true_or, or_true]; done) | (subst_vars; first | with_reducible rfl | (simp only [fnd, if_pos c_5, if_neg c_12]; done) | (simp only [fnd, c_5, c_12, Bool.false_eq_true, Bool.true_eq_false, and_true, true_and, false_and, and_false, and_self, not_true_eq_false, not_false_eq_true, if_true, if_false, reduceIte, or_false, false_or, true_or, or_true]; done)) | contradiction | rfl)
    · skip
      obtain ⟨i, h_i, rfl⟩ := isN_ix h8 c_5
      have hcl_i : (nI i).toNatClampNeg = i := nI_clamp (by omega)
      obtain ⟨h, h_h, h_h2, rfl⟩ := rg_ix (a := 1) (b := 100) (by decide) c_12
      have hcl_h : (nI h).toNatClampNeg = h := nI_clamp (by omega)
      refine lv_aload_n hx hb dX5_kind_15 rfl (lv_at hl 0 rfl) ?_
      refine lv_iload_n hx hb dX5_kind_16 rfl (lv_at hl 1 rfl) ?_
      refine lv_iconst (v := nI 0) hx hb dX5_kind_17 (by decide) ?_
      refine sq_S S (c_X5_spotOf) gX5_kind_X5_spotOf i_X5_spotOf ⟨Nat.le_of_ble_eq_true rfl, Nat.le_of_ble_eq_true rfl⟩ rfl hl.1 (As := [.int (nI i), .int (nI 0)]) (rest := [.ref (ad 0)]) (st1 := [.int (nI (5 + 8 * i + 0)), .ref (ad 0)]) rfl rfl (Nat.le_of_ble_eq_true rfl) ⟨Nat.le_of_ble_eq_true rfl, Nat.le_of_ble_eq_true rfl⟩ dX5_kind_18 ?_
      refine lv_iconst (v := nI 5) hx hb dX5_kind_21 (by decide) ?_
      refine lv_iload_n hx hb dX5_kind_22 rfl (lv_at hl 1 rfl) ?_
      refine lv_iload_n hx hb dX5_kind_23 rfl (lv_at hl 2 rfl) ?_
      refine wq_V S mK_ok hK hP hS (c_X5_mostBy hN h8 (by omega) (by omega) (by omega) (by omega) (by omega)) gX5_kind_X5_mostBy i_X5_mostBy rfl (m_rec hK hP) ⟨Nat.le_of_ble_eq_true rfl, Nat.le_of_ble_eq_true rfl⟩ rfl hl.1 (As := [.int (nI (5 + 8 * i + 0)), .int (nI 5), .int (nI i), .int (nI h)]) (rest := []) (st1 := [.int (mostL N (5 + 8 * i + 0) i h sr (5 + 1) 0 (nI 0) (-1))]) rfl rfl (Nat.le_of_ble_eq_true rfl) ⟨Nat.le_of_ble_eq_true rfl, Nat.le_of_ble_eq_true rfl⟩ dX5_kind_24 (fun H locs hP hS => ?_)
      refine lv_goto (tgt := 36) hx hb dX5_kind_27 (by decide) ?_
      subst hQ
      exact mp_ri hx hb hr hlocks hP hS dX5_kind_36 (by first | with_reducible rfl | (simp only [fnd, if_pos c_5, if_pos c_12]; done) | (simp only [fnd, hcl_i, hcl_h, c_5, c_12, Bool.false_eq_true, Bool.true_eq_false, and_true, true_and, false_and, and_false, and_self, not_true_eq_false, not_false_eq_true, if_true, if_false, reduceIte, or_false, false_or, true_or, or_true]; done) | (subst_vars; first | with_reducible rfl | (simp only [fnd, if_pos c_5, if_pos c_12]; done) | (simp only [fnd, hcl_i, hcl_h, c_5, c_12, Bool.false_eq_true, Bool.true_eq_false, and_true, true_and, false_and, and_false, and_self, not_true_eq_false, not_false_eq_true, if_true, if_false, reduceIte, or_false, false_or, true_or, or_true]; done)) | contradiction | rfl) (by first | with_reducible rfl | (simp only [fnd, if_pos c_5, if_pos c_12]; done) | (simp only [fnd, hcl_i, hcl_h, c_5, c_12, Bool.false_eq_true, Bool.true_eq_false, and_true, true_and, false_and, and_false, and_self, not_true_eq_false, not_false_eq_true, if_true, if_false, reduceIte, or_false, false_or, true_or, or_true]; done) | (subst_vars; first | with_reducible rfl | (simp only [fnd, if_pos c_5, if_pos c_12]; done) | (simp only [fnd, hcl_i, hcl_h, c_5, c_12, Bool.false_eq_true, Bool.true_eq_false, and_true, true_and, false_and, and_false, and_self, not_true_eq_false, not_false_eq_true, if_true, if_false, reduceIte, or_false, false_or, true_or, or_true]; done)) | contradiction | rfl)
theorem i_X5_kind : ciOk yX5_kind cX5_kind 3 (some .int) wsX5_kind 2 := ⟨⟨_, rfl⟩, by decide +kernel⟩
set_option maxHeartbeats 1000000 in
set_option maxRecDepth 100000 in
theorem c_X5_begin {l : Launch} {D : va_G} {cy : Nat → ClassId} {ad : Nat → Nat} {sr kS ot asd stt : Nat → Int32} {ik : Int32} {tp : Nat → Int32} {td fr tt vl wr : Int32} {bo so : Nat → Int32} {nu mv : Nat → Int64} {q : Int32} {n : Int32} {N : Nat} (hN : sr 0 = nI N) (h8 : N ≤ 8) : Met l yX5_begin wsX5_begin (rmz 9 207) (wPre D (mK D cy ad) (mw cy ad sr kS ot asd stt ik tp td fr tt vl wr bo so nu mv) [.ref (ad 0), .int (q), .int (n)]) (mPub D cy ad (some (.int (if isN N q ∧ rg 1 100 n then mostL N (5 + 8 * q.toNatClampNeg + 1) q.toNatClampNeg n.toNatClampNeg (upd sr (5 + 8 * q.toNatClampNeg + 5) (nI 0)) (12 + 1) 0 (nI 0) (-1) else -1000000001))) sr kS (if isN N q ∧ rg 1 100 n then stt else fnd stt 0) ik tp td bo so nu) 0 0 (mA ad) := by
  refine wq_entry rfl rfl (Nat.le_of_ble_eq_true rfl) ?_
  intro p e s0 m args below meth c S hr hlocks hK hP ls hl
  have S : CallFix p m c cX5_begin 5 s0 args wsX5_begin RX5 := S
  obtain ⟨hx, hb, hml, hown, hts⟩ := id S
  have hin : ∀ w ∈ wsX50, w ∈ wsX5_begin := fun w h => List.mem_cons_of_mem _ (List.mem_append_right _ h)
  have hS : va_S (mA ad) s0.heap s0.heap [] := va_S.rf
  have hl : lv_has ls 5 [(0, .ref (ad 0)), (1, .int (q)), (2, .int (n))] := hl
  generalize hQ : MQ below (mPub D cy ad (some (.int (if isN N q ∧ rg 1 100 n then mostL N (5 + 8 * q.toNatClampNeg + 1) q.toNatClampNeg n.toNatClampNeg (upd sr (5 + 8 * q.toNatClampNeg + 5) (nI 0)) (12 + 1) 0 (nI 0) (-1) else -1000000001))) sr kS (if isN N q ∧ rg 1 100 n then stt else fnd stt 0) ik tp td bo so nu) args s0 0 0 (mA ad) = Q
  refine lv_aload_n hx hb dX5_begin_0 rfl (lv_at hl 0 rfl) ?_
  refine lv_iload_n hx hb dX5_begin_1 rfl (lv_at hl 1 rfl) ?_
  refine wq_V S mK_ok hK hP hS (c_X5_isWalker hN h8) gX5_begin_X5_isWalker i_X5_isWalker rfl (m_rec hK hP) ⟨Nat.le_of_ble_eq_true rfl, Nat.le_of_ble_eq_true rfl⟩ rfl hl.1 (As := [.int (q)]) (rest := []) (st1 := [.int (z (isN N (q)))]) rfl rfl (Nat.le_of_ble_eq_true rfl) ⟨Nat.le_of_ble_eq_true rfl, Nat.le_of_ble_eq_true rfl⟩ dX5_begin_2 (fun H locs hP hS => ?_)
  refine lvz_if_eq (tgt := 15) hx hb dX5_begin_5 (by decide) (fun c_5 => ?_) (fun c_5 => ?_)
  · skip
    refine lv_aload_n hx hb dX5_begin_15 rfl (lv_at hl 0 rfl) ?_
    refine lv_ldc (v := (-1000000001)) hx hb hown (hts (.constant RX5 41 ((-1000000001))) (by decide +kernel)) dX5_begin_16 ?_
    refine wq_V S mK_ok hK hP hS (c_X5_finds (t := 0) (by decide)) gX5_begin_X5_finds i_X5_finds rfl (m_rec hK hP) ⟨Nat.le_of_ble_eq_true rfl, Nat.le_of_ble_eq_true rfl⟩ rfl hl.1 (As := [.int ((-1000000001))]) (rest := []) (st1 := [.int ((-1000000001))]) rfl rfl (Nat.le_of_ble_eq_true rfl) ⟨Nat.le_of_ble_eq_true rfl, Nat.le_of_ble_eq_true rfl⟩ dX5_begin_18 (fun H locs hP hS => ?_)
    subst hQ
    exact mp_ri hx hb hr hlocks hP hS dX5_begin_21 (by first | with_reducible rfl | (simp only [fnd, if_neg c_5]; done) | (simp only [fnd, c_5, Bool.false_eq_true, Bool.true_eq_false, and_true, true_and, false_and, and_false, and_self, not_true_eq_false, not_false_eq_true, if_true, if_false, reduceIte, or_false, false_or, true_or, or_true]; done) | (subst_vars; first | with_reducible rfl | (simp only [fnd, if_neg c_5]; done) | (simp only [fnd, c_5, Bool.false_eq_true, Bool.true_eq_false, and_true, true_and, false_and, and_false, and_self, not_true_eq_false, not_false_eq_true, if_true, if_false, reduceIte, or_false, false_or, true_or, or_true]; done)) | contradiction | rfl) (by first | with_reducible rfl | (simp only [fnd, if_neg c_5]; done) | (simp only [fnd, c_5, Bool.false_eq_true, Bool.true_eq_false, and_true, true_and, false_and, and_false, and_self, not_true_eq_false, not_false_eq_true, if_true, if_false, reduceIte, or_false, false_or, true_or, or_true]; done) | (subst_vars; first | with_reducible rfl | (simp only [fnd, if_neg c_5]; done) | (simp only [fnd, c_5, Bool.false_eq_true, Bool.true_eq_false, and_true, true_and, false_and, and_false, and_self, not_true_eq_false, not_false_eq_true, if_true, if_false, reduceIte, or_false, false_or, true_or, or_true]; done)) | contradiction | rfl)
  · skip
    refine lv_iload_n hx hb dX5_begin_8 rfl (lv_at hl 2 rfl) ?_
    refine sq_S S (c_X5_isFar) gX5_begin_X5_isFar i_X5_isFar ⟨Nat.le_of_ble_eq_true rfl, Nat.le_of_ble_eq_true rfl⟩ rfl hl.1 (As := [.int (n)]) (rest := []) (st1 := [.int (z (rg 1 100 (n)))]) rfl rfl (Nat.le_of_ble_eq_true rfl) ⟨Nat.le_of_ble_eq_true rfl, Nat.le_of_ble_eq_true rfl⟩ dX5_begin_9 ?_
    refine lvz_if_ne (tgt := 22) hx hb dX5_begin_12 (by decide) (fun c_12 => ?_) (fun c_12 => ?_)
    · skip
      obtain ⟨i, h_i, rfl⟩ := isN_ix h8 c_5
      have hcl_i : (nI i).toNatClampNeg = i := nI_clamp (by omega)
      obtain ⟨h, h_h, h_h2, rfl⟩ := rg_ix (a := 1) (b := 100) (by decide) c_12
      have hcl_h : (nI h).toNatClampNeg = h := nI_clamp (by omega)
      refine lv_aload_n hx hb dX5_begin_22 rfl (lv_at hl 0 rfl) ?_
      refine lv_iload_n hx hb dX5_begin_23 rfl (lv_at hl 1 rfl) ?_
      refine lv_iconst (v := nI 5) hx hb dX5_begin_24 (by decide) ?_
      refine sq_S S (c_X5_spotOf) gX5_begin_X5_spotOf i_X5_spotOf ⟨Nat.le_of_ble_eq_true rfl, Nat.le_of_ble_eq_true rfl⟩ rfl hl.1 (As := [.int (nI i), .int (nI 5)]) (rest := [.ref (ad 0)]) (st1 := [.int (nI (5 + 8 * i + 5)), .ref (ad 0)]) rfl rfl (Nat.le_of_ble_eq_true rfl) ⟨Nat.le_of_ble_eq_true rfl, Nat.le_of_ble_eq_true rfl⟩ dX5_begin_25 ?_
      refine lv_iconst (v := nI 0) hx hb dX5_begin_28 (by decide) ?_
      refine wq_V S mK_ok hK hP hS (c_X5_becomes (by omega)) gX5_begin_X5_becomes i_X5_becomes rfl (m_rec hK hP) ⟨Nat.le_of_ble_eq_true rfl, Nat.le_of_ble_eq_true rfl⟩ rfl hl.1 (As := [.int (nI (5 + 8 * i + 5)), .int (nI 0)]) (rest := []) (st1 := [.int (sr (5 + 8 * i + 5))]) rfl rfl (Nat.le_of_ble_eq_true rfl) ⟨Nat.le_of_ble_eq_true rfl, Nat.le_of_ble_eq_true rfl⟩ dX5_begin_29 (fun H locs hP hS => ?_)
      refine lv_istore_n (lv' := [(3, .int (sr (5 + 8 * i + 5))), (0, .ref (ad 0)), (1, .int (nI i)), (2, .int (nI h))]) hx hb dX5_begin_32 rfl hl (by decide) rfl (fun ls hl => ?_)
      refine lv_aload_n hx hb dX5_begin_33 rfl (lv_at hl 1 rfl) ?_
      refine lv_iload_n hx hb dX5_begin_34 rfl (lv_at hl 2 rfl) ?_
      refine lv_iconst (v := nI 1) hx hb dX5_begin_35 (by decide) ?_
      refine sq_S S (c_X5_spotOf) gX5_begin_X5_spotOf i_X5_spotOf ⟨Nat.le_of_ble_eq_true rfl, Nat.le_of_ble_eq_true rfl⟩ rfl hl.1 (As := [.int (nI i), .int (nI 1)]) (rest := [.ref (ad 0)]) (st1 := [.int (nI (5 + 8 * i + 1)), .ref (ad 0)]) rfl rfl (Nat.le_of_ble_eq_true rfl) ⟨Nat.le_of_ble_eq_true rfl, Nat.le_of_ble_eq_true rfl⟩ dX5_begin_36 ?_
      refine lv_bipush (v := nI 12) hx hb dX5_begin_39 (by decide) ?_
      refine lv_iload_n hx hb dX5_begin_41 rfl (lv_at hl 2 rfl) ?_
      refine lv_iload_n hx hb dX5_begin_42 rfl (lv_at hl 3 rfl) ?_
      refine wq_V S mK_ok hK hP hS (c_X5_mostBy ((upd_0 (by omega)).trans hN) h8 (by omega) (by omega) (by omega) (by omega) (by omega)) gX5_begin_X5_mostBy i_X5_mostBy rfl (m_rec hK hP) ⟨Nat.le_of_ble_eq_true rfl, Nat.le_of_ble_eq_true rfl⟩ rfl hl.1 (As := [.int (nI (5 + 8 * i + 1)), .int (nI 12), .int (nI i), .int (nI h)]) (rest := []) (st1 := [.int (mostL N (5 + 8 * i + 1) i h (upd sr (5 + 8 * i + 5) (nI 0)) (12 + 1) 0 (nI 0) (-1))]) rfl rfl (Nat.le_of_ble_eq_true rfl) ⟨Nat.le_of_ble_eq_true rfl, Nat.le_of_ble_eq_true rfl⟩ dX5_begin_43 (fun H locs hP hS => ?_)
      refine lv_istore (lv' := [(4, .int (mostL N (5 + 8 * i + 1) i h (upd sr (5 + 8 * i + 5) (nI 0)) (12 + 1) 0 (nI 0) (-1))), (3, .int (sr (5 + 8 * i + 5))), (0, .ref (ad 0)), (1, .int (nI i)), (2, .int (nI h))]) hx hb dX5_begin_46 hl (by decide) rfl (fun ls hl => ?_)
      refine lv_aload_n hx hb dX5_begin_48 rfl (lv_at hl 2 rfl) ?_
      refine m_get hx hb hts hin hown hK hP 0 (by decide) (hts (.fieldLink RX5 7 "PennyRoadModel" "s" "[I") (by decide +kernel)) rfl dX5_begin_49 ?_
      refine lv_iload_n hx hb dX5_begin_52 rfl (lv_at hl 3 rfl) ?_
      refine lv_iconst (v := nI 5) hx hb dX5_begin_53 (by decide) ?_
      refine sq_S S (c_X5_spotOf) gX5_begin_X5_spotOf i_X5_spotOf ⟨Nat.le_of_ble_eq_true rfl, Nat.le_of_ble_eq_true rfl⟩ rfl hl.1 (As := [.int (nI i), .int (nI 5)]) (rest := [.ref (ad 1)]) (st1 := [.int (nI (5 + 8 * i + 5)), .ref (ad 1)]) rfl rfl (Nat.le_of_ble_eq_true rfl) ⟨Nat.le_of_ble_eq_true rfl, Nat.le_of_ble_eq_true rfl⟩ dX5_begin_54 ?_
      refine lv_iload_n hx hb dX5_begin_57 rfl (lv_at hl 1 rfl) ?_
      refine m_ast (w' := (mw cy ad (upd (upd sr (5 + 8 * i + 5) (nI 0)) (5 + 8 * i + 5) (sr (5 + 8 * i + 5))) kS ot (upd (upd sr (5 + 8 * i + 5) (nI 0)) (5 + 8 * i + 1) (nI 12)) stt ik tp td fr tt vl wr bo so nu mv)) hx hb hK hP hS 1 rfl (by decide) (by omega) rfl dX5_begin_58 (fun H locs hP hS => ?_)
      rw [upd_back] at hP
      refine lv_iload hx hb dX5_begin_59 (lv_at hl 0 rfl) ?_
      subst hQ
      exact mp_ri hx hb hr hlocks hP hS dX5_begin_61 (by first | with_reducible rfl | (simp only [fnd, if_pos c_5, if_pos c_12]; done) | (simp only [fnd, hcl_i, hcl_h, c_5, c_12, Bool.false_eq_true, Bool.true_eq_false, and_true, true_and, false_and, and_false, and_self, not_true_eq_false, not_false_eq_true, if_true, if_false, reduceIte, or_false, false_or, true_or, or_true]; done) | (subst_vars; first | with_reducible rfl | (simp only [fnd, if_pos c_5, if_pos c_12]; done) | (simp only [fnd, hcl_i, hcl_h, c_5, c_12, Bool.false_eq_true, Bool.true_eq_false, and_true, true_and, false_and, and_false, and_self, not_true_eq_false, not_false_eq_true, if_true, if_false, reduceIte, or_false, false_or, true_or, or_true]; done)) | contradiction | rfl) (by first | with_reducible rfl | (simp only [fnd, if_pos c_5, if_pos c_12]; done) | (simp only [fnd, hcl_i, hcl_h, c_5, c_12, Bool.false_eq_true, Bool.true_eq_false, and_true, true_and, false_and, and_false, and_self, not_true_eq_false, not_false_eq_true, if_true, if_false, reduceIte, or_false, false_or, true_or, or_true]; done) | (subst_vars; first | with_reducible rfl | (simp only [fnd, if_pos c_5, if_pos c_12]; done) | (simp only [fnd, hcl_i, hcl_h, c_5, c_12, Bool.false_eq_true, Bool.true_eq_false, and_true, true_and, false_and, and_false, and_self, not_true_eq_false, not_false_eq_true, if_true, if_false, reduceIte, or_false, false_or, true_or, or_true]; done)) | contradiction | rfl)
    · skip
      refine lv_aload_n hx hb dX5_begin_15 rfl (lv_at hl 0 rfl) ?_
      refine lv_ldc (v := (-1000000001)) hx hb hown (hts (.constant RX5 41 ((-1000000001))) (by decide +kernel)) dX5_begin_16 ?_
      refine wq_V S mK_ok hK hP hS (c_X5_finds (t := 0) (by decide)) gX5_begin_X5_finds i_X5_finds rfl (m_rec hK hP) ⟨Nat.le_of_ble_eq_true rfl, Nat.le_of_ble_eq_true rfl⟩ rfl hl.1 (As := [.int ((-1000000001))]) (rest := []) (st1 := [.int ((-1000000001))]) rfl rfl (Nat.le_of_ble_eq_true rfl) ⟨Nat.le_of_ble_eq_true rfl, Nat.le_of_ble_eq_true rfl⟩ dX5_begin_18 (fun H locs hP hS => ?_)
      subst hQ
      exact mp_ri hx hb hr hlocks hP hS dX5_begin_21 (by first | with_reducible rfl | (simp only [fnd, if_pos c_5, if_neg c_12]; done) | (simp only [fnd, c_5, c_12, Bool.false_eq_true, Bool.true_eq_false, and_true, true_and, false_and, and_false, and_self, not_true_eq_false, not_false_eq_true, if_true, if_false, reduceIte, or_false, false_or, true_or, or_true]; done) | (subst_vars; first | with_reducible rfl | (simp only [fnd, if_pos c_5, if_neg c_12]; done) | (simp only [fnd, c_5, c_12, Bool.false_eq_true, Bool.true_eq_false, and_true, true_and, false_and, and_false, and_self, not_true_eq_false, not_false_eq_true, if_true, if_false, reduceIte, or_false, false_or, true_or, or_true]; done)) | contradiction | rfl) (by first | with_reducible rfl | (simp only [fnd, if_pos c_5, if_neg c_12]; done) | (simp only [fnd, c_5, c_12, Bool.false_eq_true, Bool.true_eq_false, and_true, true_and, false_and, and_false, and_self, not_true_eq_false, not_false_eq_true, if_true, if_false, reduceIte, or_false, false_or, true_or, or_true]; done) | (subst_vars; first | with_reducible rfl | (simp only [fnd, if_pos c_5, if_neg c_12]; done) | (simp only [fnd, c_5, c_12, Bool.false_eq_true, Bool.true_eq_false, and_true, true_and, false_and, and_false, and_self, not_true_eq_false, not_false_eq_true, if_true, if_false, reduceIte, or_false, false_or, true_or, or_true]; done)) | contradiction | rfl)
theorem i_X5_begin : ciOk yX5_begin cX5_begin 5 (some .int) wsX5_begin 2 := ⟨⟨_, rfl⟩, by decide +kernel⟩
set_option maxHeartbeats 1000000 in
set_option maxRecDepth 100000 in
theorem c_X5_rival {l : Launch} {D : va_G} {cy : Nat → ClassId} {ad : Nat → Nat} {sr kS ot asd stt : Nat → Int32} {ik : Int32} {tp : Nat → Int32} {td fr tt vl wr : Int32} {bo so : Nat → Int32} {nu mv : Nat → Int64} {q : Int32} {o : Int32} {n : Int32} {N : Nat} (hN : sr 0 = nI N) (h8 : N ≤ 8) : Met l yX5_rival wsX5_rival (rmz 8 178) (wPre D (mK D cy ad) (mw cy ad sr kS ot asd stt ik tp td fr tt vl wr bo so nu mv) [.ref (ad 0), .int (q), .int (o), .int (n)]) (mPub D cy ad (some (.int (if twoP N q o ∧ rg 1 100 n then hrsF N n.toNatClampNeg (upd sr (5 + 8 * o.toNatClampNeg + 7) (nI 1)) (5 + 8 * q.toNatClampNeg + 6) - hrsF N n.toNatClampNeg sr (5 + 8 * q.toNatClampNeg + 6) else -1000000001))) sr kS (if twoP N q o ∧ rg 1 100 n then stt else fnd stt 0) ik tp td bo so nu) 0 0 (mA ad) := by
  refine wq_entry rfl rfl (Nat.le_of_ble_eq_true rfl) ?_
  intro p e s0 m args below meth c S hr hlocks hK hP ls hl
  have S : CallFix p m c cX5_rival 7 s0 args wsX5_rival RX5 := S
  obtain ⟨hx, hb, hml, hown, hts⟩ := id S
  have hin : ∀ w ∈ wsX50, w ∈ wsX5_rival := fun w h => List.mem_cons_of_mem _ (List.mem_append_right _ h)
  have hS : va_S (mA ad) s0.heap s0.heap [] := va_S.rf
  have hl : lv_has ls 7 [(0, .ref (ad 0)), (1, .int (q)), (2, .int (o)), (3, .int (n))] := hl
  generalize hQ : MQ below (mPub D cy ad (some (.int (if twoP N q o ∧ rg 1 100 n then hrsF N n.toNatClampNeg (upd sr (5 + 8 * o.toNatClampNeg + 7) (nI 1)) (5 + 8 * q.toNatClampNeg + 6) - hrsF N n.toNatClampNeg sr (5 + 8 * q.toNatClampNeg + 6) else -1000000001))) sr kS (if twoP N q o ∧ rg 1 100 n then stt else fnd stt 0) ik tp td bo so nu) args s0 0 0 (mA ad) = Q
  refine lv_aload_n hx hb dX5_rival_0 rfl (lv_at hl 0 rfl) ?_
  refine lv_iload_n hx hb dX5_rival_1 rfl (lv_at hl 1 rfl) ?_
  refine lv_iload_n hx hb dX5_rival_2 rfl (lv_at hl 2 rfl) ?_
  refine wq_V S mK_ok hK hP hS (c_X5_areTwo hN h8) gX5_rival_X5_areTwo i_X5_areTwo rfl (m_rec hK hP) ⟨Nat.le_of_ble_eq_true rfl, Nat.le_of_ble_eq_true rfl⟩ rfl hl.1 (As := [.int (q), .int (o)]) (rest := []) (st1 := [.int (z (twoP N (q) (o)))]) rfl rfl (Nat.le_of_ble_eq_true rfl) ⟨Nat.le_of_ble_eq_true rfl, Nat.le_of_ble_eq_true rfl⟩ dX5_rival_3 (fun H locs hP hS => ?_)
  refine lvz_if_eq (tgt := 16) hx hb dX5_rival_6 (by decide) (fun c_6 => ?_) (fun c_6 => ?_)
  · skip
    refine lv_aload_n hx hb dX5_rival_16 rfl (lv_at hl 0 rfl) ?_
    refine lv_ldc (v := (-1000000001)) hx hb hown (hts (.constant RX5 41 ((-1000000001))) (by decide +kernel)) dX5_rival_17 ?_
    refine wq_V S mK_ok hK hP hS (c_X5_finds (t := 0) (by decide)) gX5_rival_X5_finds i_X5_finds rfl (m_rec hK hP) ⟨Nat.le_of_ble_eq_true rfl, Nat.le_of_ble_eq_true rfl⟩ rfl hl.1 (As := [.int ((-1000000001))]) (rest := []) (st1 := [.int ((-1000000001))]) rfl rfl (Nat.le_of_ble_eq_true rfl) ⟨Nat.le_of_ble_eq_true rfl, Nat.le_of_ble_eq_true rfl⟩ dX5_rival_19 (fun H locs hP hS => ?_)
    subst hQ
    exact mp_ri hx hb hr hlocks hP hS dX5_rival_22 (by first | with_reducible rfl | (simp only [fnd, if_neg c_6]; done) | (simp only [fnd, c_6, Bool.false_eq_true, Bool.true_eq_false, and_true, true_and, false_and, and_false, and_self, not_true_eq_false, not_false_eq_true, if_true, if_false, reduceIte, or_false, false_or, true_or, or_true]; done) | (subst_vars; first | with_reducible rfl | (simp only [fnd, if_neg c_6]; done) | (simp only [fnd, c_6, Bool.false_eq_true, Bool.true_eq_false, and_true, true_and, false_and, and_false, and_self, not_true_eq_false, not_false_eq_true, if_true, if_false, reduceIte, or_false, false_or, true_or, or_true]; done)) | contradiction | rfl) (by first | with_reducible rfl | (simp only [fnd, if_neg c_6]; done) | (simp only [fnd, c_6, Bool.false_eq_true, Bool.true_eq_false, and_true, true_and, false_and, and_false, and_self, not_true_eq_false, not_false_eq_true, if_true, if_false, reduceIte, or_false, false_or, true_or, or_true]; done) | (subst_vars; first | with_reducible rfl | (simp only [fnd, if_neg c_6]; done) | (simp only [fnd, c_6, Bool.false_eq_true, Bool.true_eq_false, and_true, true_and, false_and, and_false, and_self, not_true_eq_false, not_false_eq_true, if_true, if_false, reduceIte, or_false, false_or, true_or, or_true]; done)) | contradiction | rfl)
  · skip
    refine lv_iload_n hx hb dX5_rival_9 rfl (lv_at hl 3 rfl) ?_
    refine sq_S S (c_X5_isFar) gX5_rival_X5_isFar i_X5_isFar ⟨Nat.le_of_ble_eq_true rfl, Nat.le_of_ble_eq_true rfl⟩ rfl hl.1 (As := [.int (n)]) (rest := []) (st1 := [.int (z (rg 1 100 (n)))]) rfl rfl (Nat.le_of_ble_eq_true rfl) ⟨Nat.le_of_ble_eq_true rfl, Nat.le_of_ble_eq_true rfl⟩ dX5_rival_10 ?_
    refine lvz_if_ne (tgt := 23) hx hb dX5_rival_13 (by decide) (fun c_13 => ?_) (fun c_13 => ?_)
    · skip
      have hcq : isN N q = true := (twoP_sp c_6).1
      have hco : isN N o = true := (twoP_sp c_6).2.1
      have hne : ¬ q = o := (twoP_sp c_6).2.2
      obtain ⟨i, h_i, rfl⟩ := isN_ix h8 hcq
      have hcl_i : (nI i).toNatClampNeg = i := nI_clamp (by omega)
      obtain ⟨k, h_k, rfl⟩ := isN_ix h8 hco
      have hcl_k : (nI k).toNatClampNeg = k := nI_clamp (by omega)
      obtain ⟨h, h_h, h_h2, rfl⟩ := rg_ix (a := 1) (b := 100) (by decide) c_13
      have hcl_h : (nI h).toNatClampNeg = h := nI_clamp (by omega)
      refine lv_aload_n hx hb dX5_rival_23 rfl (lv_at hl 0 rfl) ?_
      refine lv_iload_n hx hb dX5_rival_24 rfl (lv_at hl 1 rfl) ?_
      refine lv_bipush (v := nI 6) hx hb dX5_rival_25 (by decide) ?_
      refine sq_S S (c_X5_spotOf) gX5_rival_X5_spotOf i_X5_spotOf ⟨Nat.le_of_ble_eq_true rfl, Nat.le_of_ble_eq_true rfl⟩ rfl hl.1 (As := [.int (nI i), .int (nI 6)]) (rest := [.ref (ad 0)]) (st1 := [.int (nI (5 + 8 * i + 6)), .ref (ad 0)]) rfl rfl (Nat.le_of_ble_eq_true rfl) ⟨Nat.le_of_ble_eq_true rfl, Nat.le_of_ble_eq_true rfl⟩ dX5_rival_27 ?_
      refine lv_iload_n hx hb dX5_rival_30 rfl (lv_at hl 3 rfl) ?_
      refine wq_V S mK_ok hK hP hS (c_X5_behind hN h8 (by omega) (by omega)) gX5_rival_X5_behind i_X5_behind rfl (m_rec hK hP) ⟨Nat.le_of_ble_eq_true rfl, Nat.le_of_ble_eq_true rfl⟩ rfl hl.1 (As := [.int (nI (5 + 8 * i + 6)), .int (nI h)]) (rest := []) (st1 := [.int ((hrsF N h sr) (5 + 8 * i + 6))]) rfl rfl (Nat.le_of_ble_eq_true rfl) ⟨Nat.le_of_ble_eq_true rfl, Nat.le_of_ble_eq_true rfl⟩ dX5_rival_31 (fun H locs hP hS => ?_)
      refine lv_istore (lv' := [(4, .int ((hrsF N h sr) (5 + 8 * i + 6))), (0, .ref (ad 0)), (1, .int (nI i)), (2, .int (nI k)), (3, .int (nI h))]) hx hb dX5_rival_34 hl (by decide) rfl (fun ls hl => ?_)
      refine lv_aload_n hx hb dX5_rival_36 rfl (lv_at hl 1 rfl) ?_
      refine lv_iload_n hx hb dX5_rival_37 rfl (lv_at hl 3 rfl) ?_
      refine lv_bipush (v := nI 7) hx hb dX5_rival_38 (by decide) ?_
      refine sq_S S (c_X5_spotOf) gX5_rival_X5_spotOf i_X5_spotOf ⟨Nat.le_of_ble_eq_true rfl, Nat.le_of_ble_eq_true rfl⟩ rfl hl.1 (As := [.int (nI k), .int (nI 7)]) (rest := [.ref (ad 0)]) (st1 := [.int (nI (5 + 8 * k + 7)), .ref (ad 0)]) rfl rfl (Nat.le_of_ble_eq_true rfl) ⟨Nat.le_of_ble_eq_true rfl, Nat.le_of_ble_eq_true rfl⟩ dX5_rival_40 ?_
      refine lv_iconst (v := nI 1) hx hb dX5_rival_43 (by decide) ?_
      refine wq_V S mK_ok hK hP hS (c_X5_becomes (by omega)) gX5_rival_X5_becomes i_X5_becomes rfl (m_rec hK hP) ⟨Nat.le_of_ble_eq_true rfl, Nat.le_of_ble_eq_true rfl⟩ rfl hl.1 (As := [.int (nI (5 + 8 * k + 7)), .int (nI 1)]) (rest := []) (st1 := [.int (sr (5 + 8 * k + 7))]) rfl rfl (Nat.le_of_ble_eq_true rfl) ⟨Nat.le_of_ble_eq_true rfl, Nat.le_of_ble_eq_true rfl⟩ dX5_rival_44 (fun H locs hP hS => ?_)
      refine lv_istore (lv' := [(5, .int (sr (5 + 8 * k + 7))), (4, .int ((hrsF N h sr) (5 + 8 * i + 6))), (0, .ref (ad 0)), (1, .int (nI i)), (2, .int (nI k)), (3, .int (nI h))]) hx hb dX5_rival_47 hl (by decide) rfl (fun ls hl => ?_)
      refine lv_aload_n hx hb dX5_rival_49 rfl (lv_at hl 2 rfl) ?_
      refine lv_iload_n hx hb dX5_rival_50 rfl (lv_at hl 3 rfl) ?_
      refine lv_bipush (v := nI 6) hx hb dX5_rival_51 (by decide) ?_
      refine sq_S S (c_X5_spotOf) gX5_rival_X5_spotOf i_X5_spotOf ⟨Nat.le_of_ble_eq_true rfl, Nat.le_of_ble_eq_true rfl⟩ rfl hl.1 (As := [.int (nI i), .int (nI 6)]) (rest := [.ref (ad 0)]) (st1 := [.int (nI (5 + 8 * i + 6)), .ref (ad 0)]) rfl rfl (Nat.le_of_ble_eq_true rfl) ⟨Nat.le_of_ble_eq_true rfl, Nat.le_of_ble_eq_true rfl⟩ dX5_rival_53 ?_
      refine lv_iload_n hx hb dX5_rival_56 rfl (lv_at hl 5 rfl) ?_
      refine wq_V S mK_ok hK hP hS (c_X5_behind ((upd_0 (by omega)).trans hN) h8 (by omega) (by omega)) gX5_rival_X5_behind i_X5_behind rfl (m_rec hK hP) ⟨Nat.le_of_ble_eq_true rfl, Nat.le_of_ble_eq_true rfl⟩ rfl hl.1 (As := [.int (nI (5 + 8 * i + 6)), .int (nI h)]) (rest := []) (st1 := [.int ((hrsF N h (upd sr (5 + 8 * k + 7) (nI 1))) (5 + 8 * i + 6))]) rfl rfl (Nat.le_of_ble_eq_true rfl) ⟨Nat.le_of_ble_eq_true rfl, Nat.le_of_ble_eq_true rfl⟩ dX5_rival_57 (fun H locs hP hS => ?_)
      refine lv_istore (lv' := [(6, .int ((hrsF N h (upd sr (5 + 8 * k + 7) (nI 1))) (5 + 8 * i + 6))), (5, .int (sr (5 + 8 * k + 7))), (4, .int ((hrsF N h sr) (5 + 8 * i + 6))), (0, .ref (ad 0)), (1, .int (nI i)), (2, .int (nI k)), (3, .int (nI h))]) hx hb dX5_rival_60 hl (by decide) rfl (fun ls hl => ?_)
      refine lv_aload_n hx hb dX5_rival_62 rfl (lv_at hl 3 rfl) ?_
      refine m_get hx hb hts hin hown hK hP 0 (by decide) (hts (.fieldLink RX5 7 "PennyRoadModel" "s" "[I") (by decide +kernel)) rfl dX5_rival_63 ?_
      refine lv_iload_n hx hb dX5_rival_66 rfl (lv_at hl 5 rfl) ?_
      refine lv_bipush (v := nI 7) hx hb dX5_rival_67 (by decide) ?_
      refine sq_S S (c_X5_spotOf) gX5_rival_X5_spotOf i_X5_spotOf ⟨Nat.le_of_ble_eq_true rfl, Nat.le_of_ble_eq_true rfl⟩ rfl hl.1 (As := [.int (nI k), .int (nI 7)]) (rest := [.ref (ad 1)]) (st1 := [.int (nI (5 + 8 * k + 7)), .ref (ad 1)]) rfl rfl (Nat.le_of_ble_eq_true rfl) ⟨Nat.le_of_ble_eq_true rfl, Nat.le_of_ble_eq_true rfl⟩ dX5_rival_69 ?_
      refine lv_iload hx hb dX5_rival_72 (lv_at hl 1 rfl) ?_
      refine m_ast (w' := (mw cy ad (upd (upd sr (5 + 8 * k + 7) (nI 1)) (5 + 8 * k + 7) (sr (5 + 8 * k + 7))) kS ot (upd sr (5 + 8 * k + 7) (nI 1)) stt ik tp td fr tt vl wr bo so nu mv)) hx hb hK hP hS 1 rfl (by decide) (by omega) rfl dX5_rival_74 (fun H locs hP hS => ?_)
      rw [upd_back] at hP
      refine lv_iload hx hb dX5_rival_75 (lv_at hl 0 rfl) ?_
      refine lv_iload hx hb dX5_rival_77 (lv_at hl 2 rfl) ?_
      refine lv_isub hx hb dX5_rival_79 ?_
      subst hQ
      exact mp_ri hx hb hr hlocks hP hS dX5_rival_80 (by first | with_reducible rfl | (simp only [fnd, if_pos c_6, if_pos c_13]; done) | (simp only [fnd, hcl_i, hcl_k, hcl_h, c_6, c_13, Bool.false_eq_true, Bool.true_eq_false, and_true, true_and, false_and, and_false, and_self, not_true_eq_false, not_false_eq_true, if_true, if_false, reduceIte, or_false, false_or, true_or, or_true]; done) | (subst_vars; first | with_reducible rfl | (simp only [fnd, if_pos c_6, if_pos c_13]; done) | (simp only [fnd, hcl_i, hcl_k, hcl_h, c_6, c_13, Bool.false_eq_true, Bool.true_eq_false, and_true, true_and, false_and, and_false, and_self, not_true_eq_false, not_false_eq_true, if_true, if_false, reduceIte, or_false, false_or, true_or, or_true]; done)) | contradiction | rfl) (by first | with_reducible rfl | (simp only [fnd, if_pos c_6, if_pos c_13]; done) | (simp only [fnd, hcl_i, hcl_k, hcl_h, c_6, c_13, Bool.false_eq_true, Bool.true_eq_false, and_true, true_and, false_and, and_false, and_self, not_true_eq_false, not_false_eq_true, if_true, if_false, reduceIte, or_false, false_or, true_or, or_true]; done) | (subst_vars; first | with_reducible rfl | (simp only [fnd, if_pos c_6, if_pos c_13]; done) | (simp only [fnd, hcl_i, hcl_k, hcl_h, c_6, c_13, Bool.false_eq_true, Bool.true_eq_false, and_true, true_and, false_and, and_false, and_self, not_true_eq_false, not_false_eq_true, if_true, if_false, reduceIte, or_false, false_or, true_or, or_true]; done)) | contradiction | rfl)
    · skip
      refine lv_aload_n hx hb dX5_rival_16 rfl (lv_at hl 0 rfl) ?_
      refine lv_ldc (v := (-1000000001)) hx hb hown (hts (.constant RX5 41 ((-1000000001))) (by decide +kernel)) dX5_rival_17 ?_
      refine wq_V S mK_ok hK hP hS (c_X5_finds (t := 0) (by decide)) gX5_rival_X5_finds i_X5_finds rfl (m_rec hK hP) ⟨Nat.le_of_ble_eq_true rfl, Nat.le_of_ble_eq_true rfl⟩ rfl hl.1 (As := [.int ((-1000000001))]) (rest := []) (st1 := [.int ((-1000000001))]) rfl rfl (Nat.le_of_ble_eq_true rfl) ⟨Nat.le_of_ble_eq_true rfl, Nat.le_of_ble_eq_true rfl⟩ dX5_rival_19 (fun H locs hP hS => ?_)
      subst hQ
      exact mp_ri hx hb hr hlocks hP hS dX5_rival_22 (by first | with_reducible rfl | (simp only [fnd, if_pos c_6, if_neg c_13]; done) | (simp only [fnd, c_6, c_13, Bool.false_eq_true, Bool.true_eq_false, and_true, true_and, false_and, and_false, and_self, not_true_eq_false, not_false_eq_true, if_true, if_false, reduceIte, or_false, false_or, true_or, or_true]; done) | (subst_vars; first | with_reducible rfl | (simp only [fnd, if_pos c_6, if_neg c_13]; done) | (simp only [fnd, c_6, c_13, Bool.false_eq_true, Bool.true_eq_false, and_true, true_and, false_and, and_false, and_self, not_true_eq_false, not_false_eq_true, if_true, if_false, reduceIte, or_false, false_or, true_or, or_true]; done)) | contradiction | rfl) (by first | with_reducible rfl | (simp only [fnd, if_pos c_6, if_neg c_13]; done) | (simp only [fnd, c_6, c_13, Bool.false_eq_true, Bool.true_eq_false, and_true, true_and, false_and, and_false, and_self, not_true_eq_false, not_false_eq_true, if_true, if_false, reduceIte, or_false, false_or, true_or, or_true]; done) | (subst_vars; first | with_reducible rfl | (simp only [fnd, if_pos c_6, if_neg c_13]; done) | (simp only [fnd, c_6, c_13, Bool.false_eq_true, Bool.true_eq_false, and_true, true_and, false_and, and_false, and_self, not_true_eq_false, not_false_eq_true, if_true, if_false, reduceIte, or_false, false_or, true_or, or_true]; done)) | contradiction | rfl)
theorem i_X5_rival : ciOk yX5_rival cX5_rival 7 (some .int) wsX5_rival 3 := ⟨⟨_, rfl⟩, by decide +kernel⟩
set_option maxHeartbeats 1000000 in
set_option maxRecDepth 100000 in
theorem c_X5_enough {l : Launch} {D : va_G} {cy : Nat → ClassId} {ad : Nat → Nat} {sr kS ot asd stt : Nat → Int32} {ik : Int32} {tp : Nat → Int32} {td fr tt vl wr : Int32} {bo so : Nat → Int32} {nu mv : Nat → Int64} {q : Int32} {N : Nat} (hN : sr 0 = nI N) (h8 : N ≤ 8) : Met l yX5_enough wsX5_enough (rmz 8 178) (wPre D (mK D cy ad) (mw cy ad sr kS ot asd stt ik tp td fr tt vl wr bo so nu mv) [.ref (ad 0), .int (q)]) (mPub D cy ad (some (.int (if rg 1 60 q then (if nI 999999 - hrsF N q.toNatClampNeg (upd sr 2 (nI 999999)) 2 + nI 1 ≤ nI 999 then nI 999999 - hrsF N q.toNatClampNeg (upd sr 2 (nI 999999)) 2 + nI 1 else -1000000004) else -1000000001))) sr kS (if rg 1 60 q then (if nI 999999 - hrsF N q.toNatClampNeg (upd sr 2 (nI 999999)) 2 + nI 1 ≤ nI 999 then stt else fnd stt 3) else fnd stt 0) ik tp td bo so nu) 0 0 (mA ad) := by
  refine wq_entry rfl rfl (Nat.le_of_ble_eq_true rfl) ?_
  intro p e s0 m args below meth c S hr hlocks hK hP ls hl
  have S : CallFix p m c cX5_enough 4 s0 args wsX5_enough RX5 := S
  obtain ⟨hx, hb, hml, hown, hts⟩ := id S
  have hin : ∀ w ∈ wsX50, w ∈ wsX5_enough := fun w h => List.mem_cons_of_mem _ (List.mem_append_right _ h)
  have hS : va_S (mA ad) s0.heap s0.heap [] := va_S.rf
  have hl : lv_has ls 4 [(0, .ref (ad 0)), (1, .int (q))] := hl
  generalize hQ : MQ below (mPub D cy ad (some (.int (if rg 1 60 q then (if nI 999999 - hrsF N q.toNatClampNeg (upd sr 2 (nI 999999)) 2 + nI 1 ≤ nI 999 then nI 999999 - hrsF N q.toNatClampNeg (upd sr 2 (nI 999999)) 2 + nI 1 else -1000000004) else -1000000001))) sr kS (if rg 1 60 q then (if nI 999999 - hrsF N q.toNatClampNeg (upd sr 2 (nI 999999)) 2 + nI 1 ≤ nI 999 then stt else fnd stt 3) else fnd stt 0) ik tp td bo so nu) args s0 0 0 (mA ad) = Q
  refine lv_iload_n hx hb dX5_enough_0 rfl (lv_at hl 1 rfl) ?_
  refine lv_i2l (v := (q).toInt64) hx hb dX5_enough_1 rfl ?_
  refine lv_lconst (v := 1) hx hb dX5_enough_2 (by decide) ?_
  refine lv_ldc2 (v := 60) hx hb hown (hts (.constantLong RX5 151 (60)) (by decide +kernel)) dX5_enough_3 ?_
  refine sq_S S (c_X5_inY) gX5_enough_X5_in i_X5_in ⟨Nat.le_of_ble_eq_true rfl, Nat.le_of_ble_eq_true rfl⟩ rfl hl.1 (As := [.long ((q).toInt64), .long (1), .long (60)]) (rest := []) (st1 := [.int (z (rg 1 60 (q)))]) rfl rfl (Nat.le_of_ble_eq_true rfl) ⟨Nat.le_of_ble_eq_true rfl, Nat.le_of_ble_eq_true rfl⟩ dX5_enough_6 ?_
  refine lvz_if_ne (tgt := 19) hx hb dX5_enough_9 (by decide) (fun c_9 => ?_) (fun c_9 => ?_)
  · skip
    obtain ⟨i, h_i, h_i2, rfl⟩ := rg_ix (a := 1) (b := 60) (by decide) c_9
    have hcl_i : (nI i).toNatClampNeg = i := nI_clamp (by omega)
    refine lv_aload_n hx hb dX5_enough_19 rfl (lv_at hl 0 rfl) ?_
    refine lv_iconst (v := nI 2) hx hb dX5_enough_20 (by decide) ?_
    refine lv_ldc (v := nI 999999) hx hb hown (hts (.constant RX5 95 (nI 999999)) (by decide +kernel)) dX5_enough_21 ?_
    refine wq_V S mK_ok hK hP hS (c_X5_becomes (by omega)) gX5_enough_X5_becomes i_X5_becomes rfl (m_rec hK hP) ⟨Nat.le_of_ble_eq_true rfl, Nat.le_of_ble_eq_true rfl⟩ rfl hl.1 (As := [.int (nI 2), .int (nI 999999)]) (rest := []) (st1 := [.int (sr 2)]) rfl rfl (Nat.le_of_ble_eq_true rfl) ⟨Nat.le_of_ble_eq_true rfl, Nat.le_of_ble_eq_true rfl⟩ dX5_enough_23 (fun H locs hP hS => ?_)
    refine lv_istore_n (lv' := [(2, .int (sr 2)), (0, .ref (ad 0)), (1, .int (nI i))]) hx hb dX5_enough_26 rfl hl (by decide) rfl (fun ls hl => ?_)
    refine lv_ldc (v := nI 999999) hx hb hown (hts (.constant RX5 95 (nI 999999)) (by decide +kernel)) dX5_enough_27 ?_
    refine lv_aload_n hx hb dX5_enough_29 rfl (lv_at hl 1 rfl) ?_
    refine lv_iconst (v := nI 2) hx hb dX5_enough_30 (by decide) ?_
    refine lv_iload_n hx hb dX5_enough_31 rfl (lv_at hl 2 rfl) ?_
    refine wq_V S mK_ok hK hP hS (c_X5_behind ((upd_0 (by omega)).trans hN) h8 (by omega) (by omega)) gX5_enough_X5_behind i_X5_behind rfl (m_rec hK hP) ⟨Nat.le_of_ble_eq_true rfl, Nat.le_of_ble_eq_true rfl⟩ rfl hl.1 (As := [.int (nI 2), .int (nI i)]) (rest := [.int (nI 999999)]) (st1 := [.int ((hrsF N i (upd sr 2 (nI 999999))) 2), .int (nI 999999)]) rfl rfl (Nat.le_of_ble_eq_true rfl) ⟨Nat.le_of_ble_eq_true rfl, Nat.le_of_ble_eq_true rfl⟩ dX5_enough_32 (fun H locs hP hS => ?_)
    refine lv_isub hx hb dX5_enough_35 ?_
    refine lv_iconst (v := nI 1) hx hb dX5_enough_36 (by decide) ?_
    refine lv_iadd hx hb dX5_enough_37 ?_
    refine lv_istore_n (lv' := [(3, .int (((nI 999999) - ((hrsF N i (upd sr 2 (nI 999999))) 2)) + (nI 1))), (2, .int (sr 2)), (0, .ref (ad 0)), (1, .int (nI i))]) hx hb dX5_enough_38 rfl hl (by decide) rfl (fun ls hl => ?_)
    refine lv_aload_n hx hb dX5_enough_39 rfl (lv_at hl 2 rfl) ?_
    refine m_get hx hb hts hin hown hK hP 0 (by decide) (hts (.fieldLink RX5 7 "PennyRoadModel" "s" "[I") (by decide +kernel)) rfl dX5_enough_40 ?_
    refine lv_iconst (v := nI 2) hx hb dX5_enough_43 (by decide) ?_
    refine lv_iload_n hx hb dX5_enough_44 rfl (lv_at hl 1 rfl) ?_
    refine m_ast (w' := (mw cy ad (upd (upd sr 2 (nI 999999)) 2 (sr 2)) kS ot (upd sr 2 (nI 999999)) stt ik tp td fr tt vl wr bo so nu mv)) hx hb hK hP hS 1 rfl (by decide) (by omega) rfl dX5_enough_45 (fun H locs hP hS => ?_)
    rw [upd_back] at hP
    refine lv_iload_n hx hb dX5_enough_46 rfl (lv_at hl 0 rfl) ?_
    refine lv_sipush (v := nI 999) hx hb dX5_enough_47 (by decide) ?_
    refine lv_icmp_le (tgt := 62) hx hb dX5_enough_50 (by decide) (fun c_50 => ?_) (fun c_50 => ?_)
    · skip
      refine lv_iload_n hx hb dX5_enough_62 rfl (lv_at hl 0 rfl) ?_
      subst hQ
      exact mp_ri hx hb hr hlocks hP hS dX5_enough_63 (by first | with_reducible rfl | (simp only [fnd, if_pos c_9, if_pos c_50]; done) | (simp only [fnd, hcl_i, c_9, if_pos c_50, Bool.false_eq_true, Bool.true_eq_false, and_true, true_and, false_and, and_false, and_self, not_true_eq_false, not_false_eq_true, if_true, if_false, reduceIte, or_false, false_or, true_or, or_true]; done) | (subst_vars; first | with_reducible rfl | (simp only [fnd, if_pos c_9, if_pos c_50]; done) | (simp only [fnd, hcl_i, c_9, if_pos c_50, Bool.false_eq_true, Bool.true_eq_false, and_true, true_and, false_and, and_false, and_self, not_true_eq_false, not_false_eq_true, if_true, if_false, reduceIte, or_false, false_or, true_or, or_true]; done)) | contradiction | rfl) (by first | with_reducible rfl | (simp only [fnd, if_pos c_9, if_pos c_50]; done) | (simp only [fnd, hcl_i, c_9, if_pos c_50, Bool.false_eq_true, Bool.true_eq_false, and_true, true_and, false_and, and_false, and_self, not_true_eq_false, not_false_eq_true, if_true, if_false, reduceIte, or_false, false_or, true_or, or_true]; done) | (subst_vars; first | with_reducible rfl | (simp only [fnd, if_pos c_9, if_pos c_50]; done) | (simp only [fnd, hcl_i, c_9, if_pos c_50, Bool.false_eq_true, Bool.true_eq_false, and_true, true_and, false_and, and_false, and_self, not_true_eq_false, not_false_eq_true, if_true, if_false, reduceIte, or_false, false_or, true_or, or_true]; done)) | contradiction | rfl)
    · skip
      refine lv_aload_n hx hb dX5_enough_53 rfl (lv_at hl 2 rfl) ?_
      refine lv_ldc (v := (-1000000004)) hx hb hown (hts (.constant RX5 144 ((-1000000004))) (by decide +kernel)) dX5_enough_54 ?_
      refine wq_V S mK_ok hK hP hS (c_X5_finds (t := 3) (by decide)) gX5_enough_X5_finds i_X5_finds rfl (m_rec hK hP) ⟨Nat.le_of_ble_eq_true rfl, Nat.le_of_ble_eq_true rfl⟩ rfl hl.1 (As := [.int ((-1000000004))]) (rest := []) (st1 := [.int ((-1000000004))]) rfl rfl (Nat.le_of_ble_eq_true rfl) ⟨Nat.le_of_ble_eq_true rfl, Nat.le_of_ble_eq_true rfl⟩ dX5_enough_56 (fun H locs hP hS => ?_)
      refine lv_goto (tgt := 63) hx hb dX5_enough_59 (by decide) ?_
      subst hQ
      exact mp_ri hx hb hr hlocks hP hS dX5_enough_63 (by first | with_reducible rfl | (simp only [fnd, if_pos c_9, if_neg c_50]; done) | (simp only [fnd, hcl_i, c_9, if_neg c_50, Bool.false_eq_true, Bool.true_eq_false, and_true, true_and, false_and, and_false, and_self, not_true_eq_false, not_false_eq_true, if_true, if_false, reduceIte, or_false, false_or, true_or, or_true]; done) | (subst_vars; first | with_reducible rfl | (simp only [fnd, if_pos c_9, if_neg c_50]; done) | (simp only [fnd, hcl_i, c_9, if_neg c_50, Bool.false_eq_true, Bool.true_eq_false, and_true, true_and, false_and, and_false, and_self, not_true_eq_false, not_false_eq_true, if_true, if_false, reduceIte, or_false, false_or, true_or, or_true]; done)) | contradiction | rfl) (by first | with_reducible rfl | (simp only [fnd, if_pos c_9, if_neg c_50]; done) | (simp only [fnd, hcl_i, c_9, if_neg c_50, Bool.false_eq_true, Bool.true_eq_false, and_true, true_and, false_and, and_false, and_self, not_true_eq_false, not_false_eq_true, if_true, if_false, reduceIte, or_false, false_or, true_or, or_true]; done) | (subst_vars; first | with_reducible rfl | (simp only [fnd, if_pos c_9, if_neg c_50]; done) | (simp only [fnd, hcl_i, c_9, if_neg c_50, Bool.false_eq_true, Bool.true_eq_false, and_true, true_and, false_and, and_false, and_self, not_true_eq_false, not_false_eq_true, if_true, if_false, reduceIte, or_false, false_or, true_or, or_true]; done)) | contradiction | rfl)
  · skip
    refine lv_aload_n hx hb dX5_enough_12 rfl (lv_at hl 0 rfl) ?_
    refine lv_ldc (v := (-1000000001)) hx hb hown (hts (.constant RX5 41 ((-1000000001))) (by decide +kernel)) dX5_enough_13 ?_
    refine wq_V S mK_ok hK hP hS (c_X5_finds (t := 0) (by decide)) gX5_enough_X5_finds i_X5_finds rfl (m_rec hK hP) ⟨Nat.le_of_ble_eq_true rfl, Nat.le_of_ble_eq_true rfl⟩ rfl hl.1 (As := [.int ((-1000000001))]) (rest := []) (st1 := [.int ((-1000000001))]) rfl rfl (Nat.le_of_ble_eq_true rfl) ⟨Nat.le_of_ble_eq_true rfl, Nat.le_of_ble_eq_true rfl⟩ dX5_enough_15 (fun H locs hP hS => ?_)
    subst hQ
    exact mp_ri hx hb hr hlocks hP hS dX5_enough_18 (by first | with_reducible rfl | (simp only [fnd, if_neg c_9]; done) | (simp only [fnd, c_9, Bool.false_eq_true, Bool.true_eq_false, and_true, true_and, false_and, and_false, and_self, not_true_eq_false, not_false_eq_true, if_true, if_false, reduceIte, or_false, false_or, true_or, or_true]; done) | (subst_vars; first | with_reducible rfl | (simp only [fnd, if_neg c_9]; done) | (simp only [fnd, c_9, Bool.false_eq_true, Bool.true_eq_false, and_true, true_and, false_and, and_false, and_self, not_true_eq_false, not_false_eq_true, if_true, if_false, reduceIte, or_false, false_or, true_or, or_true]; done)) | contradiction | rfl) (by first | with_reducible rfl | (simp only [fnd, if_neg c_9]; done) | (simp only [fnd, c_9, Bool.false_eq_true, Bool.true_eq_false, and_true, true_and, false_and, and_false, and_self, not_true_eq_false, not_false_eq_true, if_true, if_false, reduceIte, or_false, false_or, true_or, or_true]; done) | (subst_vars; first | with_reducible rfl | (simp only [fnd, if_neg c_9]; done) | (simp only [fnd, c_9, Bool.false_eq_true, Bool.true_eq_false, and_true, true_and, false_and, and_false, and_self, not_true_eq_false, not_false_eq_true, if_true, if_false, reduceIte, or_false, false_or, true_or, or_true]; done)) | contradiction | rfl)
theorem i_X5_enough : ciOk yX5_enough cX5_enough 4 (some .int) wsX5_enough 1 := ⟨⟨_, rfl⟩, by decide +kernel⟩
