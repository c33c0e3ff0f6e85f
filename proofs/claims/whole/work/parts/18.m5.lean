set_option maxHeartbeats 1000000 in
set_option maxRecDepth 100000 in
theorem c_X5_copy {l : Launch} {D : va_G} {cy : Nat → ClassId} {ad : Nat → Nat} {sr kS ot asd stt : Nat → Int32} {ik : Int32} {tp : Nat → Int32} {td fr tt vl wr : Int32} {bo so : Nat → Int32} {nu mv : Nat → Int64} {q : Int32} {b : Int32} {o : Int32} {d : Int32} {n : Int32} (hz : ∀ t, t < 4 → ∃ z : Nat, z ≤ 40 ∧ so t = nI z) : Met l yX5_copy wsX5_copy (rmz 2 45) (wPre D (mK D cy ad) (mw cy ad sr kS ot asd stt ik tp td fr tt vl wr bo so nu mv) [.ref (ad 0), .int (q), .int (b), .int (o), .int (d), .int (n)]) (mPub D cy ad (some (.int (if rg 0 3 q ∧ rg 0 3 o then (if decide (bo q.toNatClampNeg = 0) || decide (bo o.toNatClampNeg = 0) then -1000000006 else if bo q.toNatClampNeg = bo o.toNatClampNeg then (if cpOk (so q.toNatClampNeg) (so o.toNatClampNeg) b d n then n else -1000000001) else -1000000003) else -1000000001))) sr kS (if rg 0 3 q ∧ rg 0 3 o then (if decide (bo q.toNatClampNeg = 0) || decide (bo o.toNatClampNeg = 0) then fnd stt 5 else if bo q.toNatClampNeg = bo o.toNatClampNeg then (if cpOk (so q.toNatClampNeg) (so o.toNatClampNeg) b d n then stt else fnd stt 0) else fnd stt 2) else fnd stt 0) ik tp td bo so (if rg 0 3 q ∧ rg 0 3 o then (if decide (bo q.toNatClampNeg = 0) || decide (bo o.toNatClampNeg = 0) then nu else if bo q.toNatClampNeg = bo o.toNatClampNeg then (if cpOk (so q.toNatClampNeg) (so o.toNatClampNeg) b d n then va_cpy nu nu (40 * q.toNatClampNeg + b.toNatClampNeg) (40 * o.toNatClampNeg + d.toNatClampNeg) n.toNatClampNeg else nu) else nu) else nu)) 0 0 (mA ad) := by
  refine wq_entry rfl rfl (Nat.le_of_ble_eq_true rfl) ?_
  intro p e s0 m args below meth c S hr hlocks hK hP ls hl
  have S : CallFix p m c cX5_copy 7 s0 args wsX5_copy RX5 := S
  obtain ⟨hx, hb, hml, hown, hts⟩ := id S
  have hin : ∀ w ∈ wsX50, w ∈ wsX5_copy := fun w h => List.mem_cons_of_mem _ (List.mem_append_right _ h)
  have hS : va_S (mA ad) s0.heap s0.heap [] := va_S.rf
  have hl : lv_has ls 7 [(0, .ref (ad 0)), (1, .int (q)), (2, .int (b)), (3, .int (o)), (4, .int (d)), (5, .int (n))] := hl
  generalize hQ : MQ below (mPub D cy ad (some (.int (if rg 0 3 q ∧ rg 0 3 o then (if decide (bo q.toNatClampNeg = 0) || decide (bo o.toNatClampNeg = 0) then -1000000006 else if bo q.toNatClampNeg = bo o.toNatClampNeg then (if cpOk (so q.toNatClampNeg) (so o.toNatClampNeg) b d n then n else -1000000001) else -1000000003) else -1000000001))) sr kS (if rg 0 3 q ∧ rg 0 3 o then (if decide (bo q.toNatClampNeg = 0) || decide (bo o.toNatClampNeg = 0) then fnd stt 5 else if bo q.toNatClampNeg = bo o.toNatClampNeg then (if cpOk (so q.toNatClampNeg) (so o.toNatClampNeg) b d n then stt else fnd stt 0) else fnd stt 2) else fnd stt 0) ik tp td bo so (if rg 0 3 q ∧ rg 0 3 o then (if decide (bo q.toNatClampNeg = 0) || decide (bo o.toNatClampNeg = 0) then nu else if bo q.toNatClampNeg = bo o.toNatClampNeg then (if cpOk (so q.toNatClampNeg) (so o.toNatClampNeg) b d n then va_cpy nu nu (40 * q.toNatClampNeg + b.toNatClampNeg) (40 * o.toNatClampNeg + d.toNatClampNeg) n.toNatClampNeg else nu) else nu) else nu)) args s0 0 0 (mA ad) = Q
  refine lv_iload_n hx hb dX5_copy_0 rfl (lv_at hl 1 rfl) ?_
  refine sq_S S (c_X5_isOne) gX5_copy_X5_isOne i_X5_isOne ⟨Nat.le_of_ble_eq_true rfl, Nat.le_of_ble_eq_true rfl⟩ rfl hl.1 (As := [.int (q)]) (rest := []) (st1 := [.int (z (rg 0 3 (q)))]) rfl rfl (Nat.le_of_ble_eq_true rfl) ⟨Nat.le_of_ble_eq_true rfl, Nat.le_of_ble_eq_true rfl⟩ dX5_copy_1 ?_
  refine lvz_if_eq (tgt := 14) hx hb dX5_copy_4 (by decide) (fun c_4 => ?_) (fun c_4 => ?_)
  · skip
    refine lv_aload_n hx hb dX5_copy_14 rfl (lv_at hl 0 rfl) ?_
    refine lv_ldc (v := (-1000000001)) hx hb hown (hts (.constant RX5 41 ((-1000000001))) (by decide +kernel)) dX5_copy_15 ?_
    refine wq_V S mK_ok hK hP hS (c_X5_finds (t := 0) (by decide)) gX5_copy_X5_finds i_X5_finds rfl (m_rec hK hP) ⟨Nat.le_of_ble_eq_true rfl, Nat.le_of_ble_eq_true rfl⟩ rfl hl.1 (As := [.int ((-1000000001))]) (rest := []) (st1 := [.int ((-1000000001))]) rfl rfl (Nat.le_of_ble_eq_true rfl) ⟨Nat.le_of_ble_eq_true rfl, Nat.le_of_ble_eq_true rfl⟩ dX5_copy_17 (fun H locs hP hS => ?_)
    subst hQ
    exact mp_ri hx hb hr hlocks hP hS dX5_copy_20 (by first | with_reducible rfl | (simp only [fnd, cpOk, Bool.not_true, Bool.not_false, if_neg c_4]; done) | (simp only [fnd, cpOk, Bool.not_true, Bool.not_false, c_4, Bool.true_and, Bool.false_and, Bool.true_or, Bool.or_true, Bool.false_or, Bool.or_false, Bool.and_true, Bool.and_false, Bool.or_self, Bool.and_self, Bool.false_eq_true, Bool.true_eq_false, and_true, true_and, false_and, and_false, and_self, not_true_eq_false, not_false_eq_true, if_true, if_false, reduceIte, or_false, false_or, true_or, or_true]; done) | (subst_vars; first | with_reducible rfl | (simp only [fnd, cpOk, Bool.not_true, Bool.not_false, if_neg c_4]; done) | (simp only [fnd, cpOk, Bool.not_true, Bool.not_false, c_4, Bool.true_and, Bool.false_and, Bool.true_or, Bool.or_true, Bool.false_or, Bool.or_false, Bool.and_true, Bool.and_false, Bool.or_self, Bool.and_self, Bool.false_eq_true, Bool.true_eq_false, and_true, true_and, false_and, and_false, and_self, not_true_eq_false, not_false_eq_true, if_true, if_false, reduceIte, or_false, false_or, true_or, or_true]; done)) | contradiction | rfl) (by first | with_reducible rfl | (simp only [fnd, cpOk, Bool.not_true, Bool.not_false, if_neg c_4]; done) | (simp only [fnd, cpOk, Bool.not_true, Bool.not_false, c_4, Bool.true_and, Bool.false_and, Bool.true_or, Bool.or_true, Bool.false_or, Bool.or_false, Bool.and_true, Bool.and_false, Bool.or_self, Bool.and_self, Bool.false_eq_true, Bool.true_eq_false, and_true, true_and, false_and, and_false, and_self, not_true_eq_false, not_false_eq_true, if_true, if_false, reduceIte, or_false, false_or, true_or, or_true]; done) | (subst_vars; first | with_reducible rfl | (simp only [fnd, cpOk, Bool.not_true, Bool.not_false, if_neg c_4]; done) | (simp only [fnd, cpOk, Bool.not_true, Bool.not_false, c_4, Bool.true_and, Bool.false_and, Bool.true_or, Bool.or_true, Bool.false_or, Bool.or_false, Bool.and_true, Bool.and_false, Bool.or_self, Bool.and_self, Bool.false_eq_true, Bool.true_eq_false, and_true, true_and, false_and, and_false, and_self, not_true_eq_false, not_false_eq_true, if_true, if_false, reduceIte, or_false, false_or, true_or, or_true]; done)) | contradiction | rfl)
  · skip
    refine lv_iload_n hx hb dX5_copy_7 rfl (lv_at hl 3 rfl) ?_
    refine sq_S S (c_X5_isOne) gX5_copy_X5_isOne i_X5_isOne ⟨Nat.le_of_ble_eq_true rfl, Nat.le_of_ble_eq_true rfl⟩ rfl hl.1 (As := [.int (o)]) (rest := []) (st1 := [.int (z (rg 0 3 (o)))]) rfl rfl (Nat.le_of_ble_eq_true rfl) ⟨Nat.le_of_ble_eq_true rfl, Nat.le_of_ble_eq_true rfl⟩ dX5_copy_8 ?_
    refine lvz_if_ne (tgt := 21) hx hb dX5_copy_11 (by decide) (fun c_11 => ?_) (fun c_11 => ?_)
    · skip
      obtain ⟨i, h_i, h_i2, rfl⟩ := rg_ix (a := 0) (b := 3) (by decide) c_4
      have hcl_i : (nI i).toNatClampNeg = i := nI_clamp (by omega)
      obtain ⟨k, h_k, h_k2, rfl⟩ := rg_ix (a := 0) (b := 3) (by decide) c_11
      have hcl_k : (nI k).toNatClampNeg = k := nI_clamp (by omega)
      refine lv_aload_n hx hb dX5_copy_21 rfl (lv_at hl 0 rfl) ?_
      refine m_get hx hb hts hin hown hK hP 12 (by decide) (hts (.fieldLink RX5 28 "PennyRoadModel" "bitsOf" "[I") (by decide +kernel)) rfl dX5_copy_22 ?_
      refine lv_iload_n hx hb dX5_copy_25 rfl (lv_at hl 1 rfl) ?_
      refine m_ald hx hb hK hP 7 rfl (by decide) (by omega) dX5_copy_26 ?_
      refine lv_if_eq (tgt := 39) hx hb dX5_copy_27 (by decide) (fun c_27 => ?_) (fun c_27 => ?_)
      · skip
        refine lv_aload_n hx hb dX5_copy_39 rfl (lv_at hl 0 rfl) ?_
        refine lv_ldcw (v := (-1000000006)) hx hb hown (hts (.constant RX5 272 ((-1000000006))) (by decide +kernel)) dX5_copy_40 ?_
        refine wq_V S mK_ok hK hP hS (c_X5_finds (t := 5) (by decide)) gX5_copy_X5_finds i_X5_finds rfl (m_rec hK hP) ⟨Nat.le_of_ble_eq_true rfl, Nat.le_of_ble_eq_true rfl⟩ rfl hl.1 (As := [.int ((-1000000006))]) (rest := []) (st1 := [.int ((-1000000006))]) rfl rfl (Nat.le_of_ble_eq_true rfl) ⟨Nat.le_of_ble_eq_true rfl, Nat.le_of_ble_eq_true rfl⟩ dX5_copy_43 (fun H locs hP hS => ?_)
        subst hQ
        exact mp_ri hx hb hr hlocks hP hS dX5_copy_46 (by first | with_reducible rfl | (simp only [fnd, cpOk, Bool.not_true, Bool.not_false, if_pos c_4, if_pos c_11, if_pos c_27]; done) | (simp only [fnd, cpOk, Bool.not_true, Bool.not_false, decide_eq_true c_27, hcl_i, hcl_k, c_4, c_11, if_pos c_27, Bool.true_and, Bool.false_and, Bool.true_or, Bool.or_true, Bool.false_or, Bool.or_false, Bool.and_true, Bool.and_false, Bool.or_self, Bool.and_self, Bool.false_eq_true, Bool.true_eq_false, and_true, true_and, false_and, and_false, and_self, not_true_eq_false, not_false_eq_true, if_true, if_false, reduceIte, or_false, false_or, true_or, or_true]; done) | (subst_vars; first | with_reducible rfl | (simp only [fnd, cpOk, Bool.not_true, Bool.not_false, if_pos c_4, if_pos c_11, if_pos c_27]; done) | (simp only [fnd, cpOk, Bool.not_true, Bool.not_false, decide_eq_true c_27, hcl_i, hcl_k, c_4, c_11, if_pos c_27, Bool.true_and, Bool.false_and, Bool.true_or, Bool.or_true, Bool.false_or, Bool.or_false, Bool.and_true, Bool.and_false, Bool.or_self, Bool.and_self, Bool.false_eq_true, Bool.true_eq_false, and_true, true_and, false_and, and_false, and_self, not_true_eq_false, not_false_eq_true, if_true, if_false, reduceIte, or_false, false_or, true_or, or_true]; done)) | contradiction | rfl) (by first | with_reducible rfl | (simp only [fnd, cpOk, Bool.not_true, Bool.not_false, if_pos c_4, if_pos c_11, if_pos c_27]; done) | (simp only [fnd, cpOk, Bool.not_true, Bool.not_false, decide_eq_true c_27, hcl_i, hcl_k, c_4, c_11, if_pos c_27, Bool.true_and, Bool.false_and, Bool.true_or, Bool.or_true, Bool.false_or, Bool.or_false, Bool.and_true, Bool.and_false, Bool.or_self, Bool.and_self, Bool.false_eq_true, Bool.true_eq_false, and_true, true_and, false_and, and_false, and_self, not_true_eq_false, not_false_eq_true, if_true, if_false, reduceIte, or_false, false_or, true_or, or_true]; done) | (subst_vars; first | with_reducible rfl | (simp only [fnd, cpOk, Bool.not_true, Bool.not_false, if_pos c_4, if_pos c_11, if_pos c_27]; done) | (simp only [fnd, cpOk, Bool.not_true, Bool.not_false, decide_eq_true c_27, hcl_i, hcl_k, c_4, c_11, if_pos c_27, Bool.true_and, Bool.false_and, Bool.true_or, Bool.or_true, Bool.false_or, Bool.or_false, Bool.and_true, Bool.and_false, Bool.or_self, Bool.and_self, Bool.false_eq_true, Bool.true_eq_false, and_true, true_and, false_and, and_false, and_self, not_true_eq_false, not_false_eq_true, if_true, if_false, reduceIte, or_false, false_or, true_or, or_true]; done)) | contradiction | rfl)
      · skip
        refine lv_aload_n hx hb dX5_copy_30 rfl (lv_at hl 0 rfl) ?_
        refine m_get hx hb hts hin hown hK hP 12 (by decide) (hts (.fieldLink RX5 28 "PennyRoadModel" "bitsOf" "[I") (by decide +kernel)) rfl dX5_copy_31 ?_
        refine lv_iload_n hx hb dX5_copy_34 rfl (lv_at hl 3 rfl) ?_
        refine m_ald hx hb hK hP 7 rfl (by decide) (by omega) dX5_copy_35 ?_
        refine lv_if_ne (tgt := 47) hx hb dX5_copy_36 (by decide) (fun c_36 => ?_) (fun c_36 => ?_)
        · skip
          refine lv_aload_n hx hb dX5_copy_47 rfl (lv_at hl 0 rfl) ?_
          refine m_get hx hb hts hin hown hK hP 12 (by decide) (hts (.fieldLink RX5 28 "PennyRoadModel" "bitsOf" "[I") (by decide +kernel)) rfl dX5_copy_48 ?_
          refine lv_iload_n hx hb dX5_copy_51 rfl (lv_at hl 1 rfl) ?_
          refine m_ald hx hb hK hP 7 rfl (by decide) (by omega) dX5_copy_52 ?_
          refine lv_aload_n hx hb dX5_copy_53 rfl (lv_at hl 0 rfl) ?_
          refine m_get hx hb hts hin hown hK hP 12 (by decide) (hts (.fieldLink RX5 28 "PennyRoadModel" "bitsOf" "[I") (by decide +kernel)) rfl dX5_copy_54 ?_
          refine lv_iload_n hx hb dX5_copy_57 rfl (lv_at hl 3 rfl) ?_
          refine m_ald hx hb hK hP 7 rfl (by decide) (by omega) dX5_copy_58 ?_
          refine lv_icmp_eq (tgt := 69) hx hb dX5_copy_59 (by decide) (fun c_59 => ?_) (fun c_59 => ?_)
          · skip
            refine lv_iload_n hx hb dX5_copy_69 rfl (lv_at hl 2 rfl) ?_
            refine lv_if_lt (tgt := 110) hx hb dX5_copy_70 (by decide) (fun c_70 => ?_) (fun c_70 => ?_)
            · skip
              refine lv_aload_n hx hb dX5_copy_110 rfl (lv_at hl 0 rfl) ?_
              refine lv_ldc (v := (-1000000001)) hx hb hown (hts (.constant RX5 41 ((-1000000001))) (by decide +kernel)) dX5_copy_111 ?_
              refine wq_V S mK_ok hK hP hS (c_X5_finds (t := 0) (by decide)) gX5_copy_X5_finds i_X5_finds rfl (m_rec hK hP) ⟨Nat.le_of_ble_eq_true rfl, Nat.le_of_ble_eq_true rfl⟩ rfl hl.1 (As := [.int ((-1000000001))]) (rest := []) (st1 := [.int ((-1000000001))]) rfl rfl (Nat.le_of_ble_eq_true rfl) ⟨Nat.le_of_ble_eq_true rfl, Nat.le_of_ble_eq_true rfl⟩ dX5_copy_113 (fun H locs hP hS => ?_)
              subst hQ
              exact mp_ri hx hb hr hlocks hP hS dX5_copy_116 (by first | with_reducible rfl | (simp only [fnd, cpOk, Bool.not_true, Bool.not_false, if_pos c_4, if_pos c_11, if_neg c_27, if_neg c_36, if_pos c_59, if_pos c_70]; done) | (simp only [fnd, cpOk, Bool.not_true, Bool.not_false, decide_eq_false c_27, decide_eq_false c_36, decide_eq_true c_59, decide_eq_true c_70, hcl_i, hcl_k, c_4, c_11, if_neg c_27, if_neg c_36, if_pos c_59, if_pos c_70, Bool.true_and, Bool.false_and, Bool.true_or, Bool.or_true, Bool.false_or, Bool.or_false, Bool.and_true, Bool.and_false, Bool.or_self, Bool.and_self, Bool.false_eq_true, Bool.true_eq_false, and_true, true_and, false_and, and_false, and_self, not_true_eq_false, not_false_eq_true, if_true, if_false, reduceIte, or_false, false_or, true_or, or_true]; done) | (subst_vars; first | with_reducible rfl | (simp only [fnd, cpOk, Bool.not_true, Bool.not_false, if_pos c_4, if_pos c_11, if_neg c_27, if_neg c_36, if_pos c_59, if_pos c_70]; done) | (simp only [fnd, cpOk, Bool.not_true, Bool.not_false, decide_eq_false c_27, decide_eq_false c_36, decide_eq_true c_59, decide_eq_true c_70, hcl_i, hcl_k, c_4, c_11, if_neg c_27, if_neg c_36, if_pos c_59, if_pos c_70, Bool.true_and, Bool.false_and, Bool.true_or, Bool.or_true, Bool.false_or, Bool.or_false, Bool.and_true, Bool.and_false, Bool.or_self, Bool.and_self, Bool.false_eq_true, Bool.true_eq_false, and_true, true_and, false_and, and_false, and_self, not_true_eq_false, not_false_eq_true, if_true, if_false, reduceIte, or_false, false_or, true_or, or_true]; done)) | contradiction | rfl) (by first | with_reducible rfl | (simp only [fnd, cpOk, Bool.not_true, Bool.not_false, if_pos c_4, if_pos c_11, if_neg c_27, if_neg c_36, if_pos c_59, if_pos c_70]; done) | (simp only [fnd, cpOk, Bool.not_true, Bool.not_false, decide_eq_false c_27, decide_eq_false c_36, decide_eq_true c_59, decide_eq_true c_70, hcl_i, hcl_k, c_4, c_11, if_neg c_27, if_neg c_36, if_pos c_59, if_pos c_70, Bool.true_and, Bool.false_and, Bool.true_or, Bool.or_true, Bool.false_or, Bool.or_false, Bool.and_true, Bool.and_false, Bool.or_self, Bool.and_self, Bool.false_eq_true, Bool.true_eq_false, and_true, true_and, false_and, and_false, and_self, not_true_eq_false, not_false_eq_true, if_true, if_false, reduceIte, or_false, false_or, true_or, or_true]; done) | (subst_vars; first | with_reducible rfl | (simp only [fnd, cpOk, Bool.not_true, Bool.not_false, if_pos c_4, if_pos c_11, if_neg c_27, if_neg c_36, if_pos c_59, if_pos c_70]; done) | (simp only [fnd, cpOk, Bool.not_true, Bool.not_false, decide_eq_false c_27, decide_eq_false c_36, decide_eq_true c_59, decide_eq_true c_70, hcl_i, hcl_k, c_4, c_11, if_neg c_27, if_neg c_36, if_pos c_59, if_pos c_70, Bool.true_and, Bool.false_and, Bool.true_or, Bool.or_true, Bool.false_or, Bool.or_false, Bool.and_true, Bool.and_false, Bool.or_self, Bool.and_self, Bool.false_eq_true, Bool.true_eq_false, and_true, true_and, false_and, and_false, and_self, not_true_eq_false, not_false_eq_true, if_true, if_false, reduceIte, or_false, false_or, true_or, or_true]; done)) | contradiction | rfl)
            · skip
              refine lv_iload hx hb dX5_copy_73 (lv_at hl 4 rfl) ?_
              refine lv_if_lt (tgt := 110) hx hb dX5_copy_75 (by decide) (fun c_75 => ?_) (fun c_75 => ?_)
              · skip
                refine lv_aload_n hx hb dX5_copy_110 rfl (lv_at hl 0 rfl) ?_
                refine lv_ldc (v := (-1000000001)) hx hb hown (hts (.constant RX5 41 ((-1000000001))) (by decide +kernel)) dX5_copy_111 ?_
                refine wq_V S mK_ok hK hP hS (c_X5_finds (t := 0) (by decide)) gX5_copy_X5_finds i_X5_finds rfl (m_rec hK hP) ⟨Nat.le_of_ble_eq_true rfl, Nat.le_of_ble_eq_true rfl⟩ rfl hl.1 (As := [.int ((-1000000001))]) (rest := []) (st1 := [.int ((-1000000001))]) rfl rfl (Nat.le_of_ble_eq_true rfl) ⟨Nat.le_of_ble_eq_true rfl, Nat.le_of_ble_eq_true rfl⟩ dX5_copy_113 (fun H locs hP hS => ?_)
                subst hQ
                exact mp_ri hx hb hr hlocks hP hS dX5_copy_116 (by first | with_reducible rfl | (simp only [fnd, cpOk, Bool.not_true, Bool.not_false, if_pos c_4, if_pos c_11, if_neg c_27, if_neg c_36, if_pos c_59, if_neg c_70, if_pos c_75]; done) | (simp only [fnd, cpOk, Bool.not_true, Bool.not_false, decide_eq_false c_27, decide_eq_false c_36, decide_eq_true c_59, decide_eq_false c_70, decide_eq_true c_75, hcl_i, hcl_k, c_4, c_11, if_neg c_27, if_neg c_36, if_pos c_59, if_neg c_70, if_pos c_75, Bool.true_and, Bool.false_and, Bool.true_or, Bool.or_true, Bool.false_or, Bool.or_false, Bool.and_true, Bool.and_false, Bool.or_self, Bool.and_self, Bool.false_eq_true, Bool.true_eq_false, and_true, true_and, false_and, and_false, and_self, not_true_eq_false, not_false_eq_true, if_true, if_false, reduceIte, or_false, false_or, true_or, or_true]; done) | (subst_vars; first | with_reducible rfl | (simp only [fnd, cpOk, Bool.not_true, Bool.not_false, if_pos c_4, if_pos c_11, if_neg c_27, if_neg c_36, if_pos c_59, if_neg c_70, if_pos c_75]; done) | (simp only [fnd, cpOk, Bool.not_true, Bool.not_false, decide_eq_false c_27, decide_eq_false c_36, decide_eq_true c_59, decide_eq_false c_70, decide_eq_true c_75, hcl_i, hcl_k, c_4, c_11, if_neg c_27, if_neg c_36, if_pos c_59, if_neg c_70, if_pos c_75, Bool.true_and, Bool.false_and, Bool.true_or, Bool.or_true, Bool.false_or, Bool.or_false, Bool.and_true, Bool.and_false, Bool.or_self, Bool.and_self, Bool.false_eq_true, Bool.true_eq_false, and_true, true_and, false_and, and_false, and_self, not_true_eq_false, not_false_eq_true, if_true, if_false, reduceIte, or_false, false_or, true_or, or_true]; done)) | contradiction | rfl) (by first | with_reducible rfl | (simp only [fnd, cpOk, Bool.not_true, Bool.not_false, if_pos c_4, if_pos c_11, if_neg c_27, if_neg c_36, if_pos c_59, if_neg c_70, if_pos c_75]; done) | (simp only [fnd, cpOk, Bool.not_true, Bool.not_false, decide_eq_false c_27, decide_eq_false c_36, decide_eq_true c_59, decide_eq_false c_70, decide_eq_true c_75, hcl_i, hcl_k, c_4, c_11, if_neg c_27, if_neg c_36, if_pos c_59, if_neg c_70, if_pos c_75, Bool.true_and, Bool.false_and, Bool.true_or, Bool.or_true, Bool.false_or, Bool.or_false, Bool.and_true, Bool.and_false, Bool.or_self, Bool.and_self, Bool.false_eq_true, Bool.true_eq_false, and_true, true_and, false_and, and_false, and_self, not_true_eq_false, not_false_eq_true, if_true, if_false, reduceIte, or_false, false_or, true_or, or_true]; done) | (subst_vars; first | with_reducible rfl | (simp only [fnd, cpOk, Bool.not_true, Bool.not_false, if_pos c_4, if_pos c_11, if_neg c_27, if_neg c_36, if_pos c_59, if_neg c_70, if_pos c_75]; done) | (simp only [fnd, cpOk, Bool.not_true, Bool.not_false, decide_eq_false c_27, decide_eq_false c_36, decide_eq_true c_59, decide_eq_false c_70, decide_eq_true c_75, hcl_i, hcl_k, c_4, c_11, if_neg c_27, if_neg c_36, if_pos c_59, if_neg c_70, if_pos c_75, Bool.true_and, Bool.false_and, Bool.true_or, Bool.or_true, Bool.false_or, Bool.or_false, Bool.and_true, Bool.and_false, Bool.or_self, Bool.and_self, Bool.false_eq_true, Bool.true_eq_false, and_true, true_and, false_and, and_false, and_self, not_true_eq_false, not_false_eq_true, if_true, if_false, reduceIte, or_false, false_or, true_or, or_true]; done)) | contradiction | rfl)
              · skip
                refine lv_iload hx hb dX5_copy_78 (lv_at hl 5 rfl) ?_
                refine lv_if_lt (tgt := 110) hx hb dX5_copy_80 (by decide) (fun c_80 => ?_) (fun c_80 => ?_)
                · skip
                  refine lv_aload_n hx hb dX5_copy_110 rfl (lv_at hl 0 rfl) ?_
                  refine lv_ldc (v := (-1000000001)) hx hb hown (hts (.constant RX5 41 ((-1000000001))) (by decide +kernel)) dX5_copy_111 ?_
                  refine wq_V S mK_ok hK hP hS (c_X5_finds (t := 0) (by decide)) gX5_copy_X5_finds i_X5_finds rfl (m_rec hK hP) ⟨Nat.le_of_ble_eq_true rfl, Nat.le_of_ble_eq_true rfl⟩ rfl hl.1 (As := [.int ((-1000000001))]) (rest := []) (st1 := [.int ((-1000000001))]) rfl rfl (Nat.le_of_ble_eq_true rfl) ⟨Nat.le_of_ble_eq_true rfl, Nat.le_of_ble_eq_true rfl⟩ dX5_copy_113 (fun H locs hP hS => ?_)
                  subst hQ
                  exact mp_ri hx hb hr hlocks hP hS dX5_copy_116 (by first | with_reducible rfl | (simp only [fnd, cpOk, Bool.not_true, Bool.not_false, if_pos c_4, if_pos c_11, if_neg c_27, if_neg c_36, if_pos c_59, if_neg c_70, if_neg c_75, if_pos c_80]; done) | (simp only [fnd, cpOk, Bool.not_true, Bool.not_false, decide_eq_false c_27, decide_eq_false c_36, decide_eq_true c_59, decide_eq_false c_70, decide_eq_false c_75, decide_eq_true c_80, hcl_i, hcl_k, c_4, c_11, if_neg c_27, if_neg c_36, if_pos c_59, if_neg c_70, if_neg c_75, if_pos c_80, Bool.true_and, Bool.false_and, Bool.true_or, Bool.or_true, Bool.false_or, Bool.or_false, Bool.and_true, Bool.and_false, Bool.or_self, Bool.and_self, Bool.false_eq_true, Bool.true_eq_false, and_true, true_and, false_and, and_false, and_self, not_true_eq_false, not_false_eq_true, if_true, if_false, reduceIte, or_false, false_or, true_or, or_true]; done) | (subst_vars; first | with_reducible rfl | (simp only [fnd, cpOk, Bool.not_true, Bool.not_false, if_pos c_4, if_pos c_11, if_neg c_27, if_neg c_36, if_pos c_59, if_neg c_70, if_neg c_75, if_pos c_80]; done) | (simp only [fnd, cpOk, Bool.not_true, Bool.not_false, decide_eq_false c_27, decide_eq_false c_36, decide_eq_true c_59, decide_eq_false c_70, decide_eq_false c_75, decide_eq_true c_80, hcl_i, hcl_k, c_4, c_11, if_neg c_27, if_neg c_36, if_pos c_59, if_neg c_70, if_neg c_75, if_pos c_80, Bool.true_and, Bool.false_and, Bool.true_or, Bool.or_true, Bool.false_or, Bool.or_false, Bool.and_true, Bool.and_false, Bool.or_self, Bool.and_self, Bool.false_eq_true, Bool.true_eq_false, and_true, true_and, false_and, and_false, and_self, not_true_eq_false, not_false_eq_true, if_true, if_false, reduceIte, or_false, false_or, true_or, or_true]; done)) | contradiction | rfl) (by first | with_reducible rfl | (simp only [fnd, cpOk, Bool.not_true, Bool.not_false, if_pos c_4, if_pos c_11, if_neg c_27, if_neg c_36, if_pos c_59, if_neg c_70, if_neg c_75, if_pos c_80]; done) | (simp only [fnd, cpOk, Bool.not_true, Bool.not_false, decide_eq_false c_27, decide_eq_false c_36, decide_eq_true c_59, decide_eq_false c_70, decide_eq_false c_75, decide_eq_true c_80, hcl_i, hcl_k, c_4, c_11, if_neg c_27, if_neg c_36, if_pos c_59, if_neg c_70, if_neg c_75, if_pos c_80, Bool.true_and, Bool.false_and, Bool.true_or, Bool.or_true, Bool.false_or, Bool.or_false, Bool.and_true, Bool.and_false, Bool.or_self, Bool.and_self, Bool.false_eq_true, Bool.true_eq_false, and_true, true_and, false_and, and_false, and_self, not_true_eq_false, not_false_eq_true, if_true, if_false, reduceIte, or_false, false_or, true_or, or_true]; done) | (subst_vars; first | with_reducible rfl | (simp only [fnd, cpOk, Bool.not_true, Bool.not_false, if_pos c_4, if_pos c_11, if_neg c_27, if_neg c_36, if_pos c_59, if_neg c_70, if_neg c_75, if_pos c_80]; done) | (simp only [fnd, cpOk, Bool.not_true, Bool.not_false, decide_eq_false c_27, decide_eq_false c_36, decide_eq_true c_59, decide_eq_false c_70, decide_eq_false c_75, decide_eq_true c_80, hcl_i, hcl_k, c_4, c_11, if_neg c_27, if_neg c_36, if_pos c_59, if_neg c_70, if_neg c_75, if_pos c_80, Bool.true_and, Bool.false_and, Bool.true_or, Bool.or_true, Bool.false_or, Bool.or_false, Bool.and_true, Bool.and_false, Bool.or_self, Bool.and_self, Bool.false_eq_true, Bool.true_eq_false, and_true, true_and, false_and, and_false, and_self, not_true_eq_false, not_false_eq_true, if_true, if_false, reduceIte, or_false, false_or, true_or, or_true]; done)) | contradiction | rfl)
                · skip
                  refine lv_iload hx hb dX5_copy_83 (lv_at hl 5 rfl) ?_
                  refine lv_aload_n hx hb dX5_copy_85 rfl (lv_at hl 0 rfl) ?_
                  refine m_get hx hb hts hin hown hK hP 13 (by decide) (hts (.fieldLink RX5 31 "PennyRoadModel" "sizeOf" "[I") (by decide +kernel)) rfl dX5_copy_86 ?_
                  refine lv_iload_n hx hb dX5_copy_89 rfl (lv_at hl 1 rfl) ?_
                  refine m_ald hx hb hK hP 8 rfl (by decide) (by omega) dX5_copy_90 ?_
                  refine lv_iload_n hx hb dX5_copy_91 rfl (lv_at hl 2 rfl) ?_
                  refine lv_isub hx hb dX5_copy_92 ?_
                  refine lv_icmp_gt (tgt := 110) hx hb dX5_copy_93 (by decide) (fun c_93 => ?_) (fun c_93 => ?_)
                  · skip
                    refine lv_aload_n hx hb dX5_copy_110 rfl (lv_at hl 0 rfl) ?_
                    refine lv_ldc (v := (-1000000001)) hx hb hown (hts (.constant RX5 41 ((-1000000001))) (by decide +kernel)) dX5_copy_111 ?_
                    refine wq_V S mK_ok hK hP hS (c_X5_finds (t := 0) (by decide)) gX5_copy_X5_finds i_X5_finds rfl (m_rec hK hP) ⟨Nat.le_of_ble_eq_true rfl, Nat.le_of_ble_eq_true rfl⟩ rfl hl.1 (As := [.int ((-1000000001))]) (rest := []) (st1 := [.int ((-1000000001))]) rfl rfl (Nat.le_of_ble_eq_true rfl) ⟨Nat.le_of_ble_eq_true rfl, Nat.le_of_ble_eq_true rfl⟩ dX5_copy_113 (fun H locs hP hS => ?_)
                    subst hQ
                    exact mp_ri hx hb hr hlocks hP hS dX5_copy_116 (by first | with_reducible rfl | (simp only [fnd, cpOk, Bool.not_true, Bool.not_false, if_pos c_4, if_pos c_11, if_neg c_27, if_neg c_36, if_pos c_59, if_neg c_70, if_neg c_75, if_neg c_80, if_pos c_93]; done) | (simp only [fnd, cpOk, Bool.not_true, Bool.not_false, decide_eq_false c_27, decide_eq_false c_36, decide_eq_true c_59, decide_eq_false c_70, decide_eq_false c_75, decide_eq_false c_80, decide_eq_true c_93, hcl_i, hcl_k, c_4, c_11, if_neg c_27, if_neg c_36, if_pos c_59, if_neg c_70, if_neg c_75, if_neg c_80, if_pos c_93, Bool.true_and, Bool.false_and, Bool.true_or, Bool.or_true, Bool.false_or, Bool.or_false, Bool.and_true, Bool.and_false, Bool.or_self, Bool.and_self, Bool.false_eq_true, Bool.true_eq_false, and_true, true_and, false_and, and_false, and_self, not_true_eq_false, not_false_eq_true, if_true, if_false, reduceIte, or_false, false_or, true_or, or_true]; done) | (subst_vars; first | with_reducible rfl | (simp only [fnd, cpOk, Bool.not_true, Bool.not_false, if_pos c_4, if_pos c_11, if_neg c_27, if_neg c_36, if_pos c_59, if_neg c_70, if_neg c_75, if_neg c_80, if_pos c_93]; done) | (simp only [fnd, cpOk, Bool.not_true, Bool.not_false, decide_eq_false c_27, decide_eq_false c_36, decide_eq_true c_59, decide_eq_false c_70, decide_eq_false c_75, decide_eq_false c_80, decide_eq_true c_93, hcl_i, hcl_k, c_4, c_11, if_neg c_27, if_neg c_36, if_pos c_59, if_neg c_70, if_neg c_75, if_neg c_80, if_pos c_93, Bool.true_and, Bool.false_and, Bool.true_or, Bool.or_true, Bool.false_or, Bool.or_false, Bool.and_true, Bool.and_false, Bool.or_self, Bool.and_self, Bool.false_eq_true, Bool.true_eq_false, and_true, true_and, false_and, and_false, and_self, not_true_eq_false, not_false_eq_true, if_true, if_false, reduceIte, or_false, false_or, true_or, or_true]; done)) | contradiction | rfl) (by first | with_reducible rfl | (simp only [fnd, cpOk, Bool.not_true, Bool.not_false, if_pos c_4, if_pos c_11, if_neg c_27, if_neg c_36, if_pos c_59, if_neg c_70, if_neg c_75, if_neg c_80, if_pos c_93]; done) | (simp only [fnd, cpOk, Bool.not_true, Bool.not_false, decide_eq_false c_27, decide_eq_false c_36, decide_eq_true c_59, decide_eq_false c_70, decide_eq_false c_75, decide_eq_false c_80, decide_eq_true c_93, hcl_i, hcl_k, c_4, c_11, if_neg c_27, if_neg c_36, if_pos c_59, if_neg c_70, if_neg c_75, if_neg c_80, if_pos c_93, Bool.true_and, Bool.false_and, Bool.true_or, Bool.or_true, Bool.false_or, Bool.or_false, Bool.and_true, Bool.and_false, Bool.or_self, Bool.and_self, Bool.false_eq_true, Bool.true_eq_false, and_true, true_and, false_and, and_false, and_self, not_true_eq_false, not_false_eq_true, if_true, if_false, reduceIte, or_false, false_or, true_or, or_true]; done) | (subst_vars; first | with_reducible rfl | (simp only [fnd, cpOk, Bool.not_true, Bool.not_false, if_pos c_4, if_pos c_11, if_neg c_27, if_neg c_36, if_pos c_59, if_neg c_70, if_neg c_75, if_neg c_80, if_pos c_93]; done) | (simp only [fnd, cpOk, Bool.not_true, Bool.not_false, decide_eq_false c_27, decide_eq_false c_36, decide_eq_true c_59, decide_eq_false c_70, decide_eq_false c_75, decide_eq_false c_80, decide_eq_true c_93, hcl_i, hcl_k, c_4, c_11, if_neg c_27, if_neg c_36, if_pos c_59, if_neg c_70, if_neg c_75, if_neg c_80, if_pos c_93, Bool.true_and, Bool.false_and, Bool.true_or, Bool.or_true, Bool.false_or, Bool.or_false, Bool.and_true, Bool.and_false, Bool.or_self, Bool.and_self, Bool.false_eq_true, Bool.true_eq_false, and_true, true_and, false_and, and_false, and_self, not_true_eq_false, not_false_eq_true, if_true, if_false, reduceIte, or_false, false_or, true_or, or_true]; done)) | contradiction | rfl)
                  · skip
                    refine lv_iload hx hb dX5_copy_96 (lv_at hl 5 rfl) ?_
                    refine lv_aload_n hx hb dX5_copy_98 rfl (lv_at hl 0 rfl) ?_
                    refine m_get hx hb hts hin hown hK hP 13 (by decide) (hts (.fieldLink RX5 31 "PennyRoadModel" "sizeOf" "[I") (by decide +kernel)) rfl dX5_copy_99 ?_
                    refine lv_iload_n hx hb dX5_copy_102 rfl (lv_at hl 3 rfl) ?_
                    refine m_ald hx hb hK hP 8 rfl (by decide) (by omega) dX5_copy_103 ?_
                    refine lv_iload hx hb dX5_copy_104 (lv_at hl 4 rfl) ?_
                    refine lv_isub hx hb dX5_copy_106 ?_
                    refine lv_icmp_le (tgt := 117) hx hb dX5_copy_107 (by decide) (fun c_107 => ?_) (fun c_107 => ?_)
                    · skip
                      obtain ⟨z1, hz1, hze1⟩ := hz i (by omega)
                      obtain ⟨z2, hz2, hze2⟩ := hz k (by omega)
                      obtain ⟨b_, n_, rfl, rfl, hbn⟩ := cp_ix hz1 hze1 c_70 c_80 c_93
                      obtain ⟨d_, n9, rfl, hn9, hdn⟩ := cp_ix hz2 hze2 c_75 c_80 (Int32.not_lt.mpr c_107)
                      have hn8 : n9 = n_ := cp_nn hn9 (by omega) (by omega)
                      subst hn8
                      have hcl_b_ : (nI b_).toNatClampNeg = b_ := nI_clamp (by omega)
                      have hcl_n9 : (nI n9).toNatClampNeg = n9 := nI_clamp (by omega)
                      have hcl_d_ : (nI d_).toNatClampNeg = d_ := nI_clamp (by omega)
                      refine lv_iconst (v := nI 0) hx hb dX5_copy_117 (by decide) ?_
                      refine lv_istore (lv' := [(6, .int (nI 0)), (0, .ref (ad 0)), (1, .int (nI i)), (2, .int (nI b_)), (3, .int (nI k)), (4, .int (nI d_)), (5, .int (nI n9))]) hx hb dX5_copy_118 hl (by decide) rfl (fun ls hl => ?_)
                      have L_120 : ∀ (n0 : Nat) (j : Nat) (H : Heap) (locs : List Loc) (ls : Array Slot), (j + n0 = n9) → va_P D vwCl (mw cy ad sr kS ot asd stt ik tp td fr tt vl wr bo so nu (cpnL j (fun x => nu (40 * i + b_ + x)) mv)) H → va_S (mA ad) s0.heap H locs → lv_has ls 7 [(6, .int (nI j)), (0, .ref (ad 0)), (1, .int (nI i)), (2, .int (nI b_)), (3, .int (nI k)), (4, .int (nI d_)), (5, .int (nI n9))] → W p l e (rmz 2 45) s0 m args below meth c H locs 0 0 Q (F0 m 120 ls []) := by
                        intro n0
                        induction n0 with
                        | zero =>
                          intro j H locs ls hj hP hS hl
                          refine lv_iload hx hb dX5_copy_120 (lv_at hl 0 rfl) ?_
                          refine lv_iload hx hb dX5_copy_122 (lv_at hl 6 rfl) ?_
                          refine lvn_icmp_ge (tgt := 154) hx hb dX5_copy_124 (by decide) (by omega) (by omega) (fun c_124 => ?_) (fun c_124 => ?_)
                          · skip
                            have hj9 : n9 = j := by omega
                            subst hj9
                            refine lv_iconst (v := nI 0) hx hb dX5_copy_154 (by decide) ?_
                            refine lv_istore (lv' := [(6, .int (nI 0)), (0, .ref (ad 0)), (1, .int (nI i)), (2, .int (nI b_)), (3, .int (nI k)), (4, .int (nI d_)), (5, .int (nI n9))]) hx hb dX5_copy_155 hl (by decide) rfl (fun ls hl => ?_)
                            have L_157 : ∀ (n0 : Nat) (j : Nat) (H : Heap) (locs : List Loc) (ls : Array Slot), (j + n0 = n9) → va_P D vwCl (mw cy ad sr kS ot asd stt ik tp td fr tt vl wr bo so (va_cpy (cpnL n9 (fun x => nu (40 * i + b_ + x)) mv) nu 0 (40 * k + d_) j) (cpnL n9 (fun x => nu (40 * i + b_ + x)) mv)) H → va_S (mA ad) s0.heap H locs → lv_has ls 7 [(6, .int (nI j)), (0, .ref (ad 0)), (1, .int (nI i)), (2, .int (nI b_)), (3, .int (nI k)), (4, .int (nI d_)), (5, .int (nI n9))] → W p l e (rmz 2 45) s0 m args below meth c H locs 0 0 Q (F0 m 157 ls []) := by
                              intro n0
                              induction n0 with
                              | zero =>
                                intro j H locs ls hj hP hS hl
                                refine lv_iload hx hb dX5_copy_157 (lv_at hl 0 rfl) ?_
                                refine lv_iload hx hb dX5_copy_159 (lv_at hl 6 rfl) ?_
                                refine lvn_icmp_ge (tgt := 192) hx hb dX5_copy_161 (by decide) (by omega) (by omega) (fun c_161 => ?_) (fun c_161 => ?_)
                                · skip
                                  have hj9 : n9 = j := by omega
                                  subst hj9
                                  rw [cpy_mv] at hP
                                  refine lv_iload hx hb dX5_copy_192 (lv_at hl 6 rfl) ?_
                                  subst hQ
                                  exact mp_ri hx hb hr hlocks hP hS dX5_copy_194 (by first | with_reducible rfl | (simp only [fnd, cpOk, Bool.not_true, Bool.not_false, if_pos c_4, if_pos c_11, if_neg c_27, if_neg c_36, if_pos c_59, if_neg c_70, if_neg c_75, if_neg c_80, if_neg c_93, if_pos c_107, if_pos c_124, if_pos c_161]; done) | (simp only [fnd, cpOk, Bool.not_true, Bool.not_false, decide_eq_false c_27, decide_eq_false c_36, decide_eq_true c_59, decide_eq_false c_70, decide_eq_false c_75, decide_eq_false c_80, decide_eq_false c_93, decide_eq_true c_107, decide_eq_true c_124, decide_eq_true c_161, hcl_i, hcl_k, hcl_b_, hcl_n9, hcl_d_, c_4, c_11, if_neg c_27, if_neg c_36, if_pos c_59, if_neg c_70, if_neg c_75, if_neg c_80, if_neg c_93, if_pos c_107, if_pos c_124, if_pos c_161, Bool.true_and, Bool.false_and, Bool.true_or, Bool.or_true, Bool.false_or, Bool.or_false, Bool.and_true, Bool.and_false, Bool.or_self, Bool.and_self, Bool.false_eq_true, Bool.true_eq_false, and_true, true_and, false_and, and_false, and_self, not_true_eq_false, not_false_eq_true, if_true, if_false, reduceIte, or_false, false_or, true_or, or_true]; done) | (subst_vars; first | with_reducible rfl | (simp only [fnd, cpOk, Bool.not_true, Bool.not_false, if_pos c_4, if_pos c_11, if_neg c_27, if_neg c_36, if_pos c_59, if_neg c_70, if_neg c_75, if_neg c_80, if_neg c_93, if_pos c_107, if_pos c_124, if_pos c_161]; done) | (simp only [fnd, cpOk, Bool.not_true, Bool.not_false, decide_eq_false c_27, decide_eq_false c_36, decide_eq_true c_59, decide_eq_false c_70, decide_eq_false c_75, decide_eq_false c_80, decide_eq_false c_93, decide_eq_true c_107, decide_eq_true c_124, decide_eq_true c_161, hcl_i, hcl_k, hcl_b_, hcl_n9, hcl_d_, c_4, c_11, if_neg c_27, if_neg c_36, if_pos c_59, if_neg c_70, if_neg c_75, if_neg c_80, if_neg c_93, if_pos c_107, if_pos c_124, if_pos c_161, Bool.true_and, Bool.false_and, Bool.true_or, Bool.or_true, Bool.false_or, Bool.or_false, Bool.and_true, Bool.and_false, Bool.or_self, Bool.and_self, Bool.false_eq_true, Bool.true_eq_false, and_true, true_and, false_and, and_false, and_self, not_true_eq_false, not_false_eq_true, if_true, if_false, reduceIte, or_false, false_or, true_or, or_true]; done)) | contradiction | rfl) (by first | with_reducible rfl | (simp only [fnd, cpOk, Bool.not_true, Bool.not_false, if_pos c_4, if_pos c_11, if_neg c_27, if_neg c_36, if_pos c_59, if_neg c_70, if_neg c_75, if_neg c_80, if_neg c_93, if_pos c_107, if_pos c_124, if_pos c_161]; done) | (simp only [fnd, cpOk, Bool.not_true, Bool.not_false, decide_eq_false c_27, decide_eq_false c_36, decide_eq_true c_59, decide_eq_false c_70, decide_eq_false c_75, decide_eq_false c_80, decide_eq_false c_93, decide_eq_true c_107, decide_eq_true c_124, decide_eq_true c_161, hcl_i, hcl_k, hcl_b_, hcl_n9, hcl_d_, c_4, c_11, if_neg c_27, if_neg c_36, if_pos c_59, if_neg c_70, if_neg c_75, if_neg c_80, if_neg c_93, if_pos c_107, if_pos c_124, if_pos c_161, Bool.true_and, Bool.false_and, Bool.true_or, Bool.or_true, Bool.false_or, Bool.or_false, Bool.and_true, Bool.and_false, Bool.or_self, Bool.and_self, Bool.false_eq_true, Bool.true_eq_false, and_true, true_and, false_and, and_false, and_self, not_true_eq_false, not_false_eq_true, if_true, if_false, reduceIte, or_false, false_or, true_or, or_true]; done) | (subst_vars; first | with_reducible rfl | (simp only [fnd, cpOk, Bool.not_true, Bool.not_false, if_pos c_4, if_pos c_11, if_neg c_27, if_neg c_36, if_pos c_59, if_neg c_70, if_neg c_75, if_neg c_80, if_neg c_93, if_pos c_107, if_pos c_124, if_pos c_161]; done) | (simp only [fnd, cpOk, Bool.not_true, Bool.not_false, decide_eq_false c_27, decide_eq_false c_36, decide_eq_true c_59, decide_eq_false c_70, decide_eq_false c_75, decide_eq_false c_80, decide_eq_false c_93, decide_eq_true c_107, decide_eq_true c_124, decide_eq_true c_161, hcl_i, hcl_k, hcl_b_, hcl_n9, hcl_d_, c_4, c_11, if_neg c_27, if_neg c_36, if_pos c_59, if_neg c_70, if_neg c_75, if_neg c_80, if_neg c_93, if_pos c_107, if_pos c_124, if_pos c_161, Bool.true_and, Bool.false_and, Bool.true_or, Bool.or_true, Bool.false_or, Bool.or_false, Bool.and_true, Bool.and_false, Bool.or_self, Bool.and_self, Bool.false_eq_true, Bool.true_eq_false, and_true, true_and, false_and, and_false, and_self, not_true_eq_false, not_false_eq_true, if_true, if_false, reduceIte, or_false, false_or, true_or, or_true]; done)) | contradiction | rfl)
                                · skip
                                  exfalso; omega
                              | succ n0 ih_157 =>
                                intro j H locs ls hj hP hS hl
                                refine lv_iload hx hb dX5_copy_157 (lv_at hl 0 rfl) ?_
                                refine lv_iload hx hb dX5_copy_159 (lv_at hl 6 rfl) ?_
                                refine lvn_icmp_ge (tgt := 192) hx hb dX5_copy_161 (by decide) (by omega) (by omega) (fun c_161 => ?_) (fun c_161 => ?_)
                                · skip
                                  exfalso; omega
                                · skip
                                  refine lv_aload_n hx hb dX5_copy_164 rfl (lv_at hl 1 rfl) ?_
                                  refine m_get hx hb hts hin hown hK hP 14 (by decide) (hts (.fieldLink RX5 34 "PennyRoadModel" "numbers" "[J") (by decide +kernel)) rfl dX5_copy_165 ?_
                                  refine lv_bipush (v := nI 40) hx hb dX5_copy_168 (by decide) ?_
                                  refine lv_iload_n hx hb dX5_copy_170 rfl (lv_at hl 4 rfl) ?_
                                  refine lvn_imul hx hb dX5_copy_171 ?_
                                  refine lv_iload hx hb dX5_copy_172 (lv_at hl 5 rfl) ?_
                                  refine lvn_iadd hx hb dX5_copy_174 ?_
                                  refine lv_iload hx hb dX5_copy_175 (lv_at hl 0 rfl) ?_
                                  refine lvn_iadd hx hb dX5_copy_177 ?_
                                  refine lv_aload_n hx hb dX5_copy_178 rfl (lv_at hl 1 rfl) ?_
                                  refine m_get hx hb hts hin hown hK hP 15 (by decide) (hts (.fieldLink RX5 38 "PennyRoadModel" "moved" "[J") (by decide +kernel)) rfl dX5_copy_179 ?_
                                  refine lv_iload hx hb dX5_copy_182 (lv_at hl 0 rfl) ?_
                                  refine m_lald hx hb hK hP 10 rfl (by decide) (by omega) dX5_copy_184 ?_
                                  refine m_last (w' := (mw cy ad sr kS ot asd stt ik tp td fr tt vl wr bo so (vp_updL (va_cpy (cpnL n9 (fun x => nu (40 * i + b_ + x)) mv) nu 0 (40 * k + d_) j) (((40 * k) + d_) + j) ((cpnL n9 (fun x => nu (40 * i + b_ + x)) mv) j)) (cpnL n9 (fun x => nu (40 * i + b_ + x)) mv))) hx hb hK hP hS 9 rfl (by decide) (by omega) rfl dX5_copy_185 (fun H locs hP hS => ?_)
                                  refine lv_iinc (v := nI (j + 1)) (lv' := [(6, .int (nI (j + 1))), (0, .ref (ad 0)), (1, .int (nI i)), (2, .int (nI b_)), (3, .int (nI k)), (4, .int (nI d_)), (5, .int (nI n9))]) hx hb dX5_copy_186 hl (k := 0) rfl (nI_add _ _) (by decide) rfl (fun ls hl => ?_)
                                  refine lv_goto (tgt := 157) hx hb dX5_copy_189 (by decide) ?_
                                  exact ih_157 (j + 1) _ _ ls (by omega) (by rw [← cpy_s]; exact hP) hS hl
                            exact L_157 n9 0 _ _ ls (by omega) (by rw [cpy_0]; exact hP) hS hl
                          · skip
                            exfalso; omega
                        | succ n0 ih_120 =>
                          intro j H locs ls hj hP hS hl
                          refine lv_iload hx hb dX5_copy_120 (lv_at hl 0 rfl) ?_
                          refine lv_iload hx hb dX5_copy_122 (lv_at hl 6 rfl) ?_
                          refine lvn_icmp_ge (tgt := 154) hx hb dX5_copy_124 (by decide) (by omega) (by omega) (fun c_124 => ?_) (fun c_124 => ?_)
                          · skip
                            exfalso; omega
                          · skip
                            refine lv_aload_n hx hb dX5_copy_127 rfl (lv_at hl 1 rfl) ?_
                            refine m_get hx hb hts hin hown hK hP 15 (by decide) (hts (.fieldLink RX5 38 "PennyRoadModel" "moved" "[J") (by decide +kernel)) rfl dX5_copy_128 ?_
                            refine lv_iload hx hb dX5_copy_131 (lv_at hl 0 rfl) ?_
                            refine lv_aload_n hx hb dX5_copy_133 rfl (lv_at hl 1 rfl) ?_
                            refine m_get hx hb hts hin hown hK hP 14 (by decide) (hts (.fieldLink RX5 34 "PennyRoadModel" "numbers" "[J") (by decide +kernel)) rfl dX5_copy_134 ?_
                            refine lv_bipush (v := nI 40) hx hb dX5_copy_137 (by decide) ?_
                            refine lv_iload_n hx hb dX5_copy_139 rfl (lv_at hl 2 rfl) ?_
                            refine lvn_imul hx hb dX5_copy_140 ?_
                            refine lv_iload_n hx hb dX5_copy_141 rfl (lv_at hl 3 rfl) ?_
                            refine lvn_iadd hx hb dX5_copy_142 ?_
                            refine lv_iload hx hb dX5_copy_143 (lv_at hl 0 rfl) ?_
                            refine lvn_iadd hx hb dX5_copy_145 ?_
                            refine m_lald hx hb hK hP 9 rfl (by decide) (by omega) dX5_copy_146 ?_
                            refine m_last (w' := (mw cy ad sr kS ot asd stt ik tp td fr tt vl wr bo so nu (vp_updL (cpnL j (fun x => nu (40 * i + b_ + x)) mv) j (nu (((40 * i) + b_) + j))))) hx hb hK hP hS 10 rfl (by decide) (by omega) rfl dX5_copy_147 (fun H locs hP hS => ?_)
                            refine lv_iinc (v := nI (j + 1)) (lv' := [(6, .int (nI (j + 1))), (0, .ref (ad 0)), (1, .int (nI i)), (2, .int (nI b_)), (3, .int (nI k)), (4, .int (nI d_)), (5, .int (nI n9))]) hx hb dX5_copy_148 hl (k := 0) rfl (nI_add _ _) (by decide) rfl (fun ls hl => ?_)
                            refine lv_goto (tgt := 120) hx hb dX5_copy_151 (by decide) ?_
                            exact ih_120 (j + 1) _ _ ls (by omega) (by rw [← cpnL_s]; exact hP) hS hl
                      exact L_120 n9 0 _ _ ls (by omega) (by rw [cpnL_0]; exact hP) hS hl
                    · skip
                      refine lv_aload_n hx hb dX5_copy_110 rfl (lv_at hl 0 rfl) ?_
                      refine lv_ldc (v := (-1000000001)) hx hb hown (hts (.constant RX5 41 ((-1000000001))) (by decide +kernel)) dX5_copy_111 ?_
                      refine wq_V S mK_ok hK hP hS (c_X5_finds (t := 0) (by decide)) gX5_copy_X5_finds i_X5_finds rfl (m_rec hK hP) ⟨Nat.le_of_ble_eq_true rfl, Nat.le_of_ble_eq_true rfl⟩ rfl hl.1 (As := [.int ((-1000000001))]) (rest := []) (st1 := [.int ((-1000000001))]) rfl rfl (Nat.le_of_ble_eq_true rfl) ⟨Nat.le_of_ble_eq_true rfl, Nat.le_of_ble_eq_true rfl⟩ dX5_copy_113 (fun H locs hP hS => ?_)
                      subst hQ
                      exact mp_ri hx hb hr hlocks hP hS dX5_copy_116 (by first | with_reducible rfl | (simp only [fnd, cpOk, Bool.not_true, Bool.not_false, if_pos c_4, if_pos c_11, if_neg c_27, if_neg c_36, if_pos c_59, if_neg c_70, if_neg c_75, if_neg c_80, if_neg c_93, if_neg c_107]; done) | (simp only [fnd, cpOk, Bool.not_true, Bool.not_false, decide_eq_false c_27, decide_eq_false c_36, decide_eq_true c_59, decide_eq_false c_70, decide_eq_false c_75, decide_eq_false c_80, decide_eq_false c_93, decide_eq_false c_107, hcl_i, hcl_k, c_4, c_11, if_neg c_27, if_neg c_36, if_pos c_59, if_neg c_70, if_neg c_75, if_neg c_80, if_neg c_93, if_neg c_107, Bool.true_and, Bool.false_and, Bool.true_or, Bool.or_true, Bool.false_or, Bool.or_false, Bool.and_true, Bool.and_false, Bool.or_self, Bool.and_self, Bool.false_eq_true, Bool.true_eq_false, and_true, true_and, false_and, and_false, and_self, not_true_eq_false, not_false_eq_true, if_true, if_false, reduceIte, or_false, false_or, true_or, or_true]; done) | (subst_vars; first | with_reducible rfl | (simp only [fnd, cpOk, Bool.not_true, Bool.not_false, if_pos c_4, if_pos c_11, if_neg c_27, if_neg c_36, if_pos c_59, if_neg c_70, if_neg c_75, if_neg c_80, if_neg c_93, if_neg c_107]; done) | (simp only [fnd, cpOk, Bool.not_true, Bool.not_false, decide_eq_false c_27, decide_eq_false c_36, decide_eq_true c_59, decide_eq_false c_70, decide_eq_false c_75, decide_eq_false c_80, decide_eq_false c_93, decide_eq_false c_107, hcl_i, hcl_k, c_4, c_11, if_neg c_27, if_neg c_36, if_pos c_59, if_neg c_70, if_neg c_75, if_neg c_80, if_neg c_93, if_neg c_107, Bool.true_and, Bool.false_and, Bool.true_or, Bool.or_true, Bool.false_or, Bool.or_false, Bool.and_true, Bool.and_false, Bool.or_self, Bool.and_self, Bool.false_eq_true, Bool.true_eq_false, and_true, true_and, false_and, and_false, and_self, not_true_eq_false, not_false_eq_true, if_true, if_false, reduceIte, or_false, false_or, true_or, or_true]; done)) | contradiction | rfl) (by first | with_reducible rfl | (simp only [fnd, cpOk, Bool.not_true, Bool.not_false, if_pos c_4, if_pos c_11, if_neg c_27, if_neg c_36, if_pos c_59, if_neg c_70, if_neg c_75, if_neg c_80, if_neg c_93, if_neg c_107]; done) | (simp only [fnd, cpOk, Bool.not_true, Bool.not_false, decide_eq_false c_27, decide_eq_false c_36, decide_eq_true c_59, decide_eq_false c_70, decide_eq_false c_75, decide_eq_false c_80, decide_eq_false c_93, decide_eq_false c_107, hcl_i, hcl_k, c_4, c_11, if_neg c_27, if_neg c_36, if_pos c_59, if_neg c_70, if_neg c_75, if_neg c_80, if_neg c_93, if_neg c_107, Bool.true_and, Bool.false_and, Bool.true_or, Bool.or_true, Bool.false_or, Bool.or_false, Bool.and_true, Bool.and_false, Bool.or_self, Bool.and_self, Bool.false_eq_true, Bool.true_eq_false, and_true, true_and, false_and, and_false, and_self, not_true_eq_false, not_false_eq_true, if_true, if_false, reduceIte, or_false, false_or, true_or, or_true]; done) | (subst_vars; first | with_reducible rfl | (simp only [fnd, cpOk, Bool.not_true, Bool.not_false, if_pos c_4, if_pos c_11, if_neg c_27, if_neg c_36, if_pos c_59, if_neg c_70, if_neg c_75, if_neg c_80, if_neg c_93, if_neg c_107]; done) | (simp only [fnd, cpOk, Bool.not_true, Bool.not_false, decide_eq_false c_27, decide_eq_false c_36, decide_eq_true c_59, decide_eq_false c_70, decide_eq_false c_75, decide_eq_false c_80, decide_eq_false c_93, decide_eq_false c_107, hcl_i, hcl_k, c_4, c_11, if_neg c_27, if_neg c_36, if_pos c_59, if_neg c_70, if_neg c_75, if_neg c_80, if_neg c_93, if_neg c_107, Bool.true_and, Bool.false_and, Bool.true_or, Bool.or_true, Bool.false_or, Bool.or_false, Bool.and_true, Bool.and_false, Bool.or_self, Bool.and_self, Bool.false_eq_true, Bool.true_eq_false, and_true, true_and, false_and, and_false, and_self, not_true_eq_false, not_false_eq_true, if_true, if_false, reduceIte, or_false, false_or, true_or, or_true]; done)) | contradiction | rfl)
          · skip
            refine lv_aload_n hx hb dX5_copy_62 rfl (lv_at hl 0 rfl) ?_
            refine lv_ldc (v := (-1000000003)) hx hb hown (hts (.constant RX5 105 ((-1000000003))) (by decide +kernel)) dX5_copy_63 ?_
            refine wq_V S mK_ok hK hP hS (c_X5_finds (t := 2) (by decide)) gX5_copy_X5_finds i_X5_finds rfl (m_rec hK hP) ⟨Nat.le_of_ble_eq_true rfl, Nat.le_of_ble_eq_true rfl⟩ rfl hl.1 (As := [.int ((-1000000003))]) (rest := []) (st1 := [.int ((-1000000003))]) rfl rfl (Nat.le_of_ble_eq_true rfl) ⟨Nat.le_of_ble_eq_true rfl, Nat.le_of_ble_eq_true rfl⟩ dX5_copy_65 (fun H locs hP hS => ?_)
            subst hQ
            exact mp_ri hx hb hr hlocks hP hS dX5_copy_68 (by first | with_reducible rfl | (simp only [fnd, cpOk, Bool.not_true, Bool.not_false, if_pos c_4, if_pos c_11, if_neg c_27, if_neg c_36, if_neg c_59]; done) | (simp only [fnd, cpOk, Bool.not_true, Bool.not_false, decide_eq_false c_27, decide_eq_false c_36, decide_eq_false c_59, hcl_i, hcl_k, c_4, c_11, if_neg c_27, if_neg c_36, if_neg c_59, Bool.true_and, Bool.false_and, Bool.true_or, Bool.or_true, Bool.false_or, Bool.or_false, Bool.and_true, Bool.and_false, Bool.or_self, Bool.and_self, Bool.false_eq_true, Bool.true_eq_false, and_true, true_and, false_and, and_false, and_self, not_true_eq_false, not_false_eq_true, if_true, if_false, reduceIte, or_false, false_or, true_or, or_true]; done) | (subst_vars; first | with_reducible rfl | (simp only [fnd, cpOk, Bool.not_true, Bool.not_false, if_pos c_4, if_pos c_11, if_neg c_27, if_neg c_36, if_neg c_59]; done) | (simp only [fnd, cpOk, Bool.not_true, Bool.not_false, decide_eq_false c_27, decide_eq_false c_36, decide_eq_false c_59, hcl_i, hcl_k, c_4, c_11, if_neg c_27, if_neg c_36, if_neg c_59, Bool.true_and, Bool.false_and, Bool.true_or, Bool.or_true, Bool.false_or, Bool.or_false, Bool.and_true, Bool.and_false, Bool.or_self, Bool.and_self, Bool.false_eq_true, Bool.true_eq_false, and_true, true_and, false_and, and_false, and_self, not_true_eq_false, not_false_eq_true, if_true, if_false, reduceIte, or_false, false_or, true_or, or_true]; done)) | contradiction | rfl) (by first | with_reducible rfl | (simp only [fnd, cpOk, Bool.not_true, Bool.not_false, if_pos c_4, if_pos c_11, if_neg c_27, if_neg c_36, if_neg c_59]; done) | (simp only [fnd, cpOk, Bool.not_true, Bool.not_false, decide_eq_false c_27, decide_eq_false c_36, decide_eq_false c_59, hcl_i, hcl_k, c_4, c_11, if_neg c_27, if_neg c_36, if_neg c_59, Bool.true_and, Bool.false_and, Bool.true_or, Bool.or_true, Bool.false_or, Bool.or_false, Bool.and_true, Bool.and_false, Bool.or_self, Bool.and_self, Bool.false_eq_true, Bool.true_eq_false, and_true, true_and, false_and, and_false, and_self, not_true_eq_false, not_false_eq_true, if_true, if_false, reduceIte, or_false, false_or, true_or, or_true]; done) | (subst_vars; first | with_reducible rfl | (simp only [fnd, cpOk, Bool.not_true, Bool.not_false, if_pos c_4, if_pos c_11, if_neg c_27, if_neg c_36, if_neg c_59]; done) | (simp only [fnd, cpOk, Bool.not_true, Bool.not_false, decide_eq_false c_27, decide_eq_false c_36, decide_eq_false c_59, hcl_i, hcl_k, c_4, c_11, if_neg c_27, if_neg c_36, if_neg c_59, Bool.true_and, Bool.false_and, Bool.true_or, Bool.or_true, Bool.false_or, Bool.or_false, Bool.and_true, Bool.and_false, Bool.or_self, Bool.and_self, Bool.false_eq_true, Bool.true_eq_false, and_true, true_and, false_and, and_false, and_self, not_true_eq_false, not_false_eq_true, if_true, if_false, reduceIte, or_false, false_or, true_or, or_true]; done)) | contradiction | rfl)
        · skip
          refine lv_aload_n hx hb dX5_copy_39 rfl (lv_at hl 0 rfl) ?_
          refine lv_ldcw (v := (-1000000006)) hx hb hown (hts (.constant RX5 272 ((-1000000006))) (by decide +kernel)) dX5_copy_40 ?_
          refine wq_V S mK_ok hK hP hS (c_X5_finds (t := 5) (by decide)) gX5_copy_X5_finds i_X5_finds rfl (m_rec hK hP) ⟨Nat.le_of_ble_eq_true rfl, Nat.le_of_ble_eq_true rfl⟩ rfl hl.1 (As := [.int ((-1000000006))]) (rest := []) (st1 := [.int ((-1000000006))]) rfl rfl (Nat.le_of_ble_eq_true rfl) ⟨Nat.le_of_ble_eq_true rfl, Nat.le_of_ble_eq_true rfl⟩ dX5_copy_43 (fun H locs hP hS => ?_)
          subst hQ
          exact mp_ri hx hb hr hlocks hP hS dX5_copy_46 (by first | with_reducible rfl | (simp only [fnd, cpOk, Bool.not_true, Bool.not_false, if_pos c_4, if_pos c_11, if_neg c_27, if_pos c_36]; done) | (simp only [fnd, cpOk, Bool.not_true, Bool.not_false, decide_eq_false c_27, decide_eq_true c_36, hcl_i, hcl_k, c_4, c_11, if_neg c_27, if_pos c_36, Bool.true_and, Bool.false_and, Bool.true_or, Bool.or_true, Bool.false_or, Bool.or_false, Bool.and_true, Bool.and_false, Bool.or_self, Bool.and_self, Bool.false_eq_true, Bool.true_eq_false, and_true, true_and, false_and, and_false, and_self, not_true_eq_false, not_false_eq_true, if_true, if_false, reduceIte, or_false, false_or, true_or, or_true]; done) | (subst_vars; first | with_reducible rfl | (simp only [fnd, cpOk, Bool.not_true, Bool.not_false, if_pos c_4, if_pos c_11, if_neg c_27, if_pos c_36]; done) | (simp only [fnd, cpOk, Bool.not_true, Bool.not_false, decide_eq_false c_27, decide_eq_true c_36, hcl_i, hcl_k, c_4, c_11, if_neg c_27, if_pos c_36, Bool.true_and, Bool.false_and, Bool.true_or, Bool.or_true, Bool.false_or, Bool.or_false, Bool.and_true, Bool.and_false, Bool.or_self, Bool.and_self, Bool.false_eq_true, Bool.true_eq_false, and_true, true_and, false_and, and_false, and_self, not_true_eq_false, not_false_eq_true, if_true, if_false, reduceIte, or_false, false_or, true_or, or_true]; done)) | contradiction | rfl) (by first | with_reducible rfl | (simp only [fnd, cpOk, Bool.not_true, Bool.not_false, if_pos c_4, if_pos c_11, if_neg c_27, if_pos c_36]; done) | (simp only [fnd, cpOk, Bool.not_true, Bool.not_false, decide_eq_false c_27, decide_eq_true c_36, hcl_i, hcl_k, c_4, c_11, if_neg c_27, if_pos c_36, Bool.true_and, Bool.false_and, Bool.true_or, Bool.or_true, Bool.false_or, Bool.or_false, Bool.and_true, Bool.and_false, Bool.or_self, Bool.and_self, Bool.false_eq_true, Bool.true_eq_false, and_true, true_and, false_and, and_false, and_self, not_true_eq_false, not_false_eq_true, if_true, if_false, reduceIte, or_false, false_or, true_or, or_true]; done) | (subst_vars; first | with_reducible rfl | (simp only [fnd, cpOk, Bool.not_true, Bool.not_false, if_pos c_4, if_pos c_11, if_neg c_27, if_pos c_36]; done) | (simp only [fnd, cpOk, Bool.not_true, Bool.not_false, decide_eq_false c_27, decide_eq_true c_36, hcl_i, hcl_k, c_4, c_11, if_neg c_27, if_pos c_36, Bool.true_and, Bool.false_and, Bool.true_or, Bool.or_true, Bool.false_or, Bool.or_false, Bool.and_true, Bool.and_false, Bool.or_self, Bool.and_self, Bool.false_eq_true, Bool.true_eq_false, and_true, true_and, false_and, and_false, and_self, not_true_eq_false, not_false_eq_true, if_true, if_false, reduceIte, or_false, false_or, true_or, or_true]; done)) | contradiction | rfl)
    · skip
      refine lv_aload_n hx hb dX5_copy_14 rfl (lv_at hl 0 rfl) ?_
      refine lv_ldc (v := (-1000000001)) hx hb hown (hts (.constant RX5 41 ((-1000000001))) (by decide +kernel)) dX5_copy_15 ?_
      refine wq_V S mK_ok hK hP hS (c_X5_finds (t := 0) (by decide)) gX5_copy_X5_finds i_X5_finds rfl (m_rec hK hP) ⟨Nat.le_of_ble_eq_true rfl, Nat.le_of_ble_eq_true rfl⟩ rfl hl.1 (As := [.int ((-1000000001))]) (rest := []) (st1 := [.int ((-1000000001))]) rfl rfl (Nat.le_of_ble_eq_true rfl) ⟨Nat.le_of_ble_eq_true rfl, Nat.le_of_ble_eq_true rfl⟩ dX5_copy_17 (fun H locs hP hS => ?_)
      subst hQ
      exact mp_ri hx hb hr hlocks hP hS dX5_copy_20 (by first | with_reducible rfl | (simp only [fnd, cpOk, Bool.not_true, Bool.not_false, if_pos c_4, if_neg c_11]; done) | (simp only [fnd, cpOk, Bool.not_true, Bool.not_false, c_4, c_11, Bool.true_and, Bool.false_and, Bool.true_or, Bool.or_true, Bool.false_or, Bool.or_false, Bool.and_true, Bool.and_false, Bool.or_self, Bool.and_self, Bool.false_eq_true, Bool.true_eq_false, and_true, true_and, false_and, and_false, and_self, not_true_eq_false, not_false_eq_true, if_true, if_false, reduceIte, or_false, false_or, true_or, or_true]; done) | (subst_vars; first | with_reducible rfl | (simp only [fnd, cpOk, Bool.not_true, Bool.not_false, if_pos c_4, if_neg c_11]; done) | (simp only [fnd, cpOk, Bool.not_true, Bool.not_false, c_4, c_11, Bool.true_and, Bool.false_and, Bool.true_or, Bool.or_true, Bool.false_or, Bool.or_false, Bool.and_true, Bool.and_false, Bool.or_self, Bool.and_self, Bool.false_eq_true, Bool.true_eq_false, and_true, true_and, false_and, and_false, and_self, not_true_eq_false, not_false_eq_true, if_true, if_false, reduceIte, or_false, false_or, true_or, or_true]; done)) | contradiction | rfl) (by first | with_reducible rfl | (simp only [fnd, cpOk, Bool.not_true, Bool.not_false, if_pos c_4, if_neg c_11]; done) | (simp only [fnd, cpOk, Bool.not_true, Bool.not_false, c_4, c_11, Bool.true_and, Bool.false_and, Bool.true_or, Bool.or_true, Bool.false_or, Bool.or_false, Bool.and_true, Bool.and_false, Bool.or_self, Bool.and_self, Bool.false_eq_true, Bool.true_eq_false, and_true, true_and, false_and, and_false, and_self, not_true_eq_false, not_false_eq_true, if_true, if_false, reduceIte, or_false, false_or, true_or, or_true]; done) | (subst_vars; first | with_reducible rfl | (simp only [fnd, cpOk, Bool.not_true, Bool.not_false, if_pos c_4, if_neg c_11]; done) | (simp only [fnd, cpOk, Bool.not_true, Bool.not_false, c_4, c_11, Bool.true_and, Bool.false_and, Bool.true_or, Bool.or_true, Bool.false_or, Bool.or_false, Bool.and_true, Bool.and_false, Bool.or_self, Bool.and_self, Bool.false_eq_true, Bool.true_eq_false, and_true, true_and, false_and, and_false, and_self, not_true_eq_false, not_false_eq_true, if_true, if_false, reduceIte, or_false, false_or, true_or, or_true]; done)) | contradiction | rfl)
theorem i_X5_copy : ciOk yX5_copy cX5_copy 7 (some .int) wsX5_copy 5 := ⟨⟨_, rfl⟩, by decide +kernel⟩
set_option maxHeartbeats 1000000 in
set_option maxRecDepth 100000 in
theorem c_X5_lays {l : Launch} {D : va_G} {cy : Nat → ClassId} {ad : Nat → Nat} {sr kS ot asd stt : Nat → Int32} {ik : Int32} {tp : Nat → Int32} {td fr tt vl wr : Int32} {bo so : Nat → Int32} {nu mv : Nat → Int64} {q : Int32} {N : Nat} (hN : sr 0 = nI N) (h8 : N ≤ 8) (hz : ∀ t, t < 4 → ∃ z : Nat, z ≤ 40 ∧ so t = nI z) : Met l yX5_lays wsX5_lays (rmz 3 66) (wPre D (mK D cy ad) (mw cy ad sr kS ot asd stt ik tp td fr tt vl wr bo so nu mv) [.ref (ad 0), .int (q)]) (mPub D cy ad (some (.int (if rg 0 3 q then (if bo q.toNatClampNeg = 0 then -1000000006 else (laysL nu q.toNatClampNeg (min (so q.toNatClampNeg).toNatClampNeg N) 0 sr (nI 0)).2) else -1000000001))) (if rg 0 3 q then (if bo q.toNatClampNeg = 0 then sr else (laysL nu q.toNatClampNeg (min (so q.toNatClampNeg).toNatClampNeg N) 0 sr (nI 0)).1) else sr) kS (if rg 0 3 q then (if bo q.toNatClampNeg = 0 then fnd stt 5 else stt) else fnd stt 0) ik tp td bo so nu) 0 0 (mA ad) := by
  refine wq_entry rfl rfl (Nat.le_of_ble_eq_true rfl) ?_
  intro p e s0 m args below meth c S hr hlocks hK hP ls hl
  have S : CallFix p m c cX5_lays 6 s0 args wsX5_lays RX5 := S
  obtain ⟨hx, hb, hml, hown, hts⟩ := id S
  have hin : ∀ w ∈ wsX50, w ∈ wsX5_lays := fun w h => List.mem_cons_of_mem _ (List.mem_append_right _ h)
  have hS : va_S (mA ad) s0.heap s0.heap [] := va_S.rf
  have hl : lv_has ls 6 [(0, .ref (ad 0)), (1, .int (q))] := hl
  generalize hQ : MQ below (mPub D cy ad (some (.int (if rg 0 3 q then (if bo q.toNatClampNeg = 0 then -1000000006 else (laysL nu q.toNatClampNeg (min (so q.toNatClampNeg).toNatClampNeg N) 0 sr (nI 0)).2) else -1000000001))) (if rg 0 3 q then (if bo q.toNatClampNeg = 0 then sr else (laysL nu q.toNatClampNeg (min (so q.toNatClampNeg).toNatClampNeg N) 0 sr (nI 0)).1) else sr) kS (if rg 0 3 q then (if bo q.toNatClampNeg = 0 then fnd stt 5 else stt) else fnd stt 0) ik tp td bo so nu) args s0 0 0 (mA ad) = Q
  refine lv_aload_n hx hb dX5_lays_0 rfl (lv_at hl 0 rfl) ?_
  refine lv_iload_n hx hb dX5_lays_1 rfl (lv_at hl 1 rfl) ?_
  refine wq_V S mK_ok hK hP hS (c_X5_wrongSheet) gX5_lays_X5_wrongSheet i_X5_wrongSheet rfl (m_rec hK hP) ⟨Nat.le_of_ble_eq_true rfl, Nat.le_of_ble_eq_true rfl⟩ rfl hl.1 (As := [.int (q)]) (rest := []) (st1 := [.int (wrS bo (q))]) rfl rfl (Nat.le_of_ble_eq_true rfl) ⟨Nat.le_of_ble_eq_true rfl, Nat.le_of_ble_eq_true rfl⟩ dX5_lays_2 (fun H locs hP hS => ?_)
  rcases ws3 bo q with c_a | ⟨c_a, c_b⟩ | ⟨c_a, c_b⟩
  · skip
    refine lv_top (wrS_1 c_a) ?_
    refine lv_istore_n (lv' := [(2, .int ((-1000000001))), (0, .ref (ad 0)), (1, .int (q))]) hx hb dX5_lays_5 rfl hl (by decide) rfl (fun ls hl => ?_)
    refine lv_iload_n hx hb dX5_lays_6 rfl (lv_at hl 0 rfl) ?_
    refine lv_if_eq (tgt := 16) hx hb dX5_lays_7 (by decide) (fun c_7 => ?_) (fun c_7 => ?_)
    · skip
      exact absurd c_7 (by decide)
    · skip
      refine lv_aload_n hx hb dX5_lays_10 rfl (lv_at hl 1 rfl) ?_
      refine lv_iload_n hx hb dX5_lays_11 rfl (lv_at hl 0 rfl) ?_
      refine wq_V S mK_ok hK hP hS (c_X5_finds (t := 0) (by decide)) gX5_lays_X5_finds i_X5_finds rfl (m_rec hK hP) ⟨Nat.le_of_ble_eq_true rfl, Nat.le_of_ble_eq_true rfl⟩ rfl hl.1 (As := [.int ((-1000000001))]) (rest := []) (st1 := [.int ((-1000000001))]) rfl rfl (Nat.le_of_ble_eq_true rfl) ⟨Nat.le_of_ble_eq_true rfl, Nat.le_of_ble_eq_true rfl⟩ dX5_lays_12 (fun H locs hP hS => ?_)
      subst hQ
      exact mp_ri hx hb hr hlocks hP hS dX5_lays_15 (by first | with_reducible rfl | (simp only [fnd, if_neg c_a, if_neg c_7]; done) | (simp only [fnd, c_a, if_neg c_7, Bool.false_eq_true, Bool.true_eq_false, and_true, true_and, false_and, and_false, and_self, not_true_eq_false, not_false_eq_true, if_true, if_false, reduceIte, or_false, false_or, true_or, or_true]; done) | (subst_vars; first | with_reducible rfl | (simp only [fnd, if_neg c_a, if_neg c_7]; done) | (simp only [fnd, c_a, if_neg c_7, Bool.false_eq_true, Bool.true_eq_false, and_true, true_and, false_and, and_false, and_self, not_true_eq_false, not_false_eq_true, if_true, if_false, reduceIte, or_false, false_or, true_or, or_true]; done)) | contradiction | rfl) (by first | with_reducible rfl | (simp only [fnd, if_neg c_a, if_neg c_7]; done) | (simp only [fnd, c_a, if_neg c_7, Bool.false_eq_true, Bool.true_eq_false, and_true, true_and, false_and, and_false, and_self, not_true_eq_false, not_false_eq_true, if_true, if_false, reduceIte, or_false, false_or, true_or, or_true]; done) | (subst_vars; first | with_reducible rfl | (simp only [fnd, if_neg c_a, if_neg c_7]; done) | (simp only [fnd, c_a, if_neg c_7, Bool.false_eq_true, Bool.true_eq_false, and_true, true_and, false_and, and_false, and_self, not_true_eq_false, not_false_eq_true, if_true, if_false, reduceIte, or_false, false_or, true_or, or_true]; done)) | contradiction | rfl)
  · skip
    refine lv_top (wrS_2 c_a c_b) ?_
    obtain ⟨i, h_i, h_i2, rfl⟩ := rg_ix (a := 0) (b := 3) (by decide) c_a
    have hcl_i : (nI i).toNatClampNeg = i := nI_clamp (by omega)
    rw [hcl_i] at c_b
    refine lv_istore_n (lv' := [(2, .int ((-1000000006))), (0, .ref (ad 0)), (1, .int (nI i))]) hx hb dX5_lays_5 rfl hl (by decide) rfl (fun ls hl => ?_)
    refine lv_iload_n hx hb dX5_lays_6 rfl (lv_at hl 0 rfl) ?_
    refine lv_if_eq (tgt := 16) hx hb dX5_lays_7 (by decide) (fun c_7 => ?_) (fun c_7 => ?_)
    · skip
      exact absurd c_7 (by decide)
    · skip
      refine lv_aload_n hx hb dX5_lays_10 rfl (lv_at hl 1 rfl) ?_
      refine lv_iload_n hx hb dX5_lays_11 rfl (lv_at hl 0 rfl) ?_
      refine wq_V S mK_ok hK hP hS (c_X5_finds (t := 5) (by decide)) gX5_lays_X5_finds i_X5_finds rfl (m_rec hK hP) ⟨Nat.le_of_ble_eq_true rfl, Nat.le_of_ble_eq_true rfl⟩ rfl hl.1 (As := [.int ((-1000000006))]) (rest := []) (st1 := [.int ((-1000000006))]) rfl rfl (Nat.le_of_ble_eq_true rfl) ⟨Nat.le_of_ble_eq_true rfl, Nat.le_of_ble_eq_true rfl⟩ dX5_lays_12 (fun H locs hP hS => ?_)
      subst hQ
      exact mp_ri hx hb hr hlocks hP hS dX5_lays_15 (by first | with_reducible rfl | (simp only [fnd, if_pos c_a, if_pos c_b, if_neg c_7]; done) | (simp only [fnd, hcl_i, c_a, if_pos c_b, if_neg c_7, Bool.false_eq_true, Bool.true_eq_false, and_true, true_and, false_and, and_false, and_self, not_true_eq_false, not_false_eq_true, if_true, if_false, reduceIte, or_false, false_or, true_or, or_true]; done) | (subst_vars; first | with_reducible rfl | (simp only [fnd, if_pos c_a, if_pos c_b, if_neg c_7]; done) | (simp only [fnd, hcl_i, c_a, if_pos c_b, if_neg c_7, Bool.false_eq_true, Bool.true_eq_false, and_true, true_and, false_and, and_false, and_self, not_true_eq_false, not_false_eq_true, if_true, if_false, reduceIte, or_false, false_or, true_or, or_true]; done)) | contradiction | rfl) (by first | with_reducible rfl | (simp only [fnd, if_pos c_a, if_pos c_b, if_neg c_7]; done) | (simp only [fnd, hcl_i, c_a, if_pos c_b, if_neg c_7, Bool.false_eq_true, Bool.true_eq_false, and_true, true_and, false_and, and_false, and_self, not_true_eq_false, not_false_eq_true, if_true, if_false, reduceIte, or_false, false_or, true_or, or_true]; done) | (subst_vars; first | with_reducible rfl | (simp only [fnd, if_pos c_a, if_pos c_b, if_neg c_7]; done) | (simp only [fnd, hcl_i, c_a, if_pos c_b, if_neg c_7, Bool.false_eq_true, Bool.true_eq_false, and_true, true_and, false_and, and_false, and_self, not_true_eq_false, not_false_eq_true, if_true, if_false, reduceIte, or_false, false_or, true_or, or_true]; done)) | contradiction | rfl)
  · skip
    refine lv_top (wrS_3 c_a c_b) ?_
    obtain ⟨i, h_i, h_i2, rfl⟩ := rg_ix (a := 0) (b := 3) (by decide) c_a
    have hcl_i : (nI i).toNatClampNeg = i := nI_clamp (by omega)
    rw [hcl_i] at c_b
    refine lv_istore_n (lv' := [(2, .int (nI 0)), (0, .ref (ad 0)), (1, .int (nI i))]) hx hb dX5_lays_5 rfl hl (by decide) rfl (fun ls hl => ?_)
    refine lv_iload_n hx hb dX5_lays_6 rfl (lv_at hl 0 rfl) ?_
    refine lv_if_eq (tgt := 16) hx hb dX5_lays_7 (by decide) (fun c_7 => ?_) (fun c_7 => ?_)
    · skip
      obtain ⟨z_, hz4, hze⟩ := hz i (by omega)
      have hclz : (so i).toNatClampNeg = z_ := by rw [hze]; exact nI_clamp (by omega)
      refine lv_iconst (v := nI 0) hx hb dX5_lays_16 (by decide) ?_
      refine lv_istore_n (lv' := [(3, .int (nI 0)), (2, .int (nI 0)), (0, .ref (ad 0)), (1, .int (nI i))]) hx hb dX5_lays_17 rfl hl (by decide) rfl (fun ls hl => ?_)
      refine lv_iconst (v := nI 0) hx hb dX5_lays_18 (by decide) ?_
      refine lv_istore (lv' := [(4, .int (nI 0)), (3, .int (nI 0)), (2, .int (nI 0)), (0, .ref (ad 0)), (1, .int (nI i))]) hx hb dX5_lays_19 hl (by decide) rfl (fun ls hl => ?_)
      have L_21 : ∀ (n : Nat) (j : Nat) (ss : Nat → Int32) (cc : Int32) (H : Heap) (locs : List Loc) (ls : Array Slot), (j + n = min z_ N) → (ss 0 = nI N) → (laysL nu i (min z_ N) 0 sr (nI 0) = laysL nu i n j ss cc) → va_P D vwCl (mw cy ad ss kS ot asd stt ik tp td fr tt vl wr bo so nu mv) H → va_S (mA ad) s0.heap H locs → lv_has ls 6 [(4, .int (nI j)), (3, .int (cc)), (2, .int (nI 0)), (0, .ref (ad 0)), (1, .int (nI i))] → W p l e (rmz 3 66) s0 m args below meth c H locs 0 0 Q (F0 m 21 ls []) := by
        intro n
        induction n with
        | zero =>
          intro j ss cc H locs ls hj hm hF hP hS hl
          refine lv_iload hx hb dX5_lays_21 (lv_at hl 0 rfl) ?_
          refine lv_aload_n hx hb dX5_lays_23 rfl (lv_at hl 3 rfl) ?_
          refine m_get hx hb hts hin hown hK hP 13 (by decide) (hts (.fieldLink RX5 31 "PennyRoadModel" "sizeOf" "[I") (by decide +kernel)) rfl dX5_lays_24 ?_
          refine lv_iload_n hx hb dX5_lays_27 rfl (lv_at hl 4 rfl) ?_
          refine m_ald hx hb hK hP 8 rfl (by decide) (by omega) dX5_lays_28 ?_
          refine lv_top hze ?_
          refine lvn_icmp_ge (tgt := 122) hx hb dX5_lays_29 (by decide) (by omega) (by omega) (fun c_29 => ?_) (fun c_29 => ?_)
          · skip
            have hE : laysL nu i (min z_ N) 0 sr (nI 0) = (ss, cc) := hF
            refine lv_iload_n hx hb dX5_lays_122 rfl (lv_at hl 1 rfl) ?_
            subst hQ
            exact mp_ri hx hb hr hlocks hP hS dX5_lays_123 (by first | with_reducible rfl | (simp only [fnd, if_pos c_a, if_neg c_b, if_pos c_7, if_pos c_29]; done) | (simp only [fnd, hcl_i, hclz, hE, c_a, if_neg c_b, if_pos c_7, if_pos c_29, Bool.false_eq_true, Bool.true_eq_false, and_true, true_and, false_and, and_false, and_self, not_true_eq_false, not_false_eq_true, if_true, if_false, reduceIte, or_false, false_or, true_or, or_true]; done) | (subst_vars; first | with_reducible rfl | (simp only [fnd, if_pos c_a, if_neg c_b, if_pos c_7, if_pos c_29]; done) | (simp only [fnd, hcl_i, hclz, hE, c_a, if_neg c_b, if_pos c_7, if_pos c_29, Bool.false_eq_true, Bool.true_eq_false, and_true, true_and, false_and, and_false, and_self, not_true_eq_false, not_false_eq_true, if_true, if_false, reduceIte, or_false, false_or, true_or, or_true]; done)) | contradiction | rfl) (by first | with_reducible rfl | (simp only [fnd, if_pos c_a, if_neg c_b, if_pos c_7, if_pos c_29]; done) | (simp only [fnd, hcl_i, hclz, hE, c_a, if_neg c_b, if_pos c_7, if_pos c_29, Bool.false_eq_true, Bool.true_eq_false, and_true, true_and, false_and, and_false, and_self, not_true_eq_false, not_false_eq_true, if_true, if_false, reduceIte, or_false, false_or, true_or, or_true]; done) | (subst_vars; first | with_reducible rfl | (simp only [fnd, if_pos c_a, if_neg c_b, if_pos c_7, if_pos c_29]; done) | (simp only [fnd, hcl_i, hclz, hE, c_a, if_neg c_b, if_pos c_7, if_pos c_29, Bool.false_eq_true, Bool.true_eq_false, and_true, true_and, false_and, and_false, and_self, not_true_eq_false, not_false_eq_true, if_true, if_false, reduceIte, or_false, false_or, true_or, or_true]; done)) | contradiction | rfl)
          · skip
            refine lv_iload hx hb dX5_lays_32 (lv_at hl 0 rfl) ?_
            refine lv_aload_n hx hb dX5_lays_34 rfl (lv_at hl 3 rfl) ?_
            refine m_get hx hb hts hin hown hK hP 0 (by decide) (hts (.fieldLink RX5 7 "PennyRoadModel" "s" "[I") (by decide +kernel)) rfl dX5_lays_35 ?_
            refine lv_iconst (v := nI 0) hx hb dX5_lays_38 (by decide) ?_
            refine m_ald hx hb hK hP 1 rfl (by decide) (by omega) dX5_lays_39 ?_
            refine lv_top hm ?_
            refine lvn_icmp_ge (tgt := 122) hx hb dX5_lays_40 (by decide) (by omega) (by omega) (fun c_40 => ?_) (fun c_40 => ?_)
            · skip
              have hE : laysL nu i (min z_ N) 0 sr (nI 0) = (ss, cc) := hF
              refine lv_iload_n hx hb dX5_lays_122 rfl (lv_at hl 1 rfl) ?_
              subst hQ
              exact mp_ri hx hb hr hlocks hP hS dX5_lays_123 (by first | with_reducible rfl | (simp only [fnd, if_pos c_a, if_neg c_b, if_pos c_7, if_neg c_29, if_pos c_40]; done) | (simp only [fnd, hcl_i, hclz, hE, c_a, if_neg c_b, if_pos c_7, if_neg c_29, if_pos c_40, Bool.false_eq_true, Bool.true_eq_false, and_true, true_and, false_and, and_false, and_self, not_true_eq_false, not_false_eq_true, if_true, if_false, reduceIte, or_false, false_or, true_or, or_true]; done) | (subst_vars; first | with_reducible rfl | (simp only [fnd, if_pos c_a, if_neg c_b, if_pos c_7, if_neg c_29, if_pos c_40]; done) | (simp only [fnd, hcl_i, hclz, hE, c_a, if_neg c_b, if_pos c_7, if_neg c_29, if_pos c_40, Bool.false_eq_true, Bool.true_eq_false, and_true, true_and, false_and, and_false, and_self, not_true_eq_false, not_false_eq_true, if_true, if_false, reduceIte, or_false, false_or, true_or, or_true]; done)) | contradiction | rfl) (by first | with_reducible rfl | (simp only [fnd, if_pos c_a, if_neg c_b, if_pos c_7, if_neg c_29, if_pos c_40]; done) | (simp only [fnd, hcl_i, hclz, hE, c_a, if_neg c_b, if_pos c_7, if_neg c_29, if_pos c_40, Bool.false_eq_true, Bool.true_eq_false, and_true, true_and, false_and, and_false, and_self, not_true_eq_false, not_false_eq_true, if_true, if_false, reduceIte, or_false, false_or, true_or, or_true]; done) | (subst_vars; first | with_reducible rfl | (simp only [fnd, if_pos c_a, if_neg c_b, if_pos c_7, if_neg c_29, if_pos c_40]; done) | (simp only [fnd, hcl_i, hclz, hE, c_a, if_neg c_b, if_pos c_7, if_neg c_29, if_pos c_40, Bool.false_eq_true, Bool.true_eq_false, and_true, true_and, false_and, and_false, and_self, not_true_eq_false, not_false_eq_true, if_true, if_false, reduceIte, or_false, false_or, true_or, or_true]; done)) | contradiction | rfl)
            · skip
              exfalso; omega
        | succ n ih_21 =>
          intro j ss cc H locs ls hj hm hF hP hS hl
          refine lv_iload hx hb dX5_lays_21 (lv_at hl 0 rfl) ?_
          refine lv_aload_n hx hb dX5_lays_23 rfl (lv_at hl 3 rfl) ?_
          refine m_get hx hb hts hin hown hK hP 13 (by decide) (hts (.fieldLink RX5 31 "PennyRoadModel" "sizeOf" "[I") (by decide +kernel)) rfl dX5_lays_24 ?_
          refine lv_iload_n hx hb dX5_lays_27 rfl (lv_at hl 4 rfl) ?_
          refine m_ald hx hb hK hP 8 rfl (by decide) (by omega) dX5_lays_28 ?_
          refine lv_top hze ?_
          refine lvn_icmp_ge (tgt := 122) hx hb dX5_lays_29 (by decide) (by omega) (by omega) (fun c_29 => ?_) (fun c_29 => ?_)
          · skip
            exfalso; omega
          · skip
            refine lv_iload hx hb dX5_lays_32 (lv_at hl 0 rfl) ?_
            refine lv_aload_n hx hb dX5_lays_34 rfl (lv_at hl 3 rfl) ?_
            refine m_get hx hb hts hin hown hK hP 0 (by decide) (hts (.fieldLink RX5 7 "PennyRoadModel" "s" "[I") (by decide +kernel)) rfl dX5_lays_35 ?_
            refine lv_iconst (v := nI 0) hx hb dX5_lays_38 (by decide) ?_
            refine m_ald hx hb hK hP 1 rfl (by decide) (by omega) dX5_lays_39 ?_
            refine lv_top hm ?_
            refine lvn_icmp_ge (tgt := 122) hx hb dX5_lays_40 (by decide) (by omega) (by omega) (fun c_40 => ?_) (fun c_40 => ?_)
            · skip
              exfalso; omega
            · skip
              refine lv_aload_n hx hb dX5_lays_43 rfl (lv_at hl 3 rfl) ?_
              refine m_get hx hb hts hin hown hK hP 14 (by decide) (hts (.fieldLink RX5 34 "PennyRoadModel" "numbers" "[J") (by decide +kernel)) rfl dX5_lays_44 ?_
              refine lv_bipush (v := nI 40) hx hb dX5_lays_47 (by decide) ?_
              refine lv_iload_n hx hb dX5_lays_49 rfl (lv_at hl 4 rfl) ?_
              refine lvn_imul hx hb dX5_lays_50 ?_
              refine lv_iload hx hb dX5_lays_51 (lv_at hl 0 rfl) ?_
              refine lvn_iadd hx hb dX5_lays_53 ?_
              refine m_lald hx hb hK hP 9 rfl (by decide) (by omega) dX5_lays_54 ?_
              refine lv_lconst (v := 0) hx hb dX5_lays_55 (by decide) ?_
              refine lv_ldc2 (v := 9) hx hb hown (hts (.constantLong RX5 87 (9)) (by decide +kernel)) dX5_lays_56 ?_
              refine sq_S S (c_X5_in) gX5_lays_X5_in i_X5_in ⟨Nat.le_of_ble_eq_true rfl, Nat.le_of_ble_eq_true rfl⟩ rfl hl.1 (As := [.long (nu ((40 * i) + j)), .long (0), .long (9)]) (rest := []) (st1 := [.int (z (inL (nu ((40 * i) + j)) (0) (9)))]) rfl rfl (Nat.le_of_ble_eq_true rfl) ⟨Nat.le_of_ble_eq_true rfl, Nat.le_of_ble_eq_true rfl⟩ dX5_lays_59 ?_
              refine lv_istore (lv' := [(5, .int (z (inL (nu ((40 * i) + j)) (0) (9)))), (4, .int (nI j)), (3, .int (cc)), (2, .int (nI 0)), (0, .ref (ad 0)), (1, .int (nI i))]) hx hb dX5_lays_62 hl (by decide) rfl (fun ls hl => ?_)
              refine lv_aload_n hx hb dX5_lays_64 rfl (lv_at hl 4 rfl) ?_
              refine m_get hx hb hts hin hown hK hP 0 (by decide) (hts (.fieldLink RX5 7 "PennyRoadModel" "s" "[I") (by decide +kernel)) rfl dX5_lays_65 ?_
              refine lv_iload hx hb dX5_lays_68 (lv_at hl 1 rfl) ?_
              refine lv_iconst (v := nI 3) hx hb dX5_lays_70 (by decide) ?_
              refine sq_S S (c_X5_spotOf) gX5_lays_X5_spotOf i_X5_spotOf ⟨Nat.le_of_ble_eq_true rfl, Nat.le_of_ble_eq_true rfl⟩ rfl hl.1 (As := [.int (nI j), .int (nI 3)]) (rest := [.ref (ad 1)]) (st1 := [.int (nI (5 + 8 * j + 3)), .ref (ad 1)]) rfl rfl (Nat.le_of_ble_eq_true rfl) ⟨Nat.le_of_ble_eq_true rfl, Nat.le_of_ble_eq_true rfl⟩ dX5_lays_71 ?_
              refine lv_iload hx hb dX5_lays_74 (lv_at hl 0 rfl) ?_
              have K_1 : ∀ (x_2 : Int32) (H : Heap) (locs : List Loc) (ls : Array Slot), x_2 = (if inL (nu ((40 * i) + j)) (0) (9) then ((nu ((40 * i) + j)).toInt32) else (ss (5 + 8 * j + 3))) → va_P D vwCl (mw cy ad ss kS ot asd stt ik tp td fr tt vl wr bo so nu mv) H → va_S (mA ad) s0.heap H locs → lv_has ls 6 [(5, .int (z (inL (nu ((40 * i) + j)) (0) (9)))), (4, .int (nI j)), (3, .int (cc)), (2, .int (nI 0)), (0, .ref (ad 0)), (1, .int (nI i))] → W p l e (rmz 3 66) s0 m args below meth c H locs 0 0 Q (F0 m 102 ls [.int (x_2), .int (nI (5 + 8 * j + 3)), .ref (ad 1)]) := by
                intro x_2 H locs ls ex_2 hP hS hl
                refine m_ast (w' := (mw cy ad (upd ss (5 + 8 * j + 3) x_2) kS ot asd stt ik tp td fr tt vl wr bo so nu mv)) hx hb hK hP hS 1 rfl (by decide) (by omega) rfl dX5_lays_102 (fun H locs hP hS => ?_)
                refine lv_iload_n hx hb dX5_lays_103 rfl (lv_at hl 2 rfl) ?_
                refine lv_iload hx hb dX5_lays_104 (lv_at hl 0 rfl) ?_
                have K_3 : ∀ (x_4 : Int32) (H : Heap) (locs : List Loc) (ls : Array Slot), x_4 = (if inL (nu ((40 * i) + j)) (0) (9) then (nI 1) else (nI 0)) → va_P D vwCl (mw cy ad (upd ss (5 + 8 * j + 3) x_2) kS ot asd stt ik tp td fr tt vl wr bo so nu mv) H → va_S (mA ad) s0.heap H locs → lv_has ls 6 [(5, .int (z (inL (nu ((40 * i) + j)) (0) (9)))), (4, .int (nI j)), (3, .int (cc)), (2, .int (nI 0)), (0, .ref (ad 0)), (1, .int (nI i))] → W p l e (rmz 3 66) s0 m args below meth c H locs 0 0 Q (F0 m 114 ls [.int (x_4), .int (cc)]) := by
                  intro x_4 H locs ls ex_4 hP hS hl
                  refine lv_iadd hx hb dX5_lays_114 ?_
                  refine lv_istore_n (lv' := [(3, .int ((cc) + (x_4))), (5, .int (z (inL (nu ((40 * i) + j)) (0) (9)))), (4, .int (nI j)), (2, .int (nI 0)), (0, .ref (ad 0)), (1, .int (nI i))]) hx hb dX5_lays_115 rfl hl (by decide) rfl (fun ls hl => ?_)
                  refine lv_iinc (v := nI (j + 1)) (lv' := [(4, .int (nI (j + 1))), (3, .int ((cc) + (x_4))), (5, .int (z (inL (nu ((40 * i) + j)) (0) (9)))), (2, .int (nI 0)), (0, .ref (ad 0)), (1, .int (nI i))]) hx hb dX5_lays_116 hl (k := 2) rfl (nI_add _ _) (by decide) rfl (fun ls hl => ?_)
                  refine lv_goto (tgt := 21) hx hb dX5_lays_119 (by decide) ?_
                  exact ih_21 (j + 1) _ _ _ _ ls (by omega) ((upd_0 (by omega)).trans hm) (by subst ex_2 ex_4; exact hF) hP hS (lv_sub hl [0, 1, 3, 4, 5] rfl)
                refine lvz_if_eq (tgt := 113) hx hb dX5_lays_106 (by decide) (fun c_106 => ?_) (fun c_106 => ?_)
                · skip
                  refine lv_iconst (v := nI 0) hx hb dX5_lays_113 (by decide) ?_
                  exact K_3 (nI 0) _ _ ls (by simp only [if_neg c_106]) hP hS hl
                · skip
                  refine lv_iconst (v := nI 1) hx hb dX5_lays_109 (by decide) ?_
                  refine lv_goto (tgt := 114) hx hb dX5_lays_110 (by decide) ?_
                  exact K_3 (nI 1) _ _ ls (by simp only [if_pos c_106]) hP hS hl
              refine lvz_if_eq (tgt := 95) hx hb dX5_lays_76 (by decide) (fun c_76 => ?_) (fun c_76 => ?_)
              · skip
                refine lv_aload_n hx hb dX5_lays_95 rfl (lv_at hl 4 rfl) ?_
                refine lv_iload hx hb dX5_lays_96 (lv_at hl 1 rfl) ?_
                refine lv_iconst (v := nI 3) hx hb dX5_lays_98 (by decide) ?_
                refine wq_V S mK_ok hK hP hS (c_X5_its (by omega) (by omega)) gX5_lays_X5_its i_X5_its rfl (m_rec hK hP) ⟨Nat.le_of_ble_eq_true rfl, Nat.le_of_ble_eq_true rfl⟩ rfl hl.1 (As := [.int (nI j), .int (nI 3)]) (rest := [.int (nI (5 + 8 * j + 3)), .ref (ad 1)]) (st1 := [.int (ss (5 + 8 * j + 3)), .int (nI (5 + 8 * j + 3)), .ref (ad 1)]) rfl rfl (Nat.le_of_ble_eq_true rfl) ⟨Nat.le_of_ble_eq_true rfl, Nat.le_of_ble_eq_true rfl⟩ dX5_lays_99 (fun H locs hP hS => ?_)
                exact K_1 (ss (5 + 8 * j + 3)) _ _ ls (by simp only [if_neg c_76]) hP hS hl
              · skip
                refine lv_aload_n hx hb dX5_lays_79 rfl (lv_at hl 4 rfl) ?_
                refine m_get hx hb hts hin hown hK hP 14 (by decide) (hts (.fieldLink RX5 34 "PennyRoadModel" "numbers" "[J") (by decide +kernel)) rfl dX5_lays_80 ?_
                refine lv_bipush (v := nI 40) hx hb dX5_lays_83 (by decide) ?_
                refine lv_iload_n hx hb dX5_lays_85 rfl (lv_at hl 5 rfl) ?_
                refine lvn_imul hx hb dX5_lays_86 ?_
                refine lv_iload hx hb dX5_lays_87 (lv_at hl 1 rfl) ?_
                refine lvn_iadd hx hb dX5_lays_89 ?_
                refine m_lald hx hb hK hP 9 rfl (by decide) (by omega) dX5_lays_90 ?_
                refine lv_l2i (v := (nu ((40 * i) + j)).toInt32) hx hb dX5_lays_91 rfl ?_
                refine lv_goto (tgt := 102) hx hb dX5_lays_92 (by decide) ?_
                exact K_1 ((nu ((40 * i) + j)).toInt32) _ _ ls (by simp only [if_pos c_76]) hP hS hl
      exact L_21 (min z_ N) 0 sr (nI 0) _ _ ls (by omega) hN rfl hP hS hl
    · skip
      exact absurd c_7 (by decide)
theorem i_X5_lays : ciOk yX5_lays cX5_lays 6 (some .int) wsX5_lays 1 := ⟨⟨_, rfl⟩, by decide +kernel⟩
set_option maxHeartbeats 1000000 in
set_option maxRecDepth 100000 in
theorem c_X5_wrongBook {l : Launch} {D : va_G} {cy : Nat → ClassId} {ad : Nat → Nat} {sr kS ot asd stt : Nat → Int32} {ik : Int32} {tp : Nat → Int32} {td fr tt vl wr : Int32} {bo so : Nat → Int32} {nu mv : Nat → Int64} {q : Int32} {w : Int32} {N : Nat} (hN : sr 0 = nI N) (h8 : N ≤ 8) : Met l yX5_wrongBook wsX5_wrongBook (rmz 3 66) (wPre D (mK D cy ad) (mw cy ad sr kS ot asd stt ik tp td fr tt vl wr bo so nu mv) [.ref (ad 0), .int (q), .int (w)]) (wPost D (mw cy ad sr kS ot asd stt ik tp td fr tt vl wr bo so nu mv) (some (.int (wrB bo N q w))) (mA ad)) 0 0 (mA ad) := by
  refine wq_entry rfl rfl (Nat.le_of_ble_eq_true rfl) ?_
  intro p e s0 m args below meth c S hr hlocks hK hP ls hl
  have S : CallFix p m c cX5_wrongBook 4 s0 args wsX5_wrongBook RX5 := S
  obtain ⟨hx, hb, hml, hown, hts⟩ := id S
  have hin : ∀ w ∈ wsX50, w ∈ wsX5_wrongBook := fun w h => List.mem_cons_of_mem _ (List.mem_append_right _ h)
  have hS : va_S (mA ad) s0.heap s0.heap [] := va_S.rf
  have hl : lv_has ls 4 [(0, .ref (ad 0)), (1, .int (q)), (2, .int (w))] := hl
  generalize hQ : MQ below (wPost D (mw cy ad sr kS ot asd stt ik tp td fr tt vl wr bo so nu mv) (some (.int (wrB bo N q w))) (mA ad)) args s0 0 0 (mA ad) = Q
  refine lv_aload_n hx hb dX5_wrongBook_0 rfl (lv_at hl 0 rfl) ?_
  refine lv_iload_n hx hb dX5_wrongBook_1 rfl (lv_at hl 1 rfl) ?_
  refine wq_V S mK_ok hK hP hS (c_X5_wrongSheet) gX5_wrongBook_X5_wrongSheet i_X5_wrongSheet rfl (m_rec hK hP) ⟨Nat.le_of_ble_eq_true rfl, Nat.le_of_ble_eq_true rfl⟩ rfl hl.1 (As := [.int (q)]) (rest := []) (st1 := [.int (wrS bo (q))]) rfl rfl (Nat.le_of_ble_eq_true rfl) ⟨Nat.le_of_ble_eq_true rfl, Nat.le_of_ble_eq_true rfl⟩ dX5_wrongBook_2 (fun H locs hP hS => ?_)
  rcases ws3 bo q with c_a | ⟨c_a, c_b⟩ | ⟨c_a, c_b⟩
  · skip
    refine lv_top (wrS_1 c_a) ?_
    refine lv_istore_n (lv' := [(3, .int ((-1000000001))), (0, .ref (ad 0)), (1, .int (q)), (2, .int (w))]) hx hb dX5_wrongBook_5 rfl hl (by decide) rfl (fun ls hl => ?_)
    refine lv_iload_n hx hb dX5_wrongBook_6 rfl (lv_at hl 0 rfl) ?_
    refine lv_if_eq (tgt := 14) hx hb dX5_wrongBook_7 (by decide) (fun c_7 => ?_) (fun c_7 => ?_)
    · skip
      exact absurd c_7 (by decide)
    · skip
      refine lv_iload_n hx hb dX5_wrongBook_10 rfl (lv_at hl 0 rfl) ?_
      refine lv_goto (tgt := 28) hx hb dX5_wrongBook_11 (by decide) ?_
      subst hQ
      exact wq_ri hx hb hr hlocks hP hS dX5_wrongBook_28 (by first | with_reducible rfl | (simp only [wrB, if_neg c_a, if_neg c_7]; done) | (simp only [wrB, c_a, if_neg c_7, Bool.false_eq_true, Bool.true_eq_false, and_true, true_and, false_and, and_false, and_self, not_true_eq_false, not_false_eq_true, if_true, if_false, reduceIte, or_false, false_or, true_or, or_true]; done) | (subst_vars; first | with_reducible rfl | (simp only [wrB, if_neg c_a, if_neg c_7]; done) | (simp only [wrB, c_a, if_neg c_7, Bool.false_eq_true, Bool.true_eq_false, and_true, true_and, false_and, and_false, and_self, not_true_eq_false, not_false_eq_true, if_true, if_false, reduceIte, or_false, false_or, true_or, or_true]; done)) | contradiction | rfl) rfl
  · skip
    refine lv_top (wrS_2 c_a c_b) ?_
    obtain ⟨i, h_i, h_i2, rfl⟩ := rg_ix (a := 0) (b := 3) (by decide) c_a
    have hcl_i : (nI i).toNatClampNeg = i := nI_clamp (by omega)
    rw [hcl_i] at c_b
    refine lv_istore_n (lv' := [(3, .int ((-1000000006))), (0, .ref (ad 0)), (1, .int (nI i)), (2, .int (w))]) hx hb dX5_wrongBook_5 rfl hl (by decide) rfl (fun ls hl => ?_)
    refine lv_iload_n hx hb dX5_wrongBook_6 rfl (lv_at hl 0 rfl) ?_
    refine lv_if_eq (tgt := 14) hx hb dX5_wrongBook_7 (by decide) (fun c_7 => ?_) (fun c_7 => ?_)
    · skip
      exact absurd c_7 (by decide)
    · skip
      refine lv_iload_n hx hb dX5_wrongBook_10 rfl (lv_at hl 0 rfl) ?_
      refine lv_goto (tgt := 28) hx hb dX5_wrongBook_11 (by decide) ?_
      subst hQ
      exact wq_ri hx hb hr hlocks hP hS dX5_wrongBook_28 (by first | with_reducible rfl | (simp only [wrB, if_pos c_a, if_pos c_b, if_neg c_7]; done) | (simp only [wrB, hcl_i, c_a, if_pos c_b, if_neg c_7, Bool.false_eq_true, Bool.true_eq_false, and_true, true_and, false_and, and_false, and_self, not_true_eq_false, not_false_eq_true, if_true, if_false, reduceIte, or_false, false_or, true_or, or_true]; done) | (subst_vars; first | with_reducible rfl | (simp only [wrB, if_pos c_a, if_pos c_b, if_neg c_7]; done) | (simp only [wrB, hcl_i, c_a, if_pos c_b, if_neg c_7, Bool.false_eq_true, Bool.true_eq_false, and_true, true_and, false_and, and_false, and_self, not_true_eq_false, not_false_eq_true, if_true, if_false, reduceIte, or_false, false_or, true_or, or_true]; done)) | contradiction | rfl) rfl
  · skip
    refine lv_top (wrS_3 c_a c_b) ?_
    obtain ⟨i, h_i, h_i2, rfl⟩ := rg_ix (a := 0) (b := 3) (by decide) c_a
    have hcl_i : (nI i).toNatClampNeg = i := nI_clamp (by omega)
    rw [hcl_i] at c_b
    refine lv_istore_n (lv' := [(3, .int (nI 0)), (0, .ref (ad 0)), (1, .int (nI i)), (2, .int (w))]) hx hb dX5_wrongBook_5 rfl hl (by decide) rfl (fun ls hl => ?_)
    refine lv_iload_n hx hb dX5_wrongBook_6 rfl (lv_at hl 0 rfl) ?_
    refine lv_if_eq (tgt := 14) hx hb dX5_wrongBook_7 (by decide) (fun c_7 => ?_) (fun c_7 => ?_)
    · skip
      refine lv_aload_n hx hb dX5_wrongBook_14 rfl (lv_at hl 1 rfl) ?_
      refine lv_iload_n hx hb dX5_wrongBook_15 rfl (lv_at hl 3 rfl) ?_
      refine wq_V S mK_ok hK hP hS (c_X5_isWalker hN h8) gX5_wrongBook_X5_isWalker i_X5_isWalker rfl (m_rec hK hP) ⟨Nat.le_of_ble_eq_true rfl, Nat.le_of_ble_eq_true rfl⟩ rfl hl.1 (As := [.int (w)]) (rest := []) (st1 := [.int (z (isN N (w)))]) rfl rfl (Nat.le_of_ble_eq_true rfl) ⟨Nat.le_of_ble_eq_true rfl, Nat.le_of_ble_eq_true rfl⟩ dX5_wrongBook_16 (fun H locs hP hS => ?_)
      refine lvz_if_eq (tgt := 26) hx hb dX5_wrongBook_19 (by decide) (fun c_19 => ?_) (fun c_19 => ?_)
      · skip
        refine lv_ldc (v := (-1000000001)) hx hb hown (hts (.constant RX5 41 ((-1000000001))) (by decide +kernel)) dX5_wrongBook_26 ?_
        subst hQ
        exact wq_ri hx hb hr hlocks hP hS dX5_wrongBook_28 (by first | with_reducible rfl | (simp only [wrB, if_pos c_a, if_neg c_b, if_pos c_7, if_neg c_19]; done) | (simp only [wrB, hcl_i, c_a, if_neg c_b, if_pos c_7, c_19, Bool.false_eq_true, Bool.true_eq_false, and_true, true_and, false_and, and_false, and_self, not_true_eq_false, not_false_eq_true, if_true, if_false, reduceIte, or_false, false_or, true_or, or_true]; done) | (subst_vars; first | with_reducible rfl | (simp only [wrB, if_pos c_a, if_neg c_b, if_pos c_7, if_neg c_19]; done) | (simp only [wrB, hcl_i, c_a, if_neg c_b, if_pos c_7, c_19, Bool.false_eq_true, Bool.true_eq_false, and_true, true_and, false_and, and_false, and_self, not_true_eq_false, not_false_eq_true, if_true, if_false, reduceIte, or_false, false_or, true_or, or_true]; done)) | contradiction | rfl) rfl
      · skip
        refine lv_iconst (v := nI 0) hx hb dX5_wrongBook_22 (by decide) ?_
        refine lv_goto (tgt := 28) hx hb dX5_wrongBook_23 (by decide) ?_
        subst hQ
        exact wq_ri hx hb hr hlocks hP hS dX5_wrongBook_28 (by first | with_reducible rfl | (simp only [wrB, if_pos c_a, if_neg c_b, if_pos c_7, if_pos c_19]; done) | (simp only [wrB, hcl_i, c_a, if_neg c_b, if_pos c_7, c_19, Bool.false_eq_true, Bool.true_eq_false, and_true, true_and, false_and, and_false, and_self, not_true_eq_false, not_false_eq_true, if_true, if_false, reduceIte, or_false, false_or, true_or, or_true]; done) | (subst_vars; first | with_reducible rfl | (simp only [wrB, if_pos c_a, if_neg c_b, if_pos c_7, if_pos c_19]; done) | (simp only [wrB, hcl_i, c_a, if_neg c_b, if_pos c_7, c_19, Bool.false_eq_true, Bool.true_eq_false, and_true, true_and, false_and, and_false, and_self, not_true_eq_false, not_false_eq_true, if_true, if_false, reduceIte, or_false, false_or, true_or, or_true]; done)) | contradiction | rfl) rfl
    · skip
      exact absurd c_7 (by decide)
theorem i_X5_wrongBook : ciOk yX5_wrongBook cX5_wrongBook 4 (some .int) wsX5_wrongBook 2 := ⟨⟨_, rfl⟩, by decide +kernel⟩
set_option maxHeartbeats 1000000 in
set_option maxRecDepth 100000 in
theorem c_X5_book {l : Launch} {D : va_G} {cy : Nat → ClassId} {ad : Nat → Nat} {sr kS ot asd stt : Nat → Int32} {ik : Int32} {tp : Nat → Int32} {td fr tt vl wr : Int32} {bo so : Nat → Int32} {nu mv : Nat → Int64} {q : Int32} {w : Int32} {N : Nat} (hN : sr 0 = nI N) (h8 : N ≤ 8) (hz : ∀ t, t < 4 → ∃ z : Nat, z ≤ 40 ∧ so t = nI z) : Met l yX5_book wsX5_book (rmz 6 134) (wPre D (mK D cy ad) (mw cy ad sr kS ot asd stt ik tp td fr tt vl wr bo so nu mv) [.ref (ad 0), .int (q), .int (w)]) (mPub D cy ad (some (.int (if rg 0 3 q then (if bo q.toNatClampNeg = 0 then -1000000006 else if isN N w then nI (so q.toNatClampNeg).toNatClampNeg else -1000000001) else -1000000001))) sr kS (if rg 0 3 q then (if bo q.toNatClampNeg = 0 then fnd stt 5 else if isN N w then stt else fnd stt 0) else fnd stt 0) ik tp td bo so (if rg 0 3 q then (if bo q.toNatClampNeg = 0 then nu else if isN N w then bookL N q.toNatClampNeg w.toNatClampNeg (bo q.toNatClampNeg) (so q.toNatClampNeg).toNatClampNeg 0 sr nu else nu) else nu)) 0 0 (mA ad) := by
  refine wq_entry rfl rfl (Nat.le_of_ble_eq_true rfl) ?_
  intro p e s0 m args below meth c S hr hlocks hK hP ls hl
  have S : CallFix p m c cX5_book 5 s0 args wsX5_book RX5 := S
  obtain ⟨hx, hb, hml, hown, hts⟩ := id S
  have hin : ∀ w ∈ wsX50, w ∈ wsX5_book := fun w h => List.mem_cons_of_mem _ (List.mem_append_right _ h)
  have hS : va_S (mA ad) s0.heap s0.heap [] := va_S.rf
  have hl : lv_has ls 5 [(0, .ref (ad 0)), (1, .int (q)), (2, .int (w))] := hl
  generalize hQ : MQ below (mPub D cy ad (some (.int (if rg 0 3 q then (if bo q.toNatClampNeg = 0 then -1000000006 else if isN N w then nI (so q.toNatClampNeg).toNatClampNeg else -1000000001) else -1000000001))) sr kS (if rg 0 3 q then (if bo q.toNatClampNeg = 0 then fnd stt 5 else if isN N w then stt else fnd stt 0) else fnd stt 0) ik tp td bo so (if rg 0 3 q then (if bo q.toNatClampNeg = 0 then nu else if isN N w then bookL N q.toNatClampNeg w.toNatClampNeg (bo q.toNatClampNeg) (so q.toNatClampNeg).toNatClampNeg 0 sr nu else nu) else nu)) args s0 0 0 (mA ad) = Q
  refine lv_aload_n hx hb dX5_book_0 rfl (lv_at hl 0 rfl) ?_
  refine lv_iload_n hx hb dX5_book_1 rfl (lv_at hl 1 rfl) ?_
  refine lv_iload_n hx hb dX5_book_2 rfl (lv_at hl 2 rfl) ?_
  refine wq_V S mK_ok hK hP hS (c_X5_wrongBook hN h8) gX5_book_X5_wrongBook i_X5_wrongBook rfl (m_rec hK hP) ⟨Nat.le_of_ble_eq_true rfl, Nat.le_of_ble_eq_true rfl⟩ rfl hl.1 (As := [.int (q), .int (w)]) (rest := []) (st1 := [.int (wrB bo N (q) (w))]) rfl rfl (Nat.le_of_ble_eq_true rfl) ⟨Nat.le_of_ble_eq_true rfl, Nat.le_of_ble_eq_true rfl⟩ dX5_book_3 (fun H locs hP hS => ?_)
  rcases wb4 bo N q w with c_a | ⟨c_a, c_b⟩ | ⟨c_a, c_b, c_d⟩ | ⟨c_a, c_b, c_d⟩
  · skip
    refine lv_top (wrB_1 c_a) ?_
    refine lv_istore_n (lv' := [(3, .int ((-1000000001))), (0, .ref (ad 0)), (1, .int (q)), (2, .int (w))]) hx hb dX5_book_6 rfl hl (by decide) rfl (fun ls hl => ?_)
    refine lv_iload_n hx hb dX5_book_7 rfl (lv_at hl 0 rfl) ?_
    refine lv_if_eq (tgt := 17) hx hb dX5_book_8 (by decide) (fun c_8 => ?_) (fun c_8 => ?_)
    · skip
      exact absurd c_8 (by decide)
    · skip
      refine lv_aload_n hx hb dX5_book_11 rfl (lv_at hl 1 rfl) ?_
      refine lv_iload_n hx hb dX5_book_12 rfl (lv_at hl 0 rfl) ?_
      refine wq_V S mK_ok hK hP hS (c_X5_finds (t := 0) (by decide)) gX5_book_X5_finds i_X5_finds rfl (m_rec hK hP) ⟨Nat.le_of_ble_eq_true rfl, Nat.le_of_ble_eq_true rfl⟩ rfl hl.1 (As := [.int ((-1000000001))]) (rest := []) (st1 := [.int ((-1000000001))]) rfl rfl (Nat.le_of_ble_eq_true rfl) ⟨Nat.le_of_ble_eq_true rfl, Nat.le_of_ble_eq_true rfl⟩ dX5_book_13 (fun H locs hP hS => ?_)
      subst hQ
      exact mp_ri hx hb hr hlocks hP hS dX5_book_16 (by first | with_reducible rfl | (simp only [fnd, if_neg c_a, if_neg c_8]; done) | (simp only [fnd, c_a, if_neg c_8, Bool.false_eq_true, Bool.true_eq_false, and_true, true_and, false_and, and_false, and_self, not_true_eq_false, not_false_eq_true, if_true, if_false, reduceIte, or_false, false_or, true_or, or_true]; done) | (subst_vars; first | with_reducible rfl | (simp only [fnd, if_neg c_a, if_neg c_8]; done) | (simp only [fnd, c_a, if_neg c_8, Bool.false_eq_true, Bool.true_eq_false, and_true, true_and, false_and, and_false, and_self, not_true_eq_false, not_false_eq_true, if_true, if_false, reduceIte, or_false, false_or, true_or, or_true]; done)) | contradiction | rfl) (by first | with_reducible rfl | (simp only [fnd, if_neg c_a, if_neg c_8]; done) | (simp only [fnd, c_a, if_neg c_8, Bool.false_eq_true, Bool.true_eq_false, and_true, true_and, false_and, and_false, and_self, not_true_eq_false, not_false_eq_true, if_true, if_false, reduceIte, or_false, false_or, true_or, or_true]; done) | (subst_vars; first | with_reducible rfl | (simp only [fnd, if_neg c_a, if_neg c_8]; done) | (simp only [fnd, c_a, if_neg c_8, Bool.false_eq_true, Bool.true_eq_false, and_true, true_and, false_and, and_false, and_self, not_true_eq_false, not_false_eq_true, if_true, if_false, reduceIte, or_false, false_or, true_or, or_true]; done)) | contradiction | rfl)
  · skip
    refine lv_top (wrB_2 c_a c_b) ?_
    obtain ⟨i, h_i, h_i2, rfl⟩ := rg_ix (a := 0) (b := 3) (by decide) c_a
    have hcl_i : (nI i).toNatClampNeg = i := nI_clamp (by omega)
    rw [hcl_i] at c_b
    refine lv_istore_n (lv' := [(3, .int ((-1000000006))), (0, .ref (ad 0)), (1, .int (nI i)), (2, .int (w))]) hx hb dX5_book_6 rfl hl (by decide) rfl (fun ls hl => ?_)
    refine lv_iload_n hx hb dX5_book_7 rfl (lv_at hl 0 rfl) ?_
    refine lv_if_eq (tgt := 17) hx hb dX5_book_8 (by decide) (fun c_8 => ?_) (fun c_8 => ?_)
    · skip
      exact absurd c_8 (by decide)
    · skip
      refine lv_aload_n hx hb dX5_book_11 rfl (lv_at hl 1 rfl) ?_
      refine lv_iload_n hx hb dX5_book_12 rfl (lv_at hl 0 rfl) ?_
      refine wq_V S mK_ok hK hP hS (c_X5_finds (t := 5) (by decide)) gX5_book_X5_finds i_X5_finds rfl (m_rec hK hP) ⟨Nat.le_of_ble_eq_true rfl, Nat.le_of_ble_eq_true rfl⟩ rfl hl.1 (As := [.int ((-1000000006))]) (rest := []) (st1 := [.int ((-1000000006))]) rfl rfl (Nat.le_of_ble_eq_true rfl) ⟨Nat.le_of_ble_eq_true rfl, Nat.le_of_ble_eq_true rfl⟩ dX5_book_13 (fun H locs hP hS => ?_)
      subst hQ
      exact mp_ri hx hb hr hlocks hP hS dX5_book_16 (by first | with_reducible rfl | (simp only [fnd, if_pos c_a, if_pos c_b, if_neg c_8]; done) | (simp only [fnd, hcl_i, c_a, if_pos c_b, if_neg c_8, Bool.false_eq_true, Bool.true_eq_false, and_true, true_and, false_and, and_false, and_self, not_true_eq_false, not_false_eq_true, if_true, if_false, reduceIte, or_false, false_or, true_or, or_true]; done) | (subst_vars; first | with_reducible rfl | (simp only [fnd, if_pos c_a, if_pos c_b, if_neg c_8]; done) | (simp only [fnd, hcl_i, c_a, if_pos c_b, if_neg c_8, Bool.false_eq_true, Bool.true_eq_false, and_true, true_and, false_and, and_false, and_self, not_true_eq_false, not_false_eq_true, if_true, if_false, reduceIte, or_false, false_or, true_or, or_true]; done)) | contradiction | rfl) (by first | with_reducible rfl | (simp only [fnd, if_pos c_a, if_pos c_b, if_neg c_8]; done) | (simp only [fnd, hcl_i, c_a, if_pos c_b, if_neg c_8, Bool.false_eq_true, Bool.true_eq_false, and_true, true_and, false_and, and_false, and_self, not_true_eq_false, not_false_eq_true, if_true, if_false, reduceIte, or_false, false_or, true_or, or_true]; done) | (subst_vars; first | with_reducible rfl | (simp only [fnd, if_pos c_a, if_pos c_b, if_neg c_8]; done) | (simp only [fnd, hcl_i, c_a, if_pos c_b, if_neg c_8, Bool.false_eq_true, Bool.true_eq_false, and_true, true_and, false_and, and_false, and_self, not_true_eq_false, not_false_eq_true, if_true, if_false, reduceIte, or_false, false_or, true_or, or_true]; done)) | contradiction | rfl)
  · skip
    refine lv_top (wrB_3 c_a c_b c_d) ?_
    obtain ⟨i, h_i, h_i2, rfl⟩ := rg_ix (a := 0) (b := 3) (by decide) c_a
    have hcl_i : (nI i).toNatClampNeg = i := nI_clamp (by omega)
    rw [hcl_i] at c_b
    refine lv_istore_n (lv' := [(3, .int ((-1000000001))), (0, .ref (ad 0)), (1, .int (nI i)), (2, .int (w))]) hx hb dX5_book_6 rfl hl (by decide) rfl (fun ls hl => ?_)
    refine lv_iload_n hx hb dX5_book_7 rfl (lv_at hl 0 rfl) ?_
    refine lv_if_eq (tgt := 17) hx hb dX5_book_8 (by decide) (fun c_8 => ?_) (fun c_8 => ?_)
    · skip
      exact absurd c_8 (by decide)
    · skip
      refine lv_aload_n hx hb dX5_book_11 rfl (lv_at hl 1 rfl) ?_
      refine lv_iload_n hx hb dX5_book_12 rfl (lv_at hl 0 rfl) ?_
      refine wq_V S mK_ok hK hP hS (c_X5_finds (t := 0) (by decide)) gX5_book_X5_finds i_X5_finds rfl (m_rec hK hP) ⟨Nat.le_of_ble_eq_true rfl, Nat.le_of_ble_eq_true rfl⟩ rfl hl.1 (As := [.int ((-1000000001))]) (rest := []) (st1 := [.int ((-1000000001))]) rfl rfl (Nat.le_of_ble_eq_true rfl) ⟨Nat.le_of_ble_eq_true rfl, Nat.le_of_ble_eq_true rfl⟩ dX5_book_13 (fun H locs hP hS => ?_)
      subst hQ
      exact mp_ri hx hb hr hlocks hP hS dX5_book_16 (by first | with_reducible rfl | (simp only [fnd, if_pos c_a, if_neg c_b, if_neg c_d, if_neg c_8]; done) | (simp only [fnd, hcl_i, c_a, if_neg c_b, c_d, if_neg c_8, Bool.false_eq_true, Bool.true_eq_false, and_true, true_and, false_and, and_false, and_self, not_true_eq_false, not_false_eq_true, if_true, if_false, reduceIte, or_false, false_or, true_or, or_true]; done) | (subst_vars; first | with_reducible rfl | (simp only [fnd, if_pos c_a, if_neg c_b, if_neg c_d, if_neg c_8]; done) | (simp only [fnd, hcl_i, c_a, if_neg c_b, c_d, if_neg c_8, Bool.false_eq_true, Bool.true_eq_false, and_true, true_and, false_and, and_false, and_self, not_true_eq_false, not_false_eq_true, if_true, if_false, reduceIte, or_false, false_or, true_or, or_true]; done)) | contradiction | rfl) (by first | with_reducible rfl | (simp only [fnd, if_pos c_a, if_neg c_b, if_neg c_d, if_neg c_8]; done) | (simp only [fnd, hcl_i, c_a, if_neg c_b, c_d, if_neg c_8, Bool.false_eq_true, Bool.true_eq_false, and_true, true_and, false_and, and_false, and_self, not_true_eq_false, not_false_eq_true, if_true, if_false, reduceIte, or_false, false_or, true_or, or_true]; done) | (subst_vars; first | with_reducible rfl | (simp only [fnd, if_pos c_a, if_neg c_b, if_neg c_d, if_neg c_8]; done) | (simp only [fnd, hcl_i, c_a, if_neg c_b, c_d, if_neg c_8, Bool.false_eq_true, Bool.true_eq_false, and_true, true_and, false_and, and_false, and_self, not_true_eq_false, not_false_eq_true, if_true, if_false, reduceIte, or_false, false_or, true_or, or_true]; done)) | contradiction | rfl)
  · skip
    refine lv_top (wrB_4 c_a c_b c_d) ?_
    obtain ⟨i, h_i, h_i2, rfl⟩ := rg_ix (a := 0) (b := 3) (by decide) c_a
    have hcl_i : (nI i).toNatClampNeg = i := nI_clamp (by omega)
    rw [hcl_i] at c_b
    obtain ⟨u, h_u, rfl⟩ := isN_ix h8 c_d
    have hcl_u : (nI u).toNatClampNeg = u := nI_clamp (by omega)
    refine lv_istore_n (lv' := [(3, .int (nI 0)), (0, .ref (ad 0)), (1, .int (nI i)), (2, .int (nI u))]) hx hb dX5_book_6 rfl hl (by decide) rfl (fun ls hl => ?_)
    refine lv_iload_n hx hb dX5_book_7 rfl (lv_at hl 0 rfl) ?_
    refine lv_if_eq (tgt := 17) hx hb dX5_book_8 (by decide) (fun c_8 => ?_) (fun c_8 => ?_)
    · skip
      obtain ⟨z_, hz4, hze⟩ := hz i (by omega)
      have hclz : (so i).toNatClampNeg = z_ := by rw [hze]; exact nI_clamp (by omega)
      refine lv_aload_n hx hb dX5_book_17 rfl (lv_at hl 1 rfl) ?_
      refine wq_V S mK_ok hK hP hS (c_X5_laysAside) gX5_book_X5_laysAside i_X5_laysAside rfl (m_rec hK hP) ⟨Nat.le_of_ble_eq_true rfl, Nat.le_of_ble_eq_true rfl⟩ rfl hl.1 (As := []) (rest := []) (st1 := []) rfl rfl (Nat.le_of_ble_eq_true rfl) ⟨Nat.le_of_ble_eq_true rfl, Nat.le_of_ble_eq_true rfl⟩ dX5_book_18 (fun H locs hP hS => ?_)
      refine lv_iconst (v := nI 0) hx hb dX5_book_21 (by decide) ?_
      refine lv_istore (lv' := [(4, .int (nI 0)), (3, .int (nI 0)), (0, .ref (ad 0)), (1, .int (nI i)), (2, .int (nI u))]) hx hb dX5_book_22 hl (by decide) rfl (fun ls hl => ?_)
      have L_24 : ∀ (n : Nat) (j : Nat) (ss : Nat → Int32) (nn : Nat → Int64) (H : Heap) (locs : List Loc) (ls : Array Slot), (j + n = z_) → (ss 0 = nI N) → (bookL N i u (bo i) z_ 0 sr nu = bookL N i u (bo i) n j ss nn) → va_P D vwCl (mw cy ad ss kS ot sr stt ik tp td fr tt vl wr bo so nn mv) H → va_S (mA ad) s0.heap H locs → lv_has ls 5 [(4, .int (nI j)), (3, .int (nI 0)), (0, .ref (ad 0)), (1, .int (nI i)), (2, .int (nI u))] → W p l e (rmz 6 134) s0 m args below meth c H locs 0 0 Q (F0 m 24 ls []) := by
        intro n
        induction n with
        | zero =>
          intro j ss nn H locs ls hj hm hF hP hS hl
          refine lv_iload hx hb dX5_book_24 (lv_at hl 0 rfl) ?_
          refine lv_aload_n hx hb dX5_book_26 rfl (lv_at hl 2 rfl) ?_
          refine m_get hx hb hts hin hown hK hP 13 (by decide) (hts (.fieldLink RX5 31 "PennyRoadModel" "sizeOf" "[I") (by decide +kernel)) rfl dX5_book_27 ?_
          refine lv_iload_n hx hb dX5_book_30 rfl (lv_at hl 3 rfl) ?_
          refine m_ald hx hb hK hP 8 rfl (by decide) (by omega) dX5_book_31 ?_
          refine lv_top hze ?_
          refine lvn_icmp_ge (tgt := 74) hx hb dX5_book_32 (by decide) (by omega) (by omega) (fun c_32 => ?_) (fun c_32 => ?_)
          · skip
            have hF : bookL N i u (bo i) z_ 0 sr nu = nn := hF
            subst hF
            refine lv_aload_n hx hb dX5_book_74 rfl (lv_at hl 2 rfl) ?_
            refine lv_aload_n hx hb dX5_book_75 rfl (lv_at hl 2 rfl) ?_
            refine m_get hx hb hts hin hown hK hP 13 (by decide) (hts (.fieldLink RX5 31 "PennyRoadModel" "sizeOf" "[I") (by decide +kernel)) rfl dX5_book_76 ?_
            refine lv_iload_n hx hb dX5_book_79 rfl (lv_at hl 3 rfl) ?_
            refine m_ald hx hb hK hP 8 rfl (by decide) (by omega) dX5_book_80 ?_
            refine lv_top hze ?_
            refine wq_V S mK_ok hK hP hS (c_X5_takesBack) gX5_book_X5_takesBack i_X5_takesBack rfl (m_rec hK hP) ⟨Nat.le_of_ble_eq_true rfl, Nat.le_of_ble_eq_true rfl⟩ rfl hl.1 (As := [.int (nI z_)]) (rest := []) (st1 := [.int (nI z_)]) rfl rfl (Nat.le_of_ble_eq_true rfl) ⟨Nat.le_of_ble_eq_true rfl, Nat.le_of_ble_eq_true rfl⟩ dX5_book_81 (fun H locs hP hS => ?_)
            subst hQ
            exact mp_ri hx hb hr hlocks hP hS dX5_book_84 (by first | with_reducible rfl | (simp only [fnd, if_pos c_a, if_neg c_b, if_pos c_d, if_pos c_8, if_pos c_32]; done) | (simp only [fnd, hcl_i, hcl_u, hclz, c_a, if_neg c_b, c_d, if_pos c_8, if_pos c_32, Bool.false_eq_true, Bool.true_eq_false, and_true, true_and, false_and, and_false, and_self, not_true_eq_false, not_false_eq_true, if_true, if_false, reduceIte, or_false, false_or, true_or, or_true]; done) | (subst_vars; first | with_reducible rfl | (simp only [fnd, if_pos c_a, if_neg c_b, if_pos c_d, if_pos c_8, if_pos c_32]; done) | (simp only [fnd, hcl_i, hcl_u, hclz, c_a, if_neg c_b, c_d, if_pos c_8, if_pos c_32, Bool.false_eq_true, Bool.true_eq_false, and_true, true_and, false_and, and_false, and_self, not_true_eq_false, not_false_eq_true, if_true, if_false, reduceIte, or_false, false_or, true_or, or_true]; done)) | contradiction | rfl) (by first | with_reducible rfl | (simp only [fnd, if_pos c_a, if_neg c_b, if_pos c_d, if_pos c_8, if_pos c_32]; done) | (simp only [fnd, hcl_i, hcl_u, hclz, c_a, if_neg c_b, c_d, if_pos c_8, if_pos c_32, Bool.false_eq_true, Bool.true_eq_false, and_true, true_and, false_and, and_false, and_self, not_true_eq_false, not_false_eq_true, if_true, if_false, reduceIte, or_false, false_or, true_or, or_true]; done) | (subst_vars; first | with_reducible rfl | (simp only [fnd, if_pos c_a, if_neg c_b, if_pos c_d, if_pos c_8, if_pos c_32]; done) | (simp only [fnd, hcl_i, hcl_u, hclz, c_a, if_neg c_b, c_d, if_pos c_8, if_pos c_32, Bool.false_eq_true, Bool.true_eq_false, and_true, true_and, false_and, and_false, and_self, not_true_eq_false, not_false_eq_true, if_true, if_false, reduceIte, or_false, false_or, true_or, or_true]; done)) | contradiction | rfl)
          · skip
            exfalso; omega
        | succ n ih_24 =>
          intro j ss nn H locs ls hj hm hF hP hS hl
          refine lv_iload hx hb dX5_book_24 (lv_at hl 0 rfl) ?_
          refine lv_aload_n hx hb dX5_book_26 rfl (lv_at hl 2 rfl) ?_
          refine m_get hx hb hts hin hown hK hP 13 (by decide) (hts (.fieldLink RX5 31 "PennyRoadModel" "sizeOf" "[I") (by decide +kernel)) rfl dX5_book_27 ?_
          refine lv_iload_n hx hb dX5_book_30 rfl (lv_at hl 3 rfl) ?_
          refine m_ald hx hb hK hP 8 rfl (by decide) (by omega) dX5_book_31 ?_
          refine lv_top hze ?_
          refine lvn_icmp_ge (tgt := 74) hx hb dX5_book_32 (by decide) (by omega) (by omega) (fun c_32 => ?_) (fun c_32 => ?_)
          · skip
            exfalso; omega
          · skip
            refine lv_aload_n hx hb dX5_book_35 rfl (lv_at hl 2 rfl) ?_
            refine m_get hx hb hts hin hown hK hP 14 (by decide) (hts (.fieldLink RX5 34 "PennyRoadModel" "numbers" "[J") (by decide +kernel)) rfl dX5_book_36 ?_
            refine lv_bipush (v := nI 40) hx hb dX5_book_39 (by decide) ?_
            refine lv_iload_n hx hb dX5_book_41 rfl (lv_at hl 3 rfl) ?_
            refine lvn_imul hx hb dX5_book_42 ?_
            refine lv_iload hx hb dX5_book_43 (lv_at hl 0 rfl) ?_
            refine lvn_iadd hx hb dX5_book_45 ?_
            refine lv_aload_n hx hb dX5_book_46 rfl (lv_at hl 2 rfl) ?_
            refine m_get hx hb hts hin hown hK hP 12 (by decide) (hts (.fieldLink RX5 28 "PennyRoadModel" "bitsOf" "[I") (by decide +kernel)) rfl dX5_book_47 ?_
            refine lv_iload_n hx hb dX5_book_50 rfl (lv_at hl 3 rfl) ?_
            refine m_ald hx hb hK hP 7 rfl (by decide) (by omega) dX5_book_51 ?_
            refine lv_aload_n hx hb dX5_book_52 rfl (lv_at hl 2 rfl) ?_
            refine lv_iload_n hx hb dX5_book_53 rfl (lv_at hl 4 rfl) ?_
            refine lv_bipush (v := nI 6) hx hb dX5_book_54 (by decide) ?_
            refine wq_V S mK_ok hK hP hS (c_X5_its (by omega) (by omega)) gX5_book_X5_its i_X5_its rfl (m_rec hK hP) ⟨Nat.le_of_ble_eq_true rfl, Nat.le_of_ble_eq_true rfl⟩ rfl hl.1 (As := [.int (nI u), .int (nI 6)]) (rest := [.int (bo i), .int (nI ((40 * i) + j)), .ref (ad 9)]) (st1 := [.int (ss (5 + 8 * u + 6)), .int (bo i), .int (nI ((40 * i) + j)), .ref (ad 9)]) rfl rfl (Nat.le_of_ble_eq_true rfl) ⟨Nat.le_of_ble_eq_true rfl, Nat.le_of_ble_eq_true rfl⟩ dX5_book_56 (fun H locs hP hS => ?_)
            refine lv_i2l (v := (ss (5 + 8 * u + 6)).toInt64) hx hb dX5_book_59 rfl ?_
            refine sq_S S (c_X5_narrowed) gX5_book_X5_narrowed i_X5_narrowed ⟨Nat.le_of_ble_eq_true rfl, Nat.le_of_ble_eq_true rfl⟩ rfl hl.1 (As := [.int (bo i), .long ((ss (5 + 8 * u + 6)).toInt64)]) (rest := [.int (nI ((40 * i) + j)), .ref (ad 9)]) (st1 := [.long (narF (bo i) ((ss (5 + 8 * u + 6)).toInt64)), .int (nI ((40 * i) + j)), .ref (ad 9)]) rfl rfl (Nat.le_of_ble_eq_true rfl) ⟨Nat.le_of_ble_eq_true rfl, Nat.le_of_ble_eq_true rfl⟩ dX5_book_60 ?_
            refine m_last (w' := (mw cy ad ss kS ot sr stt ik tp td fr tt vl wr bo so (vp_updL nn ((40 * i) + j) (narF (bo i) ((ss (5 + 8 * u + 6)).toInt64))) mv)) hx hb hK hP hS 9 rfl (by decide) (by omega) rfl dX5_book_63 (fun H locs hP hS => ?_)
            refine lv_aload_n hx hb dX5_book_64 rfl (lv_at hl 2 rfl) ?_
            refine wq_V S mK_ok hK hP hS (c_X5_hour hm h8) gX5_book_X5_hour i_X5_hour rfl (m_rec hK hP) ⟨Nat.le_of_ble_eq_true rfl, Nat.le_of_ble_eq_true rfl⟩ rfl hl.1 (As := []) (rest := []) (st1 := []) rfl rfl (Nat.le_of_ble_eq_true rfl) ⟨Nat.le_of_ble_eq_true rfl, Nat.le_of_ble_eq_true rfl⟩ dX5_book_65 (fun H locs hP hS => ?_)
            refine lv_iinc (v := nI (j + 1)) (lv' := [(4, .int (nI (j + 1))), (3, .int (nI 0)), (0, .ref (ad 0)), (1, .int (nI i)), (2, .int (nI u))]) hx hb dX5_book_68 hl (k := 0) rfl (nI_add _ _) (by decide) rfl (fun ls hl => ?_)
            refine lv_goto (tgt := 24) hx hb dX5_book_71 (by decide) ?_
            exact ih_24 (j + 1) _ _ _ _ ls (by omega) (hourF_0.trans hm) hF hP hS hl
      exact L_24 z_ 0 sr nu _ _ ls (by omega) hN rfl hP hS hl
    · skip
      exact absurd c_8 (by decide)
theorem i_X5_book : ciOk yX5_book cX5_book 5 (some .int) wsX5_book 2 := ⟨⟨_, rfl⟩, by decide +kernel⟩
set_option maxHeartbeats 1000000 in
set_option maxRecDepth 100000 in
theorem c_X5_isBook {l : Launch} {D : va_G} {cy : Nat → ClassId} {ad : Nat → Nat} {sr kS ot asd stt : Nat → Int32} {ik : Int32} {tp : Nat → Int32} {td fr tt vl wr : Int32} {bo so : Nat → Int32} {nu mv : Nat → Int64} {i : Nat} {u : Nat} {z_ : Nat} {N : Nat} (hN : sr 0 = nI N) (h8 : N ≤ 8) (hi : i < 4) (hu : u < 8) (hz4 : z_ ≤ 40) (hze : so i = nI z_) : Met l yX5_isBook wsX5_isBook (rmz 6 134) (wPre D (mK D cy ad) (mw cy ad sr kS ot asd stt ik tp td fr tt vl wr bo so nu mv) [.ref (ad 0), .int (nI i), .int (nI u)]) (wPost D (mw cy ad ((isBkL N i u nu z_ 0 sr).2) kS ot asd stt ik tp td fr tt vl wr bo so nu mv) (some (.int (z ((isBkL N i u nu z_ 0 sr).1 = true)))) (mA ad)) 0 0 (mA ad) := by
  refine wq_entry rfl rfl (Nat.le_of_ble_eq_true rfl) ?_
  intro p e s0 m args below meth c S hr hlocks hK hP ls hl
  have S : CallFix p m c cX5_isBook 4 s0 args wsX5_isBook RX5 := S
  obtain ⟨hx, hb, hml, hown, hts⟩ := id S
  have hin : ∀ w ∈ wsX50, w ∈ wsX5_isBook := fun w h => List.mem_cons_of_mem _ (List.mem_append_right _ h)
  have hS : va_S (mA ad) s0.heap s0.heap [] := va_S.rf
  have hl : lv_has ls 4 [(0, .ref (ad 0)), (1, .int (nI i)), (2, .int (nI u))] := hl
  generalize hQ : MQ below (wPost D (mw cy ad ((isBkL N i u nu z_ 0 sr).2) kS ot asd stt ik tp td fr tt vl wr bo so nu mv) (some (.int (z ((isBkL N i u nu z_ 0 sr).1 = true)))) (mA ad)) args s0 0 0 (mA ad) = Q
  refine lv_iconst (v := nI 0) hx hb dX5_isBook_0 (by decide) ?_
  refine lv_istore_n (lv' := [(3, .int (nI 0)), (0, .ref (ad 0)), (1, .int (nI i)), (2, .int (nI u))]) hx hb dX5_isBook_1 rfl hl (by decide) rfl (fun ls hl => ?_)
  have L_2 : ∀ (n : Nat) (j : Nat) (ss : Nat → Int32) (H : Heap) (locs : List Loc) (ls : Array Slot), (j + n = z_) → (ss 0 = nI N) → (isBkL N i u nu z_ 0 sr = isBkL N i u nu n j ss) → va_P D vwCl (mw cy ad ss kS ot asd stt ik tp td fr tt vl wr bo so nu mv) H → va_S (mA ad) s0.heap H locs → lv_has ls 4 [(3, .int (nI j)), (0, .ref (ad 0)), (1, .int (nI i)), (2, .int (nI u))] → W p l e (rmz 6 134) s0 m args below meth c H locs 0 0 Q (F0 m 2 ls []) := by
    intro n
    induction n with
    | zero =>
      intro j ss H locs ls hj hm hF hP hS hl
      refine lv_iload_n hx hb dX5_isBook_2 rfl (lv_at hl 0 rfl) ?_
      refine lv_aload_n hx hb dX5_isBook_3 rfl (lv_at hl 1 rfl) ?_
      refine m_get hx hb hts hin hown hK hP 13 (by decide) (hts (.fieldLink RX5 31 "PennyRoadModel" "sizeOf" "[I") (by decide +kernel)) rfl dX5_isBook_4 ?_
      refine lv_iload_n hx hb dX5_isBook_7 rfl (lv_at hl 2 rfl) ?_
      refine m_ald hx hb hK hP 8 rfl (by decide) (by omega) dX5_isBook_8 ?_
      refine lv_top hze ?_
      refine lvn_icmp_ge (tgt := 46) hx hb dX5_isBook_9 (by decide) (by omega) (by omega) (fun c_9 => ?_) (fun c_9 => ?_)
      · skip
        refine lv_iconst (v := nI 1) hx hb dX5_isBook_46 (by decide) ?_
        subst hQ
        exact wq_rz hx hb hr hlocks hP hS dX5_isBook_47 (by subst_vars; first | (left; rfl) | (right; rfl) | (split <;> simp)) (by first | (rw [hF.trans (if_neg c_31)]; rfl) | (rw [hF]; rfl)) (mw_sr (by first | rw [hF.trans (if_neg c_31)] | (rw [hF]; rfl)))
      · skip
        exfalso; omega
    | succ n ih_2 =>
      intro j ss H locs ls hj hm hF hP hS hl
      refine lv_iload_n hx hb dX5_isBook_2 rfl (lv_at hl 0 rfl) ?_
      refine lv_aload_n hx hb dX5_isBook_3 rfl (lv_at hl 1 rfl) ?_
      refine m_get hx hb hts hin hown hK hP 13 (by decide) (hts (.fieldLink RX5 31 "PennyRoadModel" "sizeOf" "[I") (by decide +kernel)) rfl dX5_isBook_4 ?_
      refine lv_iload_n hx hb dX5_isBook_7 rfl (lv_at hl 2 rfl) ?_
      refine m_ald hx hb hK hP 8 rfl (by decide) (by omega) dX5_isBook_8 ?_
      refine lv_top hze ?_
      refine lvn_icmp_ge (tgt := 46) hx hb dX5_isBook_9 (by decide) (by omega) (by omega) (fun c_9 => ?_) (fun c_9 => ?_)
      · skip
        exfalso; omega
      · skip
        refine lv_aload_n hx hb dX5_isBook_12 rfl (lv_at hl 1 rfl) ?_
        refine m_get hx hb hts hin hown hK hP 14 (by decide) (hts (.fieldLink RX5 34 "PennyRoadModel" "numbers" "[J") (by decide +kernel)) rfl dX5_isBook_13 ?_
        refine lv_bipush (v := nI 40) hx hb dX5_isBook_16 (by decide) ?_
        refine lv_iload_n hx hb dX5_isBook_18 rfl (lv_at hl 2 rfl) ?_
        refine lvn_imul hx hb dX5_isBook_19 ?_
        refine lv_iload_n hx hb dX5_isBook_20 rfl (lv_at hl 0 rfl) ?_
        refine lvn_iadd hx hb dX5_isBook_21 ?_
        refine m_lald hx hb hK hP 9 rfl (by decide) (by omega) dX5_isBook_22 ?_
        refine lv_aload_n hx hb dX5_isBook_23 rfl (lv_at hl 1 rfl) ?_
        refine lv_iload_n hx hb dX5_isBook_24 rfl (lv_at hl 3 rfl) ?_
        refine lv_iconst (v := nI 1) hx hb dX5_isBook_25 (by decide) ?_
        refine wq_V S mK_ok hK hP hS (c_X5_its (by omega) (by omega)) gX5_isBook_X5_its i_X5_its rfl (m_rec hK hP) ⟨Nat.le_of_ble_eq_true rfl, Nat.le_of_ble_eq_true rfl⟩ rfl hl.1 (As := [.int (nI u), .int (nI 1)]) (rest := [.long (nu ((40 * i) + j))]) (st1 := [.int (ss (5 + 8 * u + 1)), .long (nu ((40 * i) + j))]) rfl rfl (Nat.le_of_ble_eq_true rfl) ⟨Nat.le_of_ble_eq_true rfl, Nat.le_of_ble_eq_true rfl⟩ dX5_isBook_26 (fun H locs hP hS => ?_)
        refine lv_i2l (v := (ss (5 + 8 * u + 1)).toInt64) hx hb dX5_isBook_29 rfl ?_
        refine W.lcmp hx hb dX5_isBook_30 ?_
        refine lv_if_eq (tgt := 36) hx hb dX5_isBook_31 (by decide) (fun c_31 => ?_) (fun c_31 => ?_)
        · skip
          rw [lg_cmp_eq] at c_31
          refine lv_aload_n hx hb dX5_isBook_36 rfl (lv_at hl 1 rfl) ?_
          refine wq_V S mK_ok hK hP hS (c_X5_hour hm h8) gX5_isBook_X5_hour i_X5_hour rfl (m_rec hK hP) ⟨Nat.le_of_ble_eq_true rfl, Nat.le_of_ble_eq_true rfl⟩ rfl hl.1 (As := []) (rest := []) (st1 := []) rfl rfl (Nat.le_of_ble_eq_true rfl) ⟨Nat.le_of_ble_eq_true rfl, Nat.le_of_ble_eq_true rfl⟩ dX5_isBook_37 (fun H locs hP hS => ?_)
          refine lv_iinc (v := nI (j + 1)) (lv' := [(3, .int (nI (j + 1))), (0, .ref (ad 0)), (1, .int (nI i)), (2, .int (nI u))]) hx hb dX5_isBook_40 hl (k := 0) rfl (nI_add _ _) (by decide) rfl (fun ls hl => ?_)
          refine lv_goto (tgt := 2) hx hb dX5_isBook_43 (by decide) ?_
          exact ih_2 (j + 1) _ _ _ ls (by omega) (hourF_0.trans hm) (hF.trans (if_pos c_31)) hP hS hl
        · skip
          rw [lg_cmp_eq] at c_31
          refine lv_iconst (v := nI 0) hx hb dX5_isBook_34 (by decide) ?_
          subst hQ
          exact wq_rz hx hb hr hlocks hP hS dX5_isBook_35 (by subst_vars; first | (left; rfl) | (right; rfl) | (split <;> simp)) (by first | (rw [hF.trans (if_neg c_31)]; rfl) | (rw [hF]; rfl)) (mw_sr (by first | rw [hF.trans (if_neg c_31)] | (rw [hF]; rfl)))
  exact L_2 z_ 0 sr _ _ ls (by omega) hN rfl hP hS hl
theorem i_X5_isBook : ciOk yX5_isBook cX5_isBook 4 (some .boolean) wsX5_isBook 2 := ⟨⟨_, rfl⟩, by decide +kernel⟩
set_option maxHeartbeats 1000000 in
set_option maxRecDepth 100000 in
theorem c_X5_read {l : Launch} {D : va_G} {cy : Nat → ClassId} {ad : Nat → Nat} {sr kS ot asd stt : Nat → Int32} {ik : Int32} {tp : Nat → Int32} {td fr tt vl wr : Int32} {bo so : Nat → Int32} {nu mv : Nat → Int64} {q : Int32} {w : Int32} {N : Nat} (hN : sr 0 = nI N) (h8 : N ≤ 8) (hz : ∀ t, t < 4 → ∃ z : Nat, z ≤ 40 ∧ so t = nI z) : Met l yX5_read wsX5_read (rmz 7 157) (wPre D (mK D cy ad) (mw cy ad sr kS ot asd stt ik tp td fr tt vl wr bo so nu mv) [.ref (ad 0), .int (q), .int (w)]) (mPub D cy ad (some (.int (if rg 0 3 q then (if bo q.toNatClampNeg = 0 then -1000000006 else if isN N w then readL N q.toNatClampNeg w.toNatClampNeg (so q.toNatClampNeg).toNatClampNeg nu sr 66 0 (nI 0) else -1000000001) else -1000000001))) sr kS (if rg 0 3 q then (if bo q.toNatClampNeg = 0 then fnd stt 5 else if isN N w then stt else fnd stt 0) else fnd stt 0) ik tp td bo so nu) 0 0 (mA ad) := by
  refine wq_entry rfl rfl (Nat.le_of_ble_eq_true rfl) ?_
  intro p e s0 m args below meth c S hr hlocks hK hP ls hl
  have S : CallFix p m c cX5_read 6 s0 args wsX5_read RX5 := S
  obtain ⟨hx, hb, hml, hown, hts⟩ := id S
  have hin : ∀ w ∈ wsX50, w ∈ wsX5_read := fun w h => List.mem_cons_of_mem _ (List.mem_append_right _ h)
  have hS : va_S (mA ad) s0.heap s0.heap [] := va_S.rf
  have hl : lv_has ls 6 [(0, .ref (ad 0)), (1, .int (q)), (2, .int (w))] := hl
  generalize hQ : MQ below (mPub D cy ad (some (.int (if rg 0 3 q then (if bo q.toNatClampNeg = 0 then -1000000006 else if isN N w then readL N q.toNatClampNeg w.toNatClampNeg (so q.toNatClampNeg).toNatClampNeg nu sr 66 0 (nI 0) else -1000000001) else -1000000001))) sr kS (if rg 0 3 q then (if bo q.toNatClampNeg = 0 then fnd stt 5 else if isN N w then stt else fnd stt 0) else fnd stt 0) ik tp td bo so nu) args s0 0 0 (mA ad) = Q
  refine lv_aload_n hx hb dX5_read_0 rfl (lv_at hl 0 rfl) ?_
  refine lv_iload_n hx hb dX5_read_1 rfl (lv_at hl 1 rfl) ?_
  refine lv_iload_n hx hb dX5_read_2 rfl (lv_at hl 2 rfl) ?_
  refine wq_V S mK_ok hK hP hS (c_X5_wrongBook hN h8) gX5_read_X5_wrongBook i_X5_wrongBook rfl (m_rec hK hP) ⟨Nat.le_of_ble_eq_true rfl, Nat.le_of_ble_eq_true rfl⟩ rfl hl.1 (As := [.int (q), .int (w)]) (rest := []) (st1 := [.int (wrB bo N (q) (w))]) rfl rfl (Nat.le_of_ble_eq_true rfl) ⟨Nat.le_of_ble_eq_true rfl, Nat.le_of_ble_eq_true rfl⟩ dX5_read_3 (fun H locs hP hS => ?_)
  rcases wb4 bo N q w with c_a | ⟨c_a, c_b⟩ | ⟨c_a, c_b, c_d⟩ | ⟨c_a, c_b, c_d⟩
  · skip
    refine lv_top (wrB_1 c_a) ?_
    refine lv_istore_n (lv' := [(3, .int ((-1000000001))), (0, .ref (ad 0)), (1, .int (q)), (2, .int (w))]) hx hb dX5_read_6 rfl hl (by decide) rfl (fun ls hl => ?_)
    refine lv_iload_n hx hb dX5_read_7 rfl (lv_at hl 0 rfl) ?_
    refine lv_if_eq (tgt := 17) hx hb dX5_read_8 (by decide) (fun c_8 => ?_) (fun c_8 => ?_)
    · skip
      exact absurd c_8 (by decide)
    · skip
      refine lv_aload_n hx hb dX5_read_11 rfl (lv_at hl 1 rfl) ?_
      refine lv_iload_n hx hb dX5_read_12 rfl (lv_at hl 0 rfl) ?_
      refine wq_V S mK_ok hK hP hS (c_X5_finds (t := 0) (by decide)) gX5_read_X5_finds i_X5_finds rfl (m_rec hK hP) ⟨Nat.le_of_ble_eq_true rfl, Nat.le_of_ble_eq_true rfl⟩ rfl hl.1 (As := [.int ((-1000000001))]) (rest := []) (st1 := [.int ((-1000000001))]) rfl rfl (Nat.le_of_ble_eq_true rfl) ⟨Nat.le_of_ble_eq_true rfl, Nat.le_of_ble_eq_true rfl⟩ dX5_read_13 (fun H locs hP hS => ?_)
      subst hQ
      exact mp_ri hx hb hr hlocks hP hS dX5_read_16 (by first | with_reducible rfl | (simp only [fnd, if_neg c_a, if_neg c_8]; done) | (simp only [fnd, c_a, if_neg c_8, Bool.false_eq_true, Bool.true_eq_false, and_true, true_and, false_and, and_false, and_self, not_true_eq_false, not_false_eq_true, if_true, if_false, reduceIte, or_false, false_or, true_or, or_true]; done) | (subst_vars; first | with_reducible rfl | (simp only [fnd, if_neg c_a, if_neg c_8]; done) | (simp only [fnd, c_a, if_neg c_8, Bool.false_eq_true, Bool.true_eq_false, and_true, true_and, false_and, and_false, and_self, not_true_eq_false, not_false_eq_true, if_true, if_false, reduceIte, or_false, false_or, true_or, or_true]; done)) | contradiction | rfl) (by first | with_reducible rfl | (simp only [fnd, if_neg c_a, if_neg c_8]; done) | (simp only [fnd, c_a, if_neg c_8, Bool.false_eq_true, Bool.true_eq_false, and_true, true_and, false_and, and_false, and_self, not_true_eq_false, not_false_eq_true, if_true, if_false, reduceIte, or_false, false_or, true_or, or_true]; done) | (subst_vars; first | with_reducible rfl | (simp only [fnd, if_neg c_a, if_neg c_8]; done) | (simp only [fnd, c_a, if_neg c_8, Bool.false_eq_true, Bool.true_eq_false, and_true, true_and, false_and, and_false, and_self, not_true_eq_false, not_false_eq_true, if_true, if_false, reduceIte, or_false, false_or, true_or, or_true]; done)) | contradiction | rfl)
  · skip
    refine lv_top (wrB_2 c_a c_b) ?_
    obtain ⟨i, h_i, h_i2, rfl⟩ := rg_ix (a := 0) (b := 3) (by decide) c_a
    have hcl_i : (nI i).toNatClampNeg = i := nI_clamp (by omega)
    rw [hcl_i] at c_b
    refine lv_istore_n (lv' := [(3, .int ((-1000000006))), (0, .ref (ad 0)), (1, .int (nI i)), (2, .int (w))]) hx hb dX5_read_6 rfl hl (by decide) rfl (fun ls hl => ?_)
    refine lv_iload_n hx hb dX5_read_7 rfl (lv_at hl 0 rfl) ?_
    refine lv_if_eq (tgt := 17) hx hb dX5_read_8 (by decide) (fun c_8 => ?_) (fun c_8 => ?_)
    · skip
      exact absurd c_8 (by decide)
    · skip
      refine lv_aload_n hx hb dX5_read_11 rfl (lv_at hl 1 rfl) ?_
      refine lv_iload_n hx hb dX5_read_12 rfl (lv_at hl 0 rfl) ?_
      refine wq_V S mK_ok hK hP hS (c_X5_finds (t := 5) (by decide)) gX5_read_X5_finds i_X5_finds rfl (m_rec hK hP) ⟨Nat.le_of_ble_eq_true rfl, Nat.le_of_ble_eq_true rfl⟩ rfl hl.1 (As := [.int ((-1000000006))]) (rest := []) (st1 := [.int ((-1000000006))]) rfl rfl (Nat.le_of_ble_eq_true rfl) ⟨Nat.le_of_ble_eq_true rfl, Nat.le_of_ble_eq_true rfl⟩ dX5_read_13 (fun H locs hP hS => ?_)
      subst hQ
      exact mp_ri hx hb hr hlocks hP hS dX5_read_16 (by first | with_reducible rfl | (simp only [fnd, if_pos c_a, if_pos c_b, if_neg c_8]; done) | (simp only [fnd, hcl_i, c_a, if_pos c_b, if_neg c_8, Bool.false_eq_true, Bool.true_eq_false, and_true, true_and, false_and, and_false, and_self, not_true_eq_false, not_false_eq_true, if_true, if_false, reduceIte, or_false, false_or, true_or, or_true]; done) | (subst_vars; first | with_reducible rfl | (simp only [fnd, if_pos c_a, if_pos c_b, if_neg c_8]; done) | (simp only [fnd, hcl_i, c_a, if_pos c_b, if_neg c_8, Bool.false_eq_true, Bool.true_eq_false, and_true, true_and, false_and, and_false, and_self, not_true_eq_false, not_false_eq_true, if_true, if_false, reduceIte, or_false, false_or, true_or, or_true]; done)) | contradiction | rfl) (by first | with_reducible rfl | (simp only [fnd, if_pos c_a, if_pos c_b, if_neg c_8]; done) | (simp only [fnd, hcl_i, c_a, if_pos c_b, if_neg c_8, Bool.false_eq_true, Bool.true_eq_false, and_true, true_and, false_and, and_false, and_self, not_true_eq_false, not_false_eq_true, if_true, if_false, reduceIte, or_false, false_or, true_or, or_true]; done) | (subst_vars; first | with_reducible rfl | (simp only [fnd, if_pos c_a, if_pos c_b, if_neg c_8]; done) | (simp only [fnd, hcl_i, c_a, if_pos c_b, if_neg c_8, Bool.false_eq_true, Bool.true_eq_false, and_true, true_and, false_and, and_false, and_self, not_true_eq_false, not_false_eq_true, if_true, if_false, reduceIte, or_false, false_or, true_or, or_true]; done)) | contradiction | rfl)
  · skip
    refine lv_top (wrB_3 c_a c_b c_d) ?_
    obtain ⟨i, h_i, h_i2, rfl⟩ := rg_ix (a := 0) (b := 3) (by decide) c_a
    have hcl_i : (nI i).toNatClampNeg = i := nI_clamp (by omega)
    rw [hcl_i] at c_b
    refine lv_istore_n (lv' := [(3, .int ((-1000000001))), (0, .ref (ad 0)), (1, .int (nI i)), (2, .int (w))]) hx hb dX5_read_6 rfl hl (by decide) rfl (fun ls hl => ?_)
    refine lv_iload_n hx hb dX5_read_7 rfl (lv_at hl 0 rfl) ?_
    refine lv_if_eq (tgt := 17) hx hb dX5_read_8 (by decide) (fun c_8 => ?_) (fun c_8 => ?_)
    · skip
      exact absurd c_8 (by decide)
    · skip
      refine lv_aload_n hx hb dX5_read_11 rfl (lv_at hl 1 rfl) ?_
      refine lv_iload_n hx hb dX5_read_12 rfl (lv_at hl 0 rfl) ?_
      refine wq_V S mK_ok hK hP hS (c_X5_finds (t := 0) (by decide)) gX5_read_X5_finds i_X5_finds rfl (m_rec hK hP) ⟨Nat.le_of_ble_eq_true rfl, Nat.le_of_ble_eq_true rfl⟩ rfl hl.1 (As := [.int ((-1000000001))]) (rest := []) (st1 := [.int ((-1000000001))]) rfl rfl (Nat.le_of_ble_eq_true rfl) ⟨Nat.le_of_ble_eq_true rfl, Nat.le_of_ble_eq_true rfl⟩ dX5_read_13 (fun H locs hP hS => ?_)
      subst hQ
      exact mp_ri hx hb hr hlocks hP hS dX5_read_16 (by first | with_reducible rfl | (simp only [fnd, if_pos c_a, if_neg c_b, if_neg c_d, if_neg c_8]; done) | (simp only [fnd, hcl_i, c_a, if_neg c_b, c_d, if_neg c_8, Bool.false_eq_true, Bool.true_eq_false, and_true, true_and, false_and, and_false, and_self, not_true_eq_false, not_false_eq_true, if_true, if_false, reduceIte, or_false, false_or, true_or, or_true]; done) | (subst_vars; first | with_reducible rfl | (simp only [fnd, if_pos c_a, if_neg c_b, if_neg c_d, if_neg c_8]; done) | (simp only [fnd, hcl_i, c_a, if_neg c_b, c_d, if_neg c_8, Bool.false_eq_true, Bool.true_eq_false, and_true, true_and, false_and, and_false, and_self, not_true_eq_false, not_false_eq_true, if_true, if_false, reduceIte, or_false, false_or, true_or, or_true]; done)) | contradiction | rfl) (by first | with_reducible rfl | (simp only [fnd, if_pos c_a, if_neg c_b, if_neg c_d, if_neg c_8]; done) | (simp only [fnd, hcl_i, c_a, if_neg c_b, c_d, if_neg c_8, Bool.false_eq_true, Bool.true_eq_false, and_true, true_and, false_and, and_false, and_self, not_true_eq_false, not_false_eq_true, if_true, if_false, reduceIte, or_false, false_or, true_or, or_true]; done) | (subst_vars; first | with_reducible rfl | (simp only [fnd, if_pos c_a, if_neg c_b, if_neg c_d, if_neg c_8]; done) | (simp only [fnd, hcl_i, c_a, if_neg c_b, c_d, if_neg c_8, Bool.false_eq_true, Bool.true_eq_false, and_true, true_and, false_and, and_false, and_self, not_true_eq_false, not_false_eq_true, if_true, if_false, reduceIte, or_false, false_or, true_or, or_true]; done)) | contradiction | rfl)
  · skip
    refine lv_top (wrB_4 c_a c_b c_d) ?_
    obtain ⟨i, h_i, h_i2, rfl⟩ := rg_ix (a := 0) (b := 3) (by decide) c_a
    have hcl_i : (nI i).toNatClampNeg = i := nI_clamp (by omega)
    rw [hcl_i] at c_b
    obtain ⟨u, h_u, rfl⟩ := isN_ix h8 c_d
    have hcl_u : (nI u).toNatClampNeg = u := nI_clamp (by omega)
    refine lv_istore_n (lv' := [(3, .int (nI 0)), (0, .ref (ad 0)), (1, .int (nI i)), (2, .int (nI u))]) hx hb dX5_read_6 rfl hl (by decide) rfl (fun ls hl => ?_)
    refine lv_iload_n hx hb dX5_read_7 rfl (lv_at hl 0 rfl) ?_
    refine lv_if_eq (tgt := 17) hx hb dX5_read_8 (by decide) (fun c_8 => ?_) (fun c_8 => ?_)
    · skip
      obtain ⟨z_, hz4, hze⟩ := hz i (by omega)
      have hclz : (so i).toNatClampNeg = z_ := by rw [hze]; exact nI_clamp (by omega)
      refine lv_aload_n hx hb dX5_read_17 rfl (lv_at hl 1 rfl) ?_
      refine wq_V S mK_ok hK hP hS (c_X5_laysAside) gX5_read_X5_laysAside i_X5_laysAside rfl (m_rec hK hP) ⟨Nat.le_of_ble_eq_true rfl, Nat.le_of_ble_eq_true rfl⟩ rfl hl.1 (As := []) (rest := []) (st1 := []) rfl rfl (Nat.le_of_ble_eq_true rfl) ⟨Nat.le_of_ble_eq_true rfl, Nat.le_of_ble_eq_true rfl⟩ dX5_read_18 (fun H locs hP hS => ?_)
      refine lv_iconst (v := nI 0) hx hb dX5_read_21 (by decide) ?_
      refine lv_istore (lv' := [(4, .int (nI 0)), (3, .int (nI 0)), (0, .ref (ad 0)), (1, .int (nI i)), (2, .int (nI u))]) hx hb dX5_read_22 hl (by decide) rfl (fun ls hl => ?_)
      refine lv_iconst (v := nI 0) hx hb dX5_read_24 (by decide) ?_
      refine lv_istore (lv' := [(5, .int (nI 0)), (4, .int (nI 0)), (3, .int (nI 0)), (0, .ref (ad 0)), (1, .int (nI i)), (2, .int (nI u))]) hx hb dX5_read_25 hl (by decide) rfl (fun ls hl => ?_)
      have L_27 : ∀ (n : Nat) (j : Nat) (acc : Int32) (H : Heap) (locs : List Loc) (ls : Array Slot), (j + n = 66) → (readL N i u z_ nu sr 66 0 (nI 0) = readL N i u z_ nu sr n j acc) → va_P D vwCl (mw cy ad sr kS ot sr stt ik tp td fr tt vl wr bo so nu mv) H → va_S (mA ad) s0.heap H locs → lv_has ls 6 [(5, .int (nI j)), (4, .int (acc)), (3, .int (nI 0)), (0, .ref (ad 0)), (1, .int (nI i)), (2, .int (nI u))] → W p l e (rmz 7 157) s0 m args below meth c H locs 0 0 Q (F0 m 27 ls []) := by
        intro n
        induction n with
        | zero =>
          intro j acc H locs ls hj hF hP hS hl
          refine lv_iload hx hb dX5_read_27 (lv_at hl 0 rfl) ?_
          refine lv_bipush (v := nI 66) hx hb dX5_read_29 (by decide) ?_
          refine lvn_icmp_ge (tgt := 93) hx hb dX5_read_31 (by decide) (by omega) (by omega) (fun c_31 => ?_) (fun c_31 => ?_)
          · skip
            have hE : readL N i u z_ nu sr 66 0 (nI 0) = acc := hF
            refine lv_iload hx hb dX5_read_93 (lv_at hl 1 rfl) ?_
            subst hQ
            exact mp_ri hx hb hr hlocks hP hS dX5_read_95 (by first | with_reducible rfl | (simp only [fnd, if_pos c_a, if_neg c_b, if_pos c_d, if_pos c_8, if_pos c_31]; done) | (simp only [fnd, hcl_i, hcl_u, hclz, hE, c_a, if_neg c_b, c_d, if_pos c_8, if_pos c_31, Bool.false_eq_true, Bool.true_eq_false, and_true, true_and, false_and, and_false, and_self, not_true_eq_false, not_false_eq_true, if_true, if_false, reduceIte, or_false, false_or, true_or, or_true]; done) | (subst_vars; first | with_reducible rfl | (simp only [fnd, if_pos c_a, if_neg c_b, if_pos c_d, if_pos c_8, if_pos c_31]; done) | (simp only [fnd, hcl_i, hcl_u, hclz, hE, c_a, if_neg c_b, c_d, if_pos c_8, if_pos c_31, Bool.false_eq_true, Bool.true_eq_false, and_true, true_and, false_and, and_false, and_self, not_true_eq_false, not_false_eq_true, if_true, if_false, reduceIte, or_false, false_or, true_or, or_true]; done)) | contradiction | rfl) (by first | with_reducible rfl | (simp only [fnd, if_pos c_a, if_neg c_b, if_pos c_d, if_pos c_8, if_pos c_31]; done) | (simp only [fnd, hcl_i, hcl_u, hclz, hE, c_a, if_neg c_b, c_d, if_pos c_8, if_pos c_31, Bool.false_eq_true, Bool.true_eq_false, and_true, true_and, false_and, and_false, and_self, not_true_eq_false, not_false_eq_true, if_true, if_false, reduceIte, or_false, false_or, true_or, or_true]; done) | (subst_vars; first | with_reducible rfl | (simp only [fnd, if_pos c_a, if_neg c_b, if_pos c_d, if_pos c_8, if_pos c_31]; done) | (simp only [fnd, hcl_i, hcl_u, hclz, hE, c_a, if_neg c_b, c_d, if_pos c_8, if_pos c_31, Bool.false_eq_true, Bool.true_eq_false, and_true, true_and, false_and, and_false, and_self, not_true_eq_false, not_false_eq_true, if_true, if_false, reduceIte, or_false, false_or, true_or, or_true]; done)) | contradiction | rfl)
          · skip
            exfalso; omega
        | succ n ih_27 =>
          intro j acc H locs ls hj hF hP hS hl
          refine lv_iload hx hb dX5_read_27 (lv_at hl 0 rfl) ?_
          refine lv_bipush (v := nI 66) hx hb dX5_read_29 (by decide) ?_
          refine lvn_icmp_ge (tgt := 93) hx hb dX5_read_31 (by decide) (by omega) (by omega) (fun c_31 => ?_) (fun c_31 => ?_)
          · skip
            exfalso; omega
          · skip
            refine lv_aload_n hx hb dX5_read_34 rfl (lv_at hl 3 rfl) ?_
            refine m_get hx hb hts hin hown hK hP 0 (by decide) (hts (.fieldLink RX5 7 "PennyRoadModel" "s" "[I") (by decide +kernel)) rfl dX5_read_35 ?_
            refine lv_iload_n hx hb dX5_read_38 rfl (lv_at hl 5 rfl) ?_
            refine lv_iconst (v := nI 0) hx hb dX5_read_39 (by decide) ?_
            refine sq_S S (c_X5_spotOf) gX5_read_X5_spotOf i_X5_spotOf ⟨Nat.le_of_ble_eq_true rfl, Nat.le_of_ble_eq_true rfl⟩ rfl hl.1 (As := [.int (nI u), .int (nI 0)]) (rest := [.ref (ad 1)]) (st1 := [.int (nI (5 + 8 * u + 0)), .ref (ad 1)]) rfl rfl (Nat.le_of_ble_eq_true rfl) ⟨Nat.le_of_ble_eq_true rfl, Nat.le_of_ble_eq_true rfl⟩ dX5_read_40 ?_
            refine lv_iload hx hb dX5_read_43 (lv_at hl 0 rfl) ?_
            refine lv_bipush (v := nI 11) hx hb dX5_read_45 (by decide) ?_
            refine lv_idiv hx hb dX5_read_47 (by decide) ?_
            refine m_ast (w' := (mw cy ad (upd sr (5 + 8 * u + 0) ((nI j) / (nI 11))) kS ot sr stt ik tp td fr tt vl wr bo so nu mv)) hx hb hK hP hS 1 rfl (by decide) (by omega) rfl dX5_read_48 (fun H locs hP hS => ?_)
            refine lv_aload_n hx hb dX5_read_49 rfl (lv_at hl 3 rfl) ?_
            refine m_get hx hb hts hin hown hK hP 0 (by decide) (hts (.fieldLink RX5 7 "PennyRoadModel" "s" "[I") (by decide +kernel)) rfl dX5_read_50 ?_
            refine lv_iload_n hx hb dX5_read_53 rfl (lv_at hl 5 rfl) ?_
            refine lv_iconst (v := nI 4) hx hb dX5_read_54 (by decide) ?_
            refine sq_S S (c_X5_spotOf) gX5_read_X5_spotOf i_X5_spotOf ⟨Nat.le_of_ble_eq_true rfl, Nat.le_of_ble_eq_true rfl⟩ rfl hl.1 (As := [.int (nI u), .int (nI 4)]) (rest := [.ref (ad 1)]) (st1 := [.int (nI (5 + 8 * u + 4)), .ref (ad 1)]) rfl rfl (Nat.le_of_ble_eq_true rfl) ⟨Nat.le_of_ble_eq_true rfl, Nat.le_of_ble_eq_true rfl⟩ dX5_read_55 ?_
            refine lv_iload hx hb dX5_read_58 (lv_at hl 0 rfl) ?_
            refine lv_bipush (v := nI 11) hx hb dX5_read_60 (by decide) ?_
            refine lv_irem hx hb dX5_read_62 (by decide) ?_
            refine m_ast (w' := (mw cy ad (upd (upd sr (5 + 8 * u + 0) ((nI j) / (nI 11))) (5 + 8 * u + 4) ((nI j) - (nI j) / (nI 11) * (nI 11))) kS ot sr stt ik tp td fr tt vl wr bo so nu mv)) hx hb hK hP hS 1 rfl (by decide) (by omega) rfl dX5_read_63 (fun H locs hP hS => ?_)
            refine lv_aload_n hx hb dX5_read_64 rfl (lv_at hl 3 rfl) ?_
            refine lv_iload hx hb dX5_read_65 (lv_at hl 1 rfl) ?_
            refine lv_aload_n hx hb dX5_read_67 rfl (lv_at hl 3 rfl) ?_
            refine lv_iload_n hx hb dX5_read_68 rfl (lv_at hl 4 rfl) ?_
            refine lv_iload_n hx hb dX5_read_69 rfl (lv_at hl 5 rfl) ?_
            refine wq_V S mK_ok hK hP hS (c_X5_isBook ((upd_0 (by omega)).trans ((upd_0 (by omega)).trans hN)) h8 (by omega) (by omega) hz4 hze) gX5_read_X5_isBook i_X5_isBook rfl (m_rec hK hP) ⟨Nat.le_of_ble_eq_true rfl, Nat.le_of_ble_eq_true rfl⟩ rfl hl.1 (As := [.int (nI i), .int (nI u)]) (rest := [.int (acc), .ref (ad 0)]) (st1 := [.int (z ((isBkL N i u nu z_ 0 (upd (upd sr (5 + 8 * u + 0) ((nI j) / (nI 11))) (5 + 8 * u + 4) ((nI j) - (nI j) / (nI 11) * (nI 11)))).1 = true)), .int (acc), .ref (ad 0)]) rfl rfl (Nat.le_of_ble_eq_true rfl) ⟨Nat.le_of_ble_eq_true rfl, Nat.le_of_ble_eq_true rfl⟩ dX5_read_70 (fun H locs hP hS => ?_)
            have K_1 : ∀ (x_2 : Int32) (H : Heap) (locs : List Loc) (ls : Array Slot), x_2 = (if (isBkL N i u nu z_ 0 (upd (upd sr (5 + 8 * u + 0) ((nI j) / (nI 11))) (5 + 8 * u + 4) ((nI j) - (nI j) / (nI 11) * (nI 11)))).1 = true then (nI 1) else (nI 0)) → va_P D vwCl (mw cy ad ((isBkL N i u nu z_ 0 (upd (upd sr (5 + 8 * u + 0) ((nI j) / (nI 11))) (5 + 8 * u + 4) ((nI j) - (nI j) / (nI 11) * (nI 11)))).2) kS ot sr stt ik tp td fr tt vl wr bo so nu mv) H → va_S (mA ad) s0.heap H locs → lv_has ls 6 [(5, .int (nI j)), (4, .int (acc)), (3, .int (nI 0)), (0, .ref (ad 0)), (1, .int (nI i)), (2, .int (nI u))] → W p l e (rmz 7 157) s0 m args below meth c H locs 0 0 Q (F0 m 81 ls [.int (x_2), .int (acc), .ref (ad 0)]) := by
              intro x_2 H locs ls ex_2 hP hS hl
              refine lv_iadd hx hb dX5_read_81 ?_
              refine wq_V S mK_ok hK hP hS (c_X5_takesBack) gX5_read_X5_takesBack i_X5_takesBack rfl (m_rec hK hP) ⟨Nat.le_of_ble_eq_true rfl, Nat.le_of_ble_eq_true rfl⟩ rfl hl.1 (As := [.int ((acc) + (x_2))]) (rest := []) (st1 := [.int ((acc) + (x_2))]) rfl rfl (Nat.le_of_ble_eq_true rfl) ⟨Nat.le_of_ble_eq_true rfl, Nat.le_of_ble_eq_true rfl⟩ dX5_read_82 (fun H locs hP hS => ?_)
              refine lv_istore (lv' := [(4, .int ((acc) + (x_2))), (5, .int (nI j)), (3, .int (nI 0)), (0, .ref (ad 0)), (1, .int (nI i)), (2, .int (nI u))]) hx hb dX5_read_85 hl (by decide) rfl (fun ls hl => ?_)
              refine lv_iinc (v := nI (j + 1)) (lv' := [(5, .int (nI (j + 1))), (4, .int ((acc) + (x_2))), (3, .int (nI 0)), (0, .ref (ad 0)), (1, .int (nI i)), (2, .int (nI u))]) hx hb dX5_read_87 hl (k := 1) rfl (nI_add _ _) (by decide) rfl (fun ls hl => ?_)
              refine lv_goto (tgt := 27) hx hb dX5_read_90 (by decide) ?_
              exact ih_27 (j + 1) _ _ _ ls (by omega) (by subst ex_2; exact hF) hP hS hl
            refine lvz_if_eq (tgt := 80) hx hb dX5_read_73 (by decide) (fun c_73 => ?_) (fun c_73 => ?_)
            · skip
              refine lv_iconst (v := nI 0) hx hb dX5_read_80 (by decide) ?_
              exact K_1 (nI 0) _ _ ls (by simp only [if_neg c_73]) hP hS hl
            · skip
              refine lv_iconst (v := nI 1) hx hb dX5_read_76 (by decide) ?_
              refine lv_goto (tgt := 81) hx hb dX5_read_77 (by decide) ?_
              exact K_1 (nI 1) _ _ ls (by simp only [if_pos c_73]) hP hS hl
      exact L_27 66 0 (nI 0) _ _ ls (by omega) rfl hP hS hl
    · skip
      exact absurd c_8 (by decide)
theorem i_X5_read : ciOk yX5_read cX5_read 6 (some .int) wsX5_read 2 := ⟨⟨_, rfl⟩, by decide +kernel⟩
