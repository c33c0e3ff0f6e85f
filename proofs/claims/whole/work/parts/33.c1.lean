set_option maxHeartbeats 1000000 in
set_option maxRecDepth 100000 in
theorem c_X3_milesToHatch {l : Launch} {D : va_G} {cy : Nat → ClassId} {ad : Nat → Nat} {rd : Nat → Nat → Int32} {ke : Int32} {tb : Nat → Int32} {t1 : Int32} {t2 : Int32} {t3 : Int32} {t4 : Int32} {t5 : Int32} {sb : Nat → Int32} {ss : Nat → Int32} {sw : Nat → Nat → Int64} {fd : Nat → Int32} {sg : Nat → Int32} {r : Nat} {i : Nat} (hr3 : r < 3) (hi : i < 8) : Met l yX3_milesToHatch wsX3_milesToHatch (rmz 0 0) (wPre D (cK D cy ad) (cw cy ad (va_up rd r sg) ke tb t1 t2 t3 t4 t5 sb ss sw fd) [.ref (ad (3 + 10 * r + i))]) (wPost D (cw cy ad (va_up rd r sg) ke tb t1 t2 t3 t4 t5 sb ss sw fd) (some (.int (farF sg i))) (cA ad)) 0 0 (cA ad) := by
  refine wq_entry rfl rfl (Nat.le_of_ble_eq_true rfl) ?_
  intro p e s0 m args below meth c S hr hlocks hK hP ls hl
  have S : CallFix p m c cX3_milesToHatch 1 s0 args wsX3_milesToHatch RX3 := S
  obtain ⟨hx, hb, hml, hown, hts⟩ := id S
  have hin3 : ∀ w ∈ wsX30, w ∈ wsX3_milesToHatch := fun w h => List.mem_cons_of_mem _ (List.mem_append_right _ h)
  have hS : va_S (cA ad) s0.heap s0.heap [] := va_S.rf
  have hl : lv_has ls 1 [(0, .ref (ad (3 + 10 * r + i)))] := hl
  generalize hQ : MQ below (wPost D (cw cy ad (va_up rd r sg) ke tb t1 t2 t3 t4 t5 sb ss sw fd) (some (.int (farF sg i))) (cA ad)) args s0 0 0 (cA ad) = Q
  refine lv_aload_n hx hb dX3_milesToHatch_0 rfl (lv_at hl 0 rfl) ?_
  refine r_getW hx hb hts hin3 hown hK hP hr3 (by omega) 2 (by decide) (Or.inl (hts (.fieldLink RX3 18 "PennyRoad$Walker" "up" "I") (by decide +kernel))) rfl dX3_milesToHatch_1 ?_
  refine lv_iconst (v := nI 1) hx hb dX3_milesToHatch_4 (by decide) ?_
  have K_1 : ∀ (x_2 : Int32) (H : Heap) (locs : List Loc) (ls : Array Slot), x_2 = (if (sg (5 + 8 * i + 2)) = (nI 1) then ((nI 12) - (sg (5 + 8 * i + 1))) else (sg (5 + 8 * i + 1))) → va_P D vwCl (cw cy ad (va_up rd r sg) ke tb t1 t2 t3 t4 t5 sb ss sw fd) H → va_S (cA ad) s0.heap H locs → lv_has ls 1 [(0, .ref (ad (3 + 10 * r + i)))] → W p l e (rmz 0 0) s0 m args below meth c H locs 0 0 Q (F0 m 22 ls [.int (x_2)]) := by
    intro x_2 H locs ls ex_2 hP hS hl
    subst hQ
    exact wq_ri hx hb hr hlocks hP hS dX3_milesToHatch_22 (by first | with_reducible rfl | (simp only [farF]; done) | (simp only [farF, Bool.false_eq_true, Bool.true_eq_false, and_true, true_and, false_and, and_false, and_self, not_true_eq_false, not_false_eq_true, if_true, if_false, reduceIte, or_false, false_or, true_or, or_true]; done) | (subst_vars; first | with_reducible rfl | (simp only [farF]; done) | (simp only [farF, Bool.false_eq_true, Bool.true_eq_false, and_true, true_and, false_and, and_false, and_self, not_true_eq_false, not_false_eq_true, if_true, if_false, reduceIte, or_false, false_or, true_or, or_true]; done)) | contradiction | rfl) rfl
  refine lv_icmp_ne (tgt := 18) hx hb dX3_milesToHatch_5 (by decide) (fun c_5 => ?_) (fun c_5 => ?_)
  · skip
    refine lv_aload_n hx hb dX3_milesToHatch_18 rfl (lv_at hl 0 rfl) ?_
    refine r_getW hx hb hts hin3 hown hK hP hr3 (by omega) 1 (by decide) (Or.inl (hts (.fieldLink RX3 15 "PennyRoad$Walker" "mile" "I") (by decide +kernel))) rfl dX3_milesToHatch_19 ?_
    exact K_1 (sg (5 + 8 * i + 1)) _ _ ls (by simp only [if_neg c_5]) hP hS hl
  · skip
    refine lv_bipush (v := nI 12) hx hb dX3_milesToHatch_8 (by decide) ?_
    refine lv_aload_n hx hb dX3_milesToHatch_10 rfl (lv_at hl 0 rfl) ?_
    refine r_getW hx hb hts hin3 hown hK hP hr3 (by omega) 1 (by decide) (Or.inl (hts (.fieldLink RX3 15 "PennyRoad$Walker" "mile" "I") (by decide +kernel))) rfl dX3_milesToHatch_11 ?_
    refine lv_isub hx hb dX3_milesToHatch_14 ?_
    refine lv_goto (tgt := 22) hx hb dX3_milesToHatch_15 (by decide) ?_
    exact K_1 ((nI 12) - (sg (5 + 8 * i + 1))) _ _ ls (by simp only [if_pos c_5]) hP hS hl
theorem i_X3_milesToHatch : ciOk yX3_milesToHatch cX3_milesToHatch 1 (some .int) wsX3_milesToHatch 0 := ⟨⟨_, rfl⟩, by decide +kernel⟩
set_option maxHeartbeats 1000000 in
set_option maxRecDepth 100000 in
theorem c_X3_trait {l : Launch} {D : va_G} {cy : Nat → ClassId} {ad : Nat → Nat} {rd : Nat → Nat → Int32} {ke : Int32} {tb : Nat → Int32} {t1 : Int32} {t2 : Int32} {t3 : Int32} {t4 : Int32} {t5 : Int32} {sb : Nat → Int32} {ss : Nat → Int32} {sw : Nat → Nat → Int64} {fd : Nat → Int32} {sg : Nat → Int32} {r : Nat} {i : Nat} {q : Int32} (hr3 : r < 3) (hi : i < 8) : Met l yX3_trait wsX3_trait (rmz 0 0) (wPre D (cK D cy ad) (cw cy ad (va_up rd r sg) ke tb t1 t2 t3 t4 t5 sb ss sw fd) [.ref (ad (3 + 10 * r + i)), .int (q)]) (wPost D (cw cy ad (va_up rd r sg) ke tb t1 t2 t3 t4 t5 sb ss sw fd) (some (.int (traitF sg i q))) (cA ad)) 0 0 (cA ad) := by
  refine wq_entry rfl rfl (Nat.le_of_ble_eq_true rfl) ?_
  intro p e s0 m args below meth c S hr hlocks hK hP ls hl
  have S : CallFix p m c cX3_trait 2 s0 args wsX3_trait RX3 := S
  obtain ⟨hx, hb, hml, hown, hts⟩ := id S
  have hin3 : ∀ w ∈ wsX30, w ∈ wsX3_trait := fun w h => List.mem_cons_of_mem _ (List.mem_append_right _ h)
  have hS : va_S (cA ad) s0.heap s0.heap [] := va_S.rf
  have hl : lv_has ls 2 [(0, .ref (ad (3 + 10 * r + i))), (1, .int (q))] := hl
  generalize hQ : MQ below (wPost D (cw cy ad (va_up rd r sg) ke tb t1 t2 t3 t4 t5 sb ss sw fd) (some (.int (traitF sg i q))) (cA ad)) args s0 0 0 (cA ad) = Q
  refine lv_iload_n hx hb dX3_trait_0 rfl (lv_at hl 1 rfl) ?_
  by_cases c_1_1 : q = nI 1
  · skip
    refine lv_tableIn (tgt := 44) hx hb dX3_trait_1 (by rw [c_1_1]; decide) (by rw [c_1_1]; decide) (by rw [c_1_1]; rfl) (by decide) ?_
    refine lv_aload_n hx hb dX3_trait_44 rfl (lv_at hl 0 rfl) ?_
    refine r_getW hx hb hts hin3 hown hK hP hr3 (by omega) 1 (by decide) (Or.inl (hts (.fieldLink RX3 15 "PennyRoad$Walker" "mile" "I") (by decide +kernel))) rfl dX3_trait_45 ?_
    subst hQ
    exact wq_ri hx hb hr hlocks hP hS dX3_trait_48 (by first | with_reducible rfl | (simp only [traitF, if_pos c_1_1]; done) | (simp only [traitF, if_pos c_1_1, Bool.false_eq_true, Bool.true_eq_false, and_true, true_and, false_and, and_false, and_self, not_true_eq_false, not_false_eq_true, if_true, if_false, reduceIte, or_false, false_or, true_or, or_true]; done) | (subst_vars; first | with_reducible rfl | (simp only [traitF, if_pos c_1_1]; done) | (simp only [traitF, if_pos c_1_1, Bool.false_eq_true, Bool.true_eq_false, and_true, true_and, false_and, and_false, and_self, not_true_eq_false, not_false_eq_true, if_true, if_false, reduceIte, or_false, false_or, true_or, or_true]; done)) | contradiction | rfl) rfl
  by_cases c_1_2 : q = nI 2
  · skip
    refine lv_tableIn (tgt := 49) hx hb dX3_trait_1 (by rw [c_1_2]; decide) (by rw [c_1_2]; decide) (by rw [c_1_2]; rfl) (by decide) ?_
    refine lv_aload_n hx hb dX3_trait_49 rfl (lv_at hl 0 rfl) ?_
    refine r_getW hx hb hts hin3 hown hK hP hr3 (by omega) 2 (by decide) (Or.inl (hts (.fieldLink RX3 18 "PennyRoad$Walker" "up" "I") (by decide +kernel))) rfl dX3_trait_50 ?_
    subst hQ
    exact wq_ri hx hb hr hlocks hP hS dX3_trait_53 (by first | with_reducible rfl | (simp only [traitF, if_neg c_1_1, if_pos c_1_2]; done) | (simp only [traitF, if_neg c_1_1, if_pos c_1_2, Bool.false_eq_true, Bool.true_eq_false, and_true, true_and, false_and, and_false, and_self, not_true_eq_false, not_false_eq_true, if_true, if_false, reduceIte, or_false, false_or, true_or, or_true]; done) | (subst_vars; first | with_reducible rfl | (simp only [traitF, if_neg c_1_1, if_pos c_1_2]; done) | (simp only [traitF, if_neg c_1_1, if_pos c_1_2, Bool.false_eq_true, Bool.true_eq_false, and_true, true_and, false_and, and_false, and_self, not_true_eq_false, not_false_eq_true, if_true, if_false, reduceIte, or_false, false_or, true_or, or_true]; done)) | contradiction | rfl) rfl
  by_cases c_1_3 : q = nI 3
  · skip
    refine lv_tableIn (tgt := 54) hx hb dX3_trait_1 (by rw [c_1_3]; decide) (by rw [c_1_3]; decide) (by rw [c_1_3]; rfl) (by decide) ?_
    refine lv_aload_n hx hb dX3_trait_54 rfl (lv_at hl 0 rfl) ?_
    refine r_getW hx hb hts hin3 hown hK hP hr3 (by omega) 3 (by decide) (Or.inl (hts (.fieldLink RX3 21 "PennyRoad$Walker" "reason" "I") (by decide +kernel))) rfl dX3_trait_55 ?_
    subst hQ
    exact wq_ri hx hb hr hlocks hP hS dX3_trait_58 (by first | with_reducible rfl | (simp only [traitF, if_neg c_1_1, if_neg c_1_2, if_pos c_1_3]; done) | (simp only [traitF, if_neg c_1_1, if_neg c_1_2, if_pos c_1_3, Bool.false_eq_true, Bool.true_eq_false, and_true, true_and, false_and, and_false, and_self, not_true_eq_false, not_false_eq_true, if_true, if_false, reduceIte, or_false, false_or, true_or, or_true]; done) | (subst_vars; first | with_reducible rfl | (simp only [traitF, if_neg c_1_1, if_neg c_1_2, if_pos c_1_3]; done) | (simp only [traitF, if_neg c_1_1, if_neg c_1_2, if_pos c_1_3, Bool.false_eq_true, Bool.true_eq_false, and_true, true_and, false_and, and_false, and_self, not_true_eq_false, not_false_eq_true, if_true, if_false, reduceIte, or_false, false_or, true_or, or_true]; done)) | contradiction | rfl) rfl
  by_cases c_1_4 : q = nI 4
  · skip
    refine lv_tableIn (tgt := 59) hx hb dX3_trait_1 (by rw [c_1_4]; decide) (by rw [c_1_4]; decide) (by rw [c_1_4]; rfl) (by decide) ?_
    refine lv_aload_n hx hb dX3_trait_59 rfl (lv_at hl 0 rfl) ?_
    refine r_getW hx hb hts hin3 hown hK hP hr3 (by omega) 4 (by decide) (Or.inl (hts (.fieldLink RX3 24 "PennyRoad$Walker" "tired" "I") (by decide +kernel))) rfl dX3_trait_60 ?_
    subst hQ
    exact wq_ri hx hb hr hlocks hP hS dX3_trait_63 (by first | with_reducible rfl | (simp only [traitF, if_neg c_1_1, if_neg c_1_2, if_neg c_1_3, if_pos c_1_4]; done) | (simp only [traitF, if_neg c_1_1, if_neg c_1_2, if_neg c_1_3, if_pos c_1_4, Bool.false_eq_true, Bool.true_eq_false, and_true, true_and, false_and, and_false, and_self, not_true_eq_false, not_false_eq_true, if_true, if_false, reduceIte, or_false, false_or, true_or, or_true]; done) | (subst_vars; first | with_reducible rfl | (simp only [traitF, if_neg c_1_1, if_neg c_1_2, if_neg c_1_3, if_pos c_1_4]; done) | (simp only [traitF, if_neg c_1_1, if_neg c_1_2, if_neg c_1_3, if_pos c_1_4, Bool.false_eq_true, Bool.true_eq_false, and_true, true_and, false_and, and_false, and_self, not_true_eq_false, not_false_eq_true, if_true, if_false, reduceIte, or_false, false_or, true_or, or_true]; done)) | contradiction | rfl) rfl
  by_cases c_1_5 : q = nI 5
  · skip
    refine lv_tableIn (tgt := 64) hx hb dX3_trait_1 (by rw [c_1_5]; decide) (by rw [c_1_5]; decide) (by rw [c_1_5]; rfl) (by decide) ?_
    refine lv_aload_n hx hb dX3_trait_64 rfl (lv_at hl 0 rfl) ?_
    refine r_getW hx hb hts hin3 hown hK hP hr3 (by omega) 5 (by decide) (Or.inl (hts (.fieldLink RX3 27 "PennyRoad$Walker" "walked" "I") (by decide +kernel))) rfl dX3_trait_65 ?_
    subst hQ
    exact wq_ri hx hb hr hlocks hP hS dX3_trait_68 (by first | with_reducible rfl | (simp only [traitF, if_neg c_1_1, if_neg c_1_2, if_neg c_1_3, if_neg c_1_4, if_pos c_1_5]; done) | (simp only [traitF, if_neg c_1_1, if_neg c_1_2, if_neg c_1_3, if_neg c_1_4, if_pos c_1_5, Bool.false_eq_true, Bool.true_eq_false, and_true, true_and, false_and, and_false, and_self, not_true_eq_false, not_false_eq_true, if_true, if_false, reduceIte, or_false, false_or, true_or, or_true]; done) | (subst_vars; first | with_reducible rfl | (simp only [traitF, if_neg c_1_1, if_neg c_1_2, if_neg c_1_3, if_neg c_1_4, if_pos c_1_5]; done) | (simp only [traitF, if_neg c_1_1, if_neg c_1_2, if_neg c_1_3, if_neg c_1_4, if_pos c_1_5, Bool.false_eq_true, Bool.true_eq_false, and_true, true_and, false_and, and_false, and_self, not_true_eq_false, not_false_eq_true, if_true, if_false, reduceIte, or_false, false_or, true_or, or_true]; done)) | contradiction | rfl) rfl
  by_cases c_1_6 : q = nI 6
  · skip
    refine lv_tableIn (tgt := 69) hx hb dX3_trait_1 (by rw [c_1_6]; decide) (by rw [c_1_6]; decide) (by rw [c_1_6]; rfl) (by decide) ?_
    refine lv_aload_n hx hb dX3_trait_69 rfl (lv_at hl 0 rfl) ?_
    refine r_getW hx hb hts hin3 hown hK hP hr3 (by omega) 6 (by decide) (Or.inl (hts (.fieldLink RX3 30 "PennyRoad$Walker" "purse" "I") (by decide +kernel))) rfl dX3_trait_70 ?_
    subst hQ
    exact wq_ri hx hb hr hlocks hP hS dX3_trait_73 (by first | with_reducible rfl | (simp only [traitF, if_neg c_1_1, if_neg c_1_2, if_neg c_1_3, if_neg c_1_4, if_neg c_1_5, if_pos c_1_6]; done) | (simp only [traitF, if_neg c_1_1, if_neg c_1_2, if_neg c_1_3, if_neg c_1_4, if_neg c_1_5, if_pos c_1_6, Bool.false_eq_true, Bool.true_eq_false, and_true, true_and, false_and, and_false, and_self, not_true_eq_false, not_false_eq_true, if_true, if_false, reduceIte, or_false, false_or, true_or, or_true]; done) | (subst_vars; first | with_reducible rfl | (simp only [traitF, if_neg c_1_1, if_neg c_1_2, if_neg c_1_3, if_neg c_1_4, if_neg c_1_5, if_pos c_1_6]; done) | (simp only [traitF, if_neg c_1_1, if_neg c_1_2, if_neg c_1_3, if_neg c_1_4, if_neg c_1_5, if_pos c_1_6, Bool.false_eq_true, Bool.true_eq_false, and_true, true_and, false_and, and_false, and_self, not_true_eq_false, not_false_eq_true, if_true, if_false, reduceIte, or_false, false_or, true_or, or_true]; done)) | contradiction | rfl) rfl
  by_cases c_1_7 : q = nI 7
  · skip
    refine lv_tableIn (tgt := 74) hx hb dX3_trait_1 (by rw [c_1_7]; decide) (by rw [c_1_7]; decide) (by rw [c_1_7]; rfl) (by decide) ?_
    refine lv_aload_n hx hb dX3_trait_74 rfl (lv_at hl 0 rfl) ?_
    refine r_getW hx hb hts hin3 hown hK hP hr3 (by omega) 7 (by decide) (Or.inl (hts (.fieldLink RX3 33 "PennyRoad$Walker" "stopped" "I") (by decide +kernel))) rfl dX3_trait_75 ?_
    subst hQ
    exact wq_ri hx hb hr hlocks hP hS dX3_trait_78 (by first | with_reducible rfl | (simp only [traitF, if_neg c_1_1, if_neg c_1_2, if_neg c_1_3, if_neg c_1_4, if_neg c_1_5, if_neg c_1_6, if_pos c_1_7]; done) | (simp only [traitF, if_neg c_1_1, if_neg c_1_2, if_neg c_1_3, if_neg c_1_4, if_neg c_1_5, if_neg c_1_6, if_pos c_1_7, Bool.false_eq_true, Bool.true_eq_false, and_true, true_and, false_and, and_false, and_self, not_true_eq_false, not_false_eq_true, if_true, if_false, reduceIte, or_false, false_or, true_or, or_true]; done) | (subst_vars; first | with_reducible rfl | (simp only [traitF, if_neg c_1_1, if_neg c_1_2, if_neg c_1_3, if_neg c_1_4, if_neg c_1_5, if_neg c_1_6, if_pos c_1_7]; done) | (simp only [traitF, if_neg c_1_1, if_neg c_1_2, if_neg c_1_3, if_neg c_1_4, if_neg c_1_5, if_neg c_1_6, if_pos c_1_7, Bool.false_eq_true, Bool.true_eq_false, and_true, true_and, false_and, and_false, and_self, not_true_eq_false, not_false_eq_true, if_true, if_false, reduceIte, or_false, false_or, true_or, or_true]; done)) | contradiction | rfl) rfl
  refine lv_tableOut (tgt := 79) hx hb dX3_trait_1 (by have h0 : (q).toInt ≠ 1 := ne_int c_1_1; have h1 : (q).toInt ≠ 2 := ne_int c_1_2; have h2 : (q).toInt ≠ 3 := ne_int c_1_3; have h3 : (q).toInt ≠ 4 := ne_int c_1_4; have h4 : (q).toInt ≠ 5 := ne_int c_1_5; have h5 : (q).toInt ≠ 6 := ne_int c_1_6; have h6 : (q).toInt ≠ 7 := ne_int c_1_7; omega) (by decide) ?_
  refine lv_aload_n hx hb dX3_trait_79 rfl (lv_at hl 0 rfl) ?_
  refine r_getW hx hb hts hin3 hown hK hP hr3 (by omega) 0 (by decide) (Or.inl (hts (.fieldLink RX3 9 "PennyRoad$Walker" "kind" "I") (by decide +kernel))) rfl dX3_trait_80 ?_
  subst hQ
  exact wq_ri hx hb hr hlocks hP hS dX3_trait_83 (by first | with_reducible rfl | (simp only [traitF, if_neg c_1_1, if_neg c_1_2, if_neg c_1_3, if_neg c_1_4, if_neg c_1_5, if_neg c_1_6, if_neg c_1_7]; done) | (simp only [traitF, if_neg c_1_1, if_neg c_1_2, if_neg c_1_3, if_neg c_1_4, if_neg c_1_5, if_neg c_1_6, if_neg c_1_7, Bool.false_eq_true, Bool.true_eq_false, and_true, true_and, false_and, and_false, and_self, not_true_eq_false, not_false_eq_true, if_true, if_false, reduceIte, or_false, false_or, true_or, or_true]; done) | (subst_vars; first | with_reducible rfl | (simp only [traitF, if_neg c_1_1, if_neg c_1_2, if_neg c_1_3, if_neg c_1_4, if_neg c_1_5, if_neg c_1_6, if_neg c_1_7]; done) | (simp only [traitF, if_neg c_1_1, if_neg c_1_2, if_neg c_1_3, if_neg c_1_4, if_neg c_1_5, if_neg c_1_6, if_neg c_1_7, Bool.false_eq_true, Bool.true_eq_false, and_true, true_and, false_and, and_false, and_self, not_true_eq_false, not_false_eq_true, if_true, if_false, reduceIte, or_false, false_or, true_or, or_true]; done)) | contradiction | rfl) rfl
theorem i_X3_trait : ciOk yX3_trait cX3_trait 2 (some .int) wsX3_trait 1 := ⟨⟨_, rfl⟩, by decide +kernel⟩
set_option maxHeartbeats 1000000 in
set_option maxRecDepth 100000 in
theorem c_X3_giveTrait {l : Launch} {D : va_G} {cy : Nat → ClassId} {ad : Nat → Nat} {rd : Nat → Nat → Int32} {ke : Int32} {tb : Nat → Int32} {t1 : Int32} {t2 : Int32} {t3 : Int32} {t4 : Int32} {t5 : Int32} {sb : Nat → Int32} {ss : Nat → Int32} {sw : Nat → Nat → Int64} {fd : Nat → Int32} {sg : Nat → Int32} {r : Nat} {i : Nat} {q : Int32} {v : Int32} (hr3 : r < 3) (hi : i < 8) : Met l yX3_giveTrait wsX3_giveTrait (rmz 0 0) (wPre D (cK D cy ad) (cw cy ad (va_up rd r sg) ke tb t1 t2 t3 t4 t5 sb ss sw fd) [.ref (ad (3 + 10 * r + i)), .int (q), .int (v)]) (wPost D (cw cy ad (va_up rd r (giveF sg i q v)) ke tb t1 t2 t3 t4 t5 sb ss sw fd) none (cA ad)) 0 0 (cA ad) := by
  refine wq_entry rfl rfl (Nat.le_of_ble_eq_true rfl) ?_
  intro p e s0 m args below meth c S hr hlocks hK hP ls hl
  have S : CallFix p m c cX3_giveTrait 3 s0 args wsX3_giveTrait RX3 := S
  obtain ⟨hx, hb, hml, hown, hts⟩ := id S
  have hin3 : ∀ w ∈ wsX30, w ∈ wsX3_giveTrait := fun w h => List.mem_cons_of_mem _ (List.mem_append_right _ h)
  have hS : va_S (cA ad) s0.heap s0.heap [] := va_S.rf
  have hl : lv_has ls 3 [(0, .ref (ad (3 + 10 * r + i))), (1, .int (q)), (2, .int (v))] := hl
  generalize hQ : MQ below (wPost D (cw cy ad (va_up rd r (giveF sg i q v)) ke tb t1 t2 t3 t4 t5 sb ss sw fd) none (cA ad)) args s0 0 0 (cA ad) = Q
  refine lv_iload_n hx hb dX3_giveTrait_0 rfl (lv_at hl 1 rfl) ?_
  by_cases c_1_1 : q = nI 1
  · skip
    refine lv_tableIn (tgt := 44) hx hb dX3_giveTrait_1 (by rw [c_1_1]; decide) (by rw [c_1_1]; decide) (by rw [c_1_1]; rfl) (by decide) ?_
    refine lv_aload_n hx hb dX3_giveTrait_44 rfl (lv_at hl 0 rfl) ?_
    refine lv_iload_n hx hb dX3_giveTrait_45 rfl (lv_at hl 2 rfl) ?_
    refine r_putW hx hb hts hin3 hown hK hP hS hr3 (by omega) 1 (by decide) (Or.inl (hts (.fieldLink RX3 15 "PennyRoad$Walker" "mile" "I") (by decide +kernel))) rfl (by decide +kernel) dX3_giveTrait_46 (fun H locs hP hS => ?_)
    refine lv_goto (tgt := 100) hx hb dX3_giveTrait_49 (by decide) ?_
    subst hQ
    exact wq_rv hx hb hr hlocks hP hS dX3_giveTrait_100 rfl (cwsg ((if_pos c_1_1).trans rfl))
  by_cases c_1_2 : q = nI 2
  · skip
    refine lv_tableIn (tgt := 52) hx hb dX3_giveTrait_1 (by rw [c_1_2]; decide) (by rw [c_1_2]; decide) (by rw [c_1_2]; rfl) (by decide) ?_
    refine lv_aload_n hx hb dX3_giveTrait_52 rfl (lv_at hl 0 rfl) ?_
    refine lv_iload_n hx hb dX3_giveTrait_53 rfl (lv_at hl 2 rfl) ?_
    refine r_putW hx hb hts hin3 hown hK hP hS hr3 (by omega) 2 (by decide) (Or.inl (hts (.fieldLink RX3 18 "PennyRoad$Walker" "up" "I") (by decide +kernel))) rfl (by decide +kernel) dX3_giveTrait_54 (fun H locs hP hS => ?_)
    refine lv_goto (tgt := 100) hx hb dX3_giveTrait_57 (by decide) ?_
    subst hQ
    exact wq_rv hx hb hr hlocks hP hS dX3_giveTrait_100 rfl (cwsg ((if_neg c_1_1).trans ((if_pos c_1_2).trans rfl)))
  by_cases c_1_3 : q = nI 3
  · skip
    refine lv_tableIn (tgt := 60) hx hb dX3_giveTrait_1 (by rw [c_1_3]; decide) (by rw [c_1_3]; decide) (by rw [c_1_3]; rfl) (by decide) ?_
    refine lv_aload_n hx hb dX3_giveTrait_60 rfl (lv_at hl 0 rfl) ?_
    refine lv_iload_n hx hb dX3_giveTrait_61 rfl (lv_at hl 2 rfl) ?_
    refine r_putW hx hb hts hin3 hown hK hP hS hr3 (by omega) 3 (by decide) (Or.inl (hts (.fieldLink RX3 21 "PennyRoad$Walker" "reason" "I") (by decide +kernel))) rfl (by decide +kernel) dX3_giveTrait_62 (fun H locs hP hS => ?_)
    refine lv_goto (tgt := 100) hx hb dX3_giveTrait_65 (by decide) ?_
    subst hQ
    exact wq_rv hx hb hr hlocks hP hS dX3_giveTrait_100 rfl (cwsg ((if_neg c_1_1).trans ((if_neg c_1_2).trans ((if_pos c_1_3).trans rfl))))
  by_cases c_1_4 : q = nI 4
  · skip
    refine lv_tableIn (tgt := 68) hx hb dX3_giveTrait_1 (by rw [c_1_4]; decide) (by rw [c_1_4]; decide) (by rw [c_1_4]; rfl) (by decide) ?_
    refine lv_aload_n hx hb dX3_giveTrait_68 rfl (lv_at hl 0 rfl) ?_
    refine lv_iload_n hx hb dX3_giveTrait_69 rfl (lv_at hl 2 rfl) ?_
    refine r_putW hx hb hts hin3 hown hK hP hS hr3 (by omega) 4 (by decide) (Or.inl (hts (.fieldLink RX3 24 "PennyRoad$Walker" "tired" "I") (by decide +kernel))) rfl (by decide +kernel) dX3_giveTrait_70 (fun H locs hP hS => ?_)
    refine lv_goto (tgt := 100) hx hb dX3_giveTrait_73 (by decide) ?_
    subst hQ
    exact wq_rv hx hb hr hlocks hP hS dX3_giveTrait_100 rfl (cwsg ((if_neg c_1_1).trans ((if_neg c_1_2).trans ((if_neg c_1_3).trans ((if_pos c_1_4).trans rfl)))))
  by_cases c_1_5 : q = nI 5
  · skip
    refine lv_tableIn (tgt := 76) hx hb dX3_giveTrait_1 (by rw [c_1_5]; decide) (by rw [c_1_5]; decide) (by rw [c_1_5]; rfl) (by decide) ?_
    refine lv_aload_n hx hb dX3_giveTrait_76 rfl (lv_at hl 0 rfl) ?_
    refine lv_iload_n hx hb dX3_giveTrait_77 rfl (lv_at hl 2 rfl) ?_
    refine r_putW hx hb hts hin3 hown hK hP hS hr3 (by omega) 5 (by decide) (Or.inl (hts (.fieldLink RX3 27 "PennyRoad$Walker" "walked" "I") (by decide +kernel))) rfl (by decide +kernel) dX3_giveTrait_78 (fun H locs hP hS => ?_)
    refine lv_goto (tgt := 100) hx hb dX3_giveTrait_81 (by decide) ?_
    subst hQ
    exact wq_rv hx hb hr hlocks hP hS dX3_giveTrait_100 rfl (cwsg ((if_neg c_1_1).trans ((if_neg c_1_2).trans ((if_neg c_1_3).trans ((if_neg c_1_4).trans ((if_pos c_1_5).trans rfl))))))
  by_cases c_1_6 : q = nI 6
  · skip
    refine lv_tableIn (tgt := 84) hx hb dX3_giveTrait_1 (by rw [c_1_6]; decide) (by rw [c_1_6]; decide) (by rw [c_1_6]; rfl) (by decide) ?_
    refine lv_aload_n hx hb dX3_giveTrait_84 rfl (lv_at hl 0 rfl) ?_
    refine lv_iload_n hx hb dX3_giveTrait_85 rfl (lv_at hl 2 rfl) ?_
    refine r_putW hx hb hts hin3 hown hK hP hS hr3 (by omega) 6 (by decide) (Or.inl (hts (.fieldLink RX3 30 "PennyRoad$Walker" "purse" "I") (by decide +kernel))) rfl (by decide +kernel) dX3_giveTrait_86 (fun H locs hP hS => ?_)
    refine lv_goto (tgt := 100) hx hb dX3_giveTrait_89 (by decide) ?_
    subst hQ
    exact wq_rv hx hb hr hlocks hP hS dX3_giveTrait_100 rfl (cwsg ((if_neg c_1_1).trans ((if_neg c_1_2).trans ((if_neg c_1_3).trans ((if_neg c_1_4).trans ((if_neg c_1_5).trans ((if_pos c_1_6).trans rfl)))))))
  by_cases c_1_7 : q = nI 7
  · skip
    refine lv_tableIn (tgt := 92) hx hb dX3_giveTrait_1 (by rw [c_1_7]; decide) (by rw [c_1_7]; decide) (by rw [c_1_7]; rfl) (by decide) ?_
    refine lv_aload_n hx hb dX3_giveTrait_92 rfl (lv_at hl 0 rfl) ?_
    refine lv_iload_n hx hb dX3_giveTrait_93 rfl (lv_at hl 2 rfl) ?_
    refine r_putW hx hb hts hin3 hown hK hP hS hr3 (by omega) 7 (by decide) (Or.inl (hts (.fieldLink RX3 33 "PennyRoad$Walker" "stopped" "I") (by decide +kernel))) rfl (by decide +kernel) dX3_giveTrait_94 (fun H locs hP hS => ?_)
    refine lv_goto (tgt := 100) hx hb dX3_giveTrait_97 (by decide) ?_
    subst hQ
    exact wq_rv hx hb hr hlocks hP hS dX3_giveTrait_100 rfl (cwsg ((if_neg c_1_1).trans ((if_neg c_1_2).trans ((if_neg c_1_3).trans ((if_neg c_1_4).trans ((if_neg c_1_5).trans ((if_neg c_1_6).trans ((if_pos c_1_7).trans rfl))))))))
  refine lv_tableOut (tgt := 100) hx hb dX3_giveTrait_1 (by have h0 : (q).toInt ≠ 1 := ne_int c_1_1; have h1 : (q).toInt ≠ 2 := ne_int c_1_2; have h2 : (q).toInt ≠ 3 := ne_int c_1_3; have h3 : (q).toInt ≠ 4 := ne_int c_1_4; have h4 : (q).toInt ≠ 5 := ne_int c_1_5; have h5 : (q).toInt ≠ 6 := ne_int c_1_6; have h6 : (q).toInt ≠ 7 := ne_int c_1_7; omega) (by decide) ?_
  subst hQ
  exact wq_rv hx hb hr hlocks hP hS dX3_giveTrait_100 rfl (cwsg ((if_neg c_1_1).trans ((if_neg c_1_2).trans ((if_neg c_1_3).trans ((if_neg c_1_4).trans ((if_neg c_1_5).trans ((if_neg c_1_6).trans ((if_neg c_1_7).trans rfl))))))))
theorem i_X3_giveTrait : ciOk yX3_giveTrait cX3_giveTrait 3 none wsX3_giveTrait 2 := ⟨⟨_, rfl⟩, by decide +kernel⟩
set_option maxHeartbeats 1000000 in
set_option maxRecDepth 100000 in
theorem c_X3_startAs {l : Launch} {D : va_G} {cy : Nat → ClassId} {ad : Nat → Nat} {rd : Nat → Nat → Int32} {ke : Int32} {tb : Nat → Int32} {t1 : Int32} {t2 : Int32} {t3 : Int32} {t4 : Int32} {t5 : Int32} {sb : Nat → Int32} {ss : Nat → Int32} {sw : Nat → Nat → Int64} {fd : Nat → Int32} {sg : Nat → Int32} {r : Nat} {i : Nat} {kd : Int32} {ml : Int32} (hr3 : r < 3) (hi : i < 8) : Met l yX3_startAs wsX3_startAs (rmz 0 0) (wPre D (cK D cy ad) (cw cy ad (va_up rd r sg) ke tb t1 t2 t3 t4 t5 sb ss sw fd) [.ref (ad (3 + 10 * r + i)), .int (kd), .int (ml)]) (wPost D (cw cy ad (va_up rd r (startF sg i kd ml)) ke tb t1 t2 t3 t4 t5 sb ss sw fd) none (cA ad)) 0 0 (cA ad) := by
  refine wq_entry rfl rfl (Nat.le_of_ble_eq_true rfl) ?_
  intro p e s0 m args below meth c S hr hlocks hK hP ls hl
  have S : CallFix p m c cX3_startAs 3 s0 args wsX3_startAs RX3 := S
  obtain ⟨hx, hb, hml, hown, hts⟩ := id S
  have hin3 : ∀ w ∈ wsX30, w ∈ wsX3_startAs := fun w h => List.mem_cons_of_mem _ (List.mem_append_right _ h)
  have hS : va_S (cA ad) s0.heap s0.heap [] := va_S.rf
  have hl : lv_has ls 3 [(0, .ref (ad (3 + 10 * r + i))), (1, .int (kd)), (2, .int (ml))] := hl
  generalize hQ : MQ below (wPost D (cw cy ad (va_up rd r (startF sg i kd ml)) ke tb t1 t2 t3 t4 t5 sb ss sw fd) none (cA ad)) args s0 0 0 (cA ad) = Q
  refine lv_aload_n hx hb dX3_startAs_0 rfl (lv_at hl 0 rfl) ?_
  refine lv_iload_n hx hb dX3_startAs_1 rfl (lv_at hl 1 rfl) ?_
  refine r_putW hx hb hts hin3 hown hK hP hS hr3 (by omega) 0 (by decide) (Or.inl (hts (.fieldLink RX3 9 "PennyRoad$Walker" "kind" "I") (by decide +kernel))) rfl (by decide +kernel) dX3_startAs_2 (fun H locs hP hS => ?_)
  refine lv_aload_n hx hb dX3_startAs_5 rfl (lv_at hl 0 rfl) ?_
  refine lv_iload_n hx hb dX3_startAs_6 rfl (lv_at hl 2 rfl) ?_
  refine r_putW hx hb hts hin3 hown hK hP hS hr3 (by omega) 1 (by decide) (Or.inl (hts (.fieldLink RX3 15 "PennyRoad$Walker" "mile" "I") (by decide +kernel))) rfl (by decide +kernel) dX3_startAs_7 (fun H locs hP hS => ?_)
  refine lv_aload_n hx hb dX3_startAs_10 rfl (lv_at hl 0 rfl) ?_
  refine lv_iconst (v := nI 1) hx hb dX3_startAs_11 (by decide) ?_
  refine r_putW hx hb hts hin3 hown hK hP hS hr3 (by omega) 2 (by decide) (Or.inl (hts (.fieldLink RX3 18 "PennyRoad$Walker" "up" "I") (by decide +kernel))) rfl (by decide +kernel) dX3_startAs_12 (fun H locs hP hS => ?_)
  refine lv_aload_n hx hb dX3_startAs_15 rfl (lv_at hl 0 rfl) ?_
  refine lv_iconst (v := nI 5) hx hb dX3_startAs_16 (by decide) ?_
  refine r_putW hx hb hts hin3 hown hK hP hS hr3 (by omega) 3 (by decide) (Or.inl (hts (.fieldLink RX3 21 "PennyRoad$Walker" "reason" "I") (by decide +kernel))) rfl (by decide +kernel) dX3_startAs_17 (fun H locs hP hS => ?_)
  refine lv_aload_n hx hb dX3_startAs_20 rfl (lv_at hl 0 rfl) ?_
  refine lv_iconst (v := nI 0) hx hb dX3_startAs_21 (by decide) ?_
  refine r_putW hx hb hts hin3 hown hK hP hS hr3 (by omega) 4 (by decide) (Or.inl (hts (.fieldLink RX3 24 "PennyRoad$Walker" "tired" "I") (by decide +kernel))) rfl (by decide +kernel) dX3_startAs_22 (fun H locs hP hS => ?_)
  refine lv_aload_n hx hb dX3_startAs_25 rfl (lv_at hl 0 rfl) ?_
  refine lv_iconst (v := nI 0) hx hb dX3_startAs_26 (by decide) ?_
  refine r_putW hx hb hts hin3 hown hK hP hS hr3 (by omega) 5 (by decide) (Or.inl (hts (.fieldLink RX3 27 "PennyRoad$Walker" "walked" "I") (by decide +kernel))) rfl (by decide +kernel) dX3_startAs_27 (fun H locs hP hS => ?_)
  refine lv_aload_n hx hb dX3_startAs_30 rfl (lv_at hl 0 rfl) ?_
  refine lv_iconst (v := nI 0) hx hb dX3_startAs_31 (by decide) ?_
  refine r_putW hx hb hts hin3 hown hK hP hS hr3 (by omega) 6 (by decide) (Or.inl (hts (.fieldLink RX3 30 "PennyRoad$Walker" "purse" "I") (by decide +kernel))) rfl (by decide +kernel) dX3_startAs_32 (fun H locs hP hS => ?_)
  refine lv_aload_n hx hb dX3_startAs_35 rfl (lv_at hl 0 rfl) ?_
  refine lv_iconst (v := nI 0) hx hb dX3_startAs_36 (by decide) ?_
  refine r_putW hx hb hts hin3 hown hK hP hS hr3 (by omega) 7 (by decide) (Or.inl (hts (.fieldLink RX3 33 "PennyRoad$Walker" "stopped" "I") (by decide +kernel))) rfl (by decide +kernel) dX3_startAs_37 (fun H locs hP hS => ?_)
  subst hQ
  exact wq_rv hx hb hr hlocks hP hS dX3_startAs_40 rfl rfl
theorem i_X3_startAs : ciOk yX3_startAs cX3_startAs 3 none wsX3_startAs 2 := ⟨⟨_, rfl⟩, by decide +kernel⟩
set_option maxHeartbeats 1000000 in
set_option maxRecDepth 100000 in
theorem c_X3_becomeLike {l : Launch} {D : va_G} {cy : Nat → ClassId} {ad : Nat → Nat} {rd : Nat → Nat → Int32} {ke : Int32} {tb : Nat → Int32} {t1 : Int32} {t2 : Int32} {t3 : Int32} {t4 : Int32} {t5 : Int32} {sb : Nat → Int32} {ss : Nat → Int32} {sw : Nat → Nat → Int64} {fd : Nat → Int32} {sg : Nat → Int32} {r : Nat} {i : Nat} {q : Nat} (hr3 : r < 3) (hq3 : q < 3) (hqr : q ≠ r) (hi : i < 8) : Met l yX3_becomeLike wsX3_becomeLike (rmz 0 0) (wPre D (cK D cy ad) (cw cy ad (va_up rd r sg) ke tb t1 t2 t3 t4 t5 sb ss sw fd) [.ref (ad (3 + 10 * r + i)), .ref (ad (3 + 10 * q + i))]) (wPost D (cw cy ad (va_up rd r (likeF sg (rd q) i)) ke tb t1 t2 t3 t4 t5 sb ss sw fd) none (cA ad)) 0 0 (cA ad) := by
  refine wq_entry rfl rfl (Nat.le_of_ble_eq_true rfl) ?_
  intro p e s0 m args below meth c S hr hlocks hK hP ls hl
  have S : CallFix p m c cX3_becomeLike 2 s0 args wsX3_becomeLike RX3 := S
  obtain ⟨hx, hb, hml, hown, hts⟩ := id S
  have hin3 : ∀ w ∈ wsX30, w ∈ wsX3_becomeLike := fun w h => List.mem_cons_of_mem _ (List.mem_append_right _ h)
  have hS : va_S (cA ad) s0.heap s0.heap [] := va_S.rf
  have hl : lv_has ls 2 [(0, .ref (ad (3 + 10 * r + i))), (1, .ref (ad (3 + 10 * q + i)))] := hl
  generalize hQ : MQ below (wPost D (cw cy ad (va_up rd r (likeF sg (rd q) i)) ke tb t1 t2 t3 t4 t5 sb ss sw fd) none (cA ad)) args s0 0 0 (cA ad) = Q
  refine lv_aload_n hx hb dX3_becomeLike_0 rfl (lv_at hl 0 rfl) ?_
  refine lv_aload_n hx hb dX3_becomeLike_1 rfl (lv_at hl 1 rfl) ?_
  refine c_get (v := .int (rd q (5 + 8 * i + 0))) (C := RX3) (T := TX3) (N := 8) hx hb hts hin3 hown hK hP (3 + 10 * q + i) (by omega) (cE_wk hq3 (by omega)) rfl 0 (by decide) (Or.inl (hts (.fieldLink RX3 9 "PennyRoad$Walker" "kind" "I") (by decide +kernel))) (by rw [va_up_ne _ _ hqr]; rfl) dX3_becomeLike_2 ?_
  refine r_putW hx hb hts hin3 hown hK hP hS hr3 (by omega) 0 (by decide) (Or.inl (hts (.fieldLink RX3 9 "PennyRoad$Walker" "kind" "I") (by decide +kernel))) rfl (by decide +kernel) dX3_becomeLike_5 (fun H locs hP hS => ?_)
  refine lv_aload_n hx hb dX3_becomeLike_8 rfl (lv_at hl 0 rfl) ?_
  refine lv_aload_n hx hb dX3_becomeLike_9 rfl (lv_at hl 1 rfl) ?_
  refine c_get (v := .int (rd q (5 + 8 * i + 1))) (C := RX3) (T := TX3) (N := 8) hx hb hts hin3 hown hK hP (3 + 10 * q + i) (by omega) (cE_wk hq3 (by omega)) rfl 1 (by decide) (Or.inl (hts (.fieldLink RX3 15 "PennyRoad$Walker" "mile" "I") (by decide +kernel))) (by rw [va_up_ne _ _ hqr]; rfl) dX3_becomeLike_10 ?_
  refine r_putW hx hb hts hin3 hown hK hP hS hr3 (by omega) 1 (by decide) (Or.inl (hts (.fieldLink RX3 15 "PennyRoad$Walker" "mile" "I") (by decide +kernel))) rfl (by decide +kernel) dX3_becomeLike_13 (fun H locs hP hS => ?_)
  refine lv_aload_n hx hb dX3_becomeLike_16 rfl (lv_at hl 0 rfl) ?_
  refine lv_aload_n hx hb dX3_becomeLike_17 rfl (lv_at hl 1 rfl) ?_
  refine c_get (v := .int (rd q (5 + 8 * i + 2))) (C := RX3) (T := TX3) (N := 8) hx hb hts hin3 hown hK hP (3 + 10 * q + i) (by omega) (cE_wk hq3 (by omega)) rfl 2 (by decide) (Or.inl (hts (.fieldLink RX3 18 "PennyRoad$Walker" "up" "I") (by decide +kernel))) (by rw [va_up_ne _ _ hqr]; rfl) dX3_becomeLike_18 ?_
  refine r_putW hx hb hts hin3 hown hK hP hS hr3 (by omega) 2 (by decide) (Or.inl (hts (.fieldLink RX3 18 "PennyRoad$Walker" "up" "I") (by decide +kernel))) rfl (by decide +kernel) dX3_becomeLike_21 (fun H locs hP hS => ?_)
  refine lv_aload_n hx hb dX3_becomeLike_24 rfl (lv_at hl 0 rfl) ?_
  refine lv_aload_n hx hb dX3_becomeLike_25 rfl (lv_at hl 1 rfl) ?_
  refine c_get (v := .int (rd q (5 + 8 * i + 3))) (C := RX3) (T := TX3) (N := 8) hx hb hts hin3 hown hK hP (3 + 10 * q + i) (by omega) (cE_wk hq3 (by omega)) rfl 3 (by decide) (Or.inl (hts (.fieldLink RX3 21 "PennyRoad$Walker" "reason" "I") (by decide +kernel))) (by rw [va_up_ne _ _ hqr]; rfl) dX3_becomeLike_26 ?_
  refine r_putW hx hb hts hin3 hown hK hP hS hr3 (by omega) 3 (by decide) (Or.inl (hts (.fieldLink RX3 21 "PennyRoad$Walker" "reason" "I") (by decide +kernel))) rfl (by decide +kernel) dX3_becomeLike_29 (fun H locs hP hS => ?_)
  refine lv_aload_n hx hb dX3_becomeLike_32 rfl (lv_at hl 0 rfl) ?_
  refine lv_aload_n hx hb dX3_becomeLike_33 rfl (lv_at hl 1 rfl) ?_
  refine c_get (v := .int (rd q (5 + 8 * i + 4))) (C := RX3) (T := TX3) (N := 8) hx hb hts hin3 hown hK hP (3 + 10 * q + i) (by omega) (cE_wk hq3 (by omega)) rfl 4 (by decide) (Or.inl (hts (.fieldLink RX3 24 "PennyRoad$Walker" "tired" "I") (by decide +kernel))) (by rw [va_up_ne _ _ hqr]; rfl) dX3_becomeLike_34 ?_
  refine r_putW hx hb hts hin3 hown hK hP hS hr3 (by omega) 4 (by decide) (Or.inl (hts (.fieldLink RX3 24 "PennyRoad$Walker" "tired" "I") (by decide +kernel))) rfl (by decide +kernel) dX3_becomeLike_37 (fun H locs hP hS => ?_)
  refine lv_aload_n hx hb dX3_becomeLike_40 rfl (lv_at hl 0 rfl) ?_
  refine lv_aload_n hx hb dX3_becomeLike_41 rfl (lv_at hl 1 rfl) ?_
  refine c_get (v := .int (rd q (5 + 8 * i + 5))) (C := RX3) (T := TX3) (N := 8) hx hb hts hin3 hown hK hP (3 + 10 * q + i) (by omega) (cE_wk hq3 (by omega)) rfl 5 (by decide) (Or.inl (hts (.fieldLink RX3 27 "PennyRoad$Walker" "walked" "I") (by decide +kernel))) (by rw [va_up_ne _ _ hqr]; rfl) dX3_becomeLike_42 ?_
  refine r_putW hx hb hts hin3 hown hK hP hS hr3 (by omega) 5 (by decide) (Or.inl (hts (.fieldLink RX3 27 "PennyRoad$Walker" "walked" "I") (by decide +kernel))) rfl (by decide +kernel) dX3_becomeLike_45 (fun H locs hP hS => ?_)
  refine lv_aload_n hx hb dX3_becomeLike_48 rfl (lv_at hl 0 rfl) ?_
  refine lv_aload_n hx hb dX3_becomeLike_49 rfl (lv_at hl 1 rfl) ?_
  refine c_get (v := .int (rd q (5 + 8 * i + 6))) (C := RX3) (T := TX3) (N := 8) hx hb hts hin3 hown hK hP (3 + 10 * q + i) (by omega) (cE_wk hq3 (by omega)) rfl 6 (by decide) (Or.inl (hts (.fieldLink RX3 30 "PennyRoad$Walker" "purse" "I") (by decide +kernel))) (by rw [va_up_ne _ _ hqr]; rfl) dX3_becomeLike_50 ?_
  refine r_putW hx hb hts hin3 hown hK hP hS hr3 (by omega) 6 (by decide) (Or.inl (hts (.fieldLink RX3 30 "PennyRoad$Walker" "purse" "I") (by decide +kernel))) rfl (by decide +kernel) dX3_becomeLike_53 (fun H locs hP hS => ?_)
  refine lv_aload_n hx hb dX3_becomeLike_56 rfl (lv_at hl 0 rfl) ?_
  refine lv_aload_n hx hb dX3_becomeLike_57 rfl (lv_at hl 1 rfl) ?_
  refine c_get (v := .int (rd q (5 + 8 * i + 7))) (C := RX3) (T := TX3) (N := 8) hx hb hts hin3 hown hK hP (3 + 10 * q + i) (by omega) (cE_wk hq3 (by omega)) rfl 7 (by decide) (Or.inl (hts (.fieldLink RX3 33 "PennyRoad$Walker" "stopped" "I") (by decide +kernel))) (by rw [va_up_ne _ _ hqr]; rfl) dX3_becomeLike_58 ?_
  refine r_putW hx hb hts hin3 hown hK hP hS hr3 (by omega) 7 (by decide) (Or.inl (hts (.fieldLink RX3 33 "PennyRoad$Walker" "stopped" "I") (by decide +kernel))) rfl (by decide +kernel) dX3_becomeLike_61 (fun H locs hP hS => ?_)
  subst hQ
  exact wq_rv hx hb hr hlocks hP hS dX3_becomeLike_64 rfl rfl
theorem i_X3_becomeLike : ciOk yX3_becomeLike cX3_becomeLike 2 none wsX3_becomeLike 1 := ⟨⟨_, rfl⟩, by decide +kernel⟩
