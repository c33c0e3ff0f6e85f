set_option maxHeartbeats 1000000 in
set_option maxRecDepth 100000 in
theorem c_X4_text {l : Launch} {D : va_G} {cy : Nat → ClassId} {ad : Nat → Nat} {kS vS : Nat → Nat} {p0 : Nat → Int32} {p1 : Nat → Int32} {p2 : Nat → Int32} {ke : Int32} {tb : Nat → Int32} {t2 : Int32} {t3 : Int32} {t4 : Int32} {t5 : Int32} {sb : Nat → Int32} {ss : Nat → Int32} {sw : Nat → Nat → Int64} {fd : Nat → Int32} {T : Nat} {N : Nat} (hT2 : T ≤ 120) (hN : p0 0 = nI N) (h8 : N ≤ 8) : Met l yX4_text wsX4_text (rmz 9 195) (tPre D cy ad kS vS (cw cy ad (rr p0 p1 p2) ke tb (nI T) t2 t3 t4 t5 sb ss sw fd) [.ref (ad 0)]) (cPub D cy ad (some (.int ((tellS (bu tb) T 120 (cpn (5 + 8 * N) p0 p1, advT (bu tb) T (0, 0, t5)) 0).2))) (if (tellS (bu tb) T 120 (cpn (5 + 8 * N) p0 p1, advT (bu tb) T (0, 0, t5)) 0).2 < 0 then p0 else cpn (5 + 8 * nW (tellS (bu tb) T 120 (cpn (5 + 8 * N) p0 p1, advT (bu tb) T (0, 0, t5)) 0).1.1) (tellS (bu tb) T 120 (cpn (5 + 8 * N) p0 p1, advT (bu tb) T (0, 0, t5)) 0).1.1 p0) p2 ke tb (nI 0) sb ss sw fd) 0 0 (cA ad) := by
  refine tq_entry rfl rfl (Nat.le_of_ble_eq_true rfl) ?_
  intro p e s0 m args below meth c S hr hlocks hK hT hP ls hl
  have S : CallFix p m c cX4_text 2 s0 args wsX4_text RX4 := S
  obtain ⟨hx, hb, hml, hown, hts⟩ := id S
  have hin4 : ∀ w ∈ wsX40, w ∈ wsX4_text := fun w h => List.mem_cons_of_mem _ (List.mem_append_left _ (List.mem_append_left _ (List.mem_append_left _ (List.mem_append_right _ h))))
  have hin2 : ∀ w ∈ wsX20, w ∈ wsX4_text := fun w h => List.mem_cons_of_mem _ (List.mem_append_left _ (List.mem_append_left _ (List.mem_append_right _ h)))
  have hin0 : ∀ w ∈ wsX00, w ∈ wsX4_text := fun w h => List.mem_cons_of_mem _ (List.mem_append_left _ (List.mem_append_right _ h))
  have hin3 : ∀ w ∈ wsX30, w ∈ wsX4_text := fun w h => List.mem_cons_of_mem _ (List.mem_append_right _ h)
  have hS : va_S (cA ad) s0.heap s0.heap [] := va_S.rf
  have hl : lv_has ls 2 [(0, .ref (ad 0))] := hl
  generalize hQ : MQ below (cPub D cy ad (some (.int ((tellS (bu tb) T 120 (cpn (5 + 8 * N) p0 p1, advT (bu tb) T (0, 0, t5)) 0).2))) (if (tellS (bu tb) T 120 (cpn (5 + 8 * N) p0 p1, advT (bu tb) T (0, 0, t5)) 0).2 < 0 then p0 else cpn (5 + 8 * nW (tellS (bu tb) T 120 (cpn (5 + 8 * N) p0 p1, advT (bu tb) T (0, 0, t5)) 0).1.1) (tellS (bu tb) T 120 (cpn (5 + 8 * N) p0 p1, advT (bu tb) T (0, 0, t5)) 0).1.1 p0) p2 ke tb (nI 0) sb ss sw fd) args s0 0 0 (cA ad) = Q
  have hk : okC T (tellS (bu tb) T 120 (cpn (5 + 8 * N) p0 p1, advT (bu tb) T (0, 0, t5)) 0).1 := tellS_ok 120 _ 0 ⟨advT_ok ⟨Nat.le_refl 0, Nat.zero_le T⟩, N, h8, cpn_0'.trans hN⟩
  refine lv_aload_n hx hb dX4_text_0 rfl (lv_at hl 0 rfl) ?_
  refine wq_V S cK_ok hK hP hS (c_X4_lookAhead hN h8) gX4_text_X4_lookAhead i_X4_lookAhead rfl (c_rec hK hP 0 (by decide) cE_0 rfl) ⟨Nat.le_of_ble_eq_true rfl, Nat.le_of_ble_eq_true rfl⟩ rfl hl.1 (As := []) (rest := []) (st1 := []) rfl rfl (Nat.le_of_ble_eq_true rfl) ⟨Nat.le_of_ble_eq_true rfl, Nat.le_of_ble_eq_true rfl⟩ dX4_text_1 (fun H locs hP hS => ?_)
  refine lv_aload_n hx hb dX4_text_4 rfl (lv_at hl 0 rfl) ?_
  refine c_get (v := .ref (ad 31)) (C := RX4) (T := TX4) (N := 7) hx hb hts hin4 hown hK hP (0) (by decide) cE_0 rfl 4 (by decide) (Or.inl (hts (.fieldLink RX4 29 "PennyRoad" "tape" "LPennyRoad$Tape;") (by decide +kernel))) rfl dX4_text_5 ?_
  refine lv_aload_n hx hb dX4_text_8 rfl (lv_at hl 0 rfl) ?_
  refine c_get (v := .ref (ad (1 + 10 * 1))) (C := RX4) (T := TX4) (N := 7) hx hb hts hin4 hown hK hP (0) (by decide) cE_0 rfl 1 (by decide) (Or.inl (hts (.fieldLink RX4 16 "PennyRoad" "ahead" "LPennyRoad$Road;") (by decide +kernel))) rfl dX4_text_9 ?_
  refine tq_VN (host := "PennyRoad") S hK hT hP hS (c_X2_tellOnto hT2 ((cpn_0' (j := N)).trans hN) h8) gX4_text_X2_tellOnto_n168 i_X2_tellOnto (c_nest hK 51 rfl) (hts (.initialized RX2) (by decide +kernel)) (hts (.instanceMethod yX2_tellOnto) (by decide +kernel)) (hts (.selects RX2 yX2_tellOnto yX2_tellOnto) (by decide +kernel)) (c_rec hK hP 31 (by decide) cE_tp rfl) ⟨Nat.le_of_ble_eq_true rfl, Nat.le_of_ble_eq_true rfl⟩ rfl hl.1 (As := [.ref (ad (1 + 10 * 1))]) (rest := []) (st1 := [.int ((tellS (bu tb) T 120 (cpn (5 + 8 * N) p0 p1, advT (bu tb) T (0, 0, t5)) 0).2)]) rfl rfl (Nat.le_of_ble_eq_true rfl) ⟨Nat.le_of_ble_eq_true rfl, Nat.le_of_ble_eq_true rfl⟩ dX4_text_12 (fun H locs hP hS => ?_)
  refine lv_istore_n (lv' := [(1, .int ((tellS (bu tb) T 120 (cpn (5 + 8 * N) p0 p1, advT (bu tb) T (0, 0, t5)) 0).2)), (0, .ref (ad 0))]) hx hb dX4_text_15 rfl hl (by decide) rfl (fun ls hl => ?_)
  refine lv_iload_n hx hb dX4_text_16 rfl (lv_at hl 0 rfl) ?_
  refine lv_if_lt (tgt := 31) hx hb dX4_text_17 (by decide) (fun c_17 => ?_) (fun c_17 => ?_)
  · skip
    refine lv_aload_n hx hb dX4_text_31 rfl (lv_at hl 1 rfl) ?_
    refine c_get (v := .ref (ad 31)) (C := RX4) (T := TX4) (N := 7) hx hb hts hin4 hown hK hP (0) (by decide) cE_0 rfl 4 (by decide) (Or.inl (hts (.fieldLink RX4 29 "PennyRoad" "tape" "LPennyRoad$Tape;") (by decide +kernel))) rfl dX4_text_32 ?_
    refine lv_iconst (v := nI 0) hx hb dX4_text_35 (by decide) ?_
    refine c_put (w' := (cw cy ad (rr p0 ((tellS (bu tb) T 120 (cpn (5 + 8 * N) p0 p1, advT (bu tb) T (0, 0, t5)) 0).1.1) p2) ke tb (nI 0) (sortF (bu tb) T ((tellS (bu tb) T 120 (cpn (5 + 8 * N) p0 p1, advT (bu tb) T (0, 0, t5)) 0).1.2).1) (nI (((tellS (bu tb) T 120 (cpn (5 + 8 * N) p0 p1, advT (bu tb) T (0, 0, t5)) 0).1.2).1)) (nI (((tellS (bu tb) T 120 (cpn (5 + 8 * N) p0 p1, advT (bu tb) T (0, 0, t5)) 0).1.2).2.1)) (((tellS (bu tb) T 120 (cpn (5 + 8 * N) p0 p1, advT (bu tb) T (0, 0, t5)) 0).1.2).2.2) sb ss sw fd)) (ty := .int) (C := RX2) (T := TX2) (N := 6) hx hb hts hin2 tyX2 tyX2_ok nmX2 hown hK hP hS (31) (by decide) cE_tp rfl 1 (by decide) (Or.inr (c_nest hK 27 rfl)) rfl (by decide +kernel) rfl rfl (by show _ < 6; decide) cs_tp dX4_text_36 (fun H locs hP hS => ?_)
    refine lv_iload_n hx hb dX4_text_39 rfl (lv_at hl 0 rfl) ?_
    subst hQ
    exact cp_ri hx hb hr hlocks hP hS dX4_text_40 rfl (by first | rw [if_pos c_17] | rw [if_neg c_17])
  · skip
    refine lv_aload_n hx hb dX4_text_20 rfl (lv_at hl 1 rfl) ?_
    refine c_get (v := .ref (ad (1 + 10 * 0))) (C := RX4) (T := TX4) (N := 7) hx hb hts hin4 hown hK hP (0) (by decide) cE_0 rfl 0 (by decide) (Or.inl (hts (.fieldLink RX4 10 "PennyRoad" "present" "LPennyRoad$Road;") (by decide +kernel))) rfl dX4_text_21 ?_
    refine lv_aload_n hx hb dX4_text_24 rfl (lv_at hl 1 rfl) ?_
    refine c_get (v := .ref (ad (1 + 10 * 1))) (C := RX4) (T := TX4) (N := 7) hx hb hts hin4 hown hK hP (0) (by decide) cE_0 rfl 1 (by decide) (Or.inl (hts (.fieldLink RX4 16 "PennyRoad" "ahead" "LPennyRoad$Road;") (by decide +kernel))) rfl dX4_text_25 ?_
    refine wq_VN (host := "PennyRoad") S cK_ok hK hP hS (c_X0_takeFrom_r01 (okC_n hk).1 (okC_n hk).2) gX4_text_X0_takeFrom_n172 i_X0_takeFrom (c_nest hK 47 rfl) (hts (.initialized RX0) (by decide +kernel)) (hts (.instanceMethod yX0_takeFrom) (by decide +kernel)) (hts (.selects RX0 yX0_takeFrom yX0_takeFrom) (by decide +kernel)) (c_rec hK hP (1 + 10 * 0) (by decide) (cE_rd (by decide)) rfl) ⟨Nat.le_of_ble_eq_true rfl, Nat.le_of_ble_eq_true rfl⟩ rfl hl.1 (As := [.ref (ad (1 + 10 * 1))]) (rest := []) (st1 := []) rfl rfl (Nat.le_of_ble_eq_true rfl) ⟨Nat.le_of_ble_eq_true rfl, Nat.le_of_ble_eq_true rfl⟩ dX4_text_28 (fun H locs hP hS => ?_)
    refine lv_aload_n hx hb dX4_text_31 rfl (lv_at hl 1 rfl) ?_
    refine c_get (v := .ref (ad 31)) (C := RX4) (T := TX4) (N := 7) hx hb hts hin4 hown hK hP (0) (by decide) cE_0 rfl 4 (by decide) (Or.inl (hts (.fieldLink RX4 29 "PennyRoad" "tape" "LPennyRoad$Tape;") (by decide +kernel))) rfl dX4_text_32 ?_
    refine lv_iconst (v := nI 0) hx hb dX4_text_35 (by decide) ?_
    refine c_put (w' := (cw cy ad (rr (cpn (5 + 8 * nW (tellS (bu tb) T 120 (cpn (5 + 8 * N) p0 p1, advT (bu tb) T (0, 0, t5)) 0).1.1) (tellS (bu tb) T 120 (cpn (5 + 8 * N) p0 p1, advT (bu tb) T (0, 0, t5)) 0).1.1 p0) ((tellS (bu tb) T 120 (cpn (5 + 8 * N) p0 p1, advT (bu tb) T (0, 0, t5)) 0).1.1) p2) ke tb (nI 0) (sortF (bu tb) T ((tellS (bu tb) T 120 (cpn (5 + 8 * N) p0 p1, advT (bu tb) T (0, 0, t5)) 0).1.2).1) (nI (((tellS (bu tb) T 120 (cpn (5 + 8 * N) p0 p1, advT (bu tb) T (0, 0, t5)) 0).1.2).1)) (nI (((tellS (bu tb) T 120 (cpn (5 + 8 * N) p0 p1, advT (bu tb) T (0, 0, t5)) 0).1.2).2.1)) (((tellS (bu tb) T 120 (cpn (5 + 8 * N) p0 p1, advT (bu tb) T (0, 0, t5)) 0).1.2).2.2) sb ss sw fd)) (ty := .int) (C := RX2) (T := TX2) (N := 6) hx hb hts hin2 tyX2 tyX2_ok nmX2 hown hK hP hS (31) (by decide) cE_tp rfl 1 (by decide) (Or.inr (c_nest hK 27 rfl)) rfl (by decide +kernel) rfl rfl (by show _ < 6; decide) cs_tp dX4_text_36 (fun H locs hP hS => ?_)
    refine lv_iload_n hx hb dX4_text_39 rfl (lv_at hl 0 rfl) ?_
    subst hQ
    exact cp_ri hx hb hr hlocks hP hS dX4_text_40 rfl (by first | rw [if_pos c_17] | rw [if_neg c_17])
theorem i_X4_text : ciOk yX4_text cX4_text 2 (some .int) wsX4_text 0 := ⟨⟨_, rfl⟩, by decide +kernel⟩
