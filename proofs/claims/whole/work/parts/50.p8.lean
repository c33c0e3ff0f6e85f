set_option maxHeartbeats 1000000 in
set_option maxRecDepth 100000 in
theorem c_X2_advance {l : Launch} {D : va_G} {cy : Nat → ClassId} {ad : Nat → Nat} {p0 : Nat → Int32} {p1 : Nat → Int32} {p2 : Nat → Int32} {ke : Int32} {tb : Nat → Int32} {t2 : Int32} {t3 : Int32} {t5 : Int32} {sb : Nat → Int32} {ss : Nat → Int32} {sw : Nat → Nat → Int64} {fd : Nat → Int32} {T : Nat} {t : Nat} (ht : t ≤ T) (hT2 : T ≤ 120) : Met l yX2_advance wsX2_advance (rmz 1 21) (wPre D (cK D cy ad) (cw cy ad (rr p0 p1 p2) ke tb (nI T) t2 t3 (nI t) t5 sb ss sw fd) [.ref (ad 31)]) (wPost D (cw cy ad (rr p0 p1 p2) ke tb (nI T) (sortF (bu tb) T (tokA (bu tb) T t)) (nI (tokA (bu tb) T t)) (nI (tokB (bu tb) T t)) (numX (bu tb) T (tokA (bu tb) T t) (tokB (bu tb) T t) t5) sb ss sw fd) none (cA ad)) 0 0 (cA ad) := by
  refine wq_entry rfl rfl (Nat.le_of_ble_eq_true rfl) ?_
  intro p e s0 m args below meth c S hr hlocks hK hP ls hl
  have S : CallFix p m c cX2_advance 1 s0 args wsX2_advance RX2 := S
  obtain ⟨hx, hb, hml, hown, hts⟩ := id S
  have hin2 : ∀ w ∈ wsX20, w ∈ wsX2_advance := fun w h => List.mem_cons_of_mem _ (List.mem_append_right _ h)
  have hS : va_S (cA ad) s0.heap s0.heap [] := va_S.rf
  have hl : lv_has ls 1 [(0, .ref (ad 31))] := hl
  generalize hQ : MQ below (wPost D (cw cy ad (rr p0 p1 p2) ke tb (nI T) (sortF (bu tb) T (tokA (bu tb) T t)) (nI (tokA (bu tb) T t)) (nI (tokB (bu tb) T t)) (numX (bu tb) T (tokA (bu tb) T t) (tokB (bu tb) T t) t5) sb ss sw fd) none (cA ad)) args s0 0 0 (cA ad) = Q
  refine lv_aload_n hx hb dX2_advance_0 rfl (lv_at hl 0 rfl) ?_
  refine lv_aload_n hx hb dX2_advance_1 rfl (lv_at hl 0 rfl) ?_
  refine c_get (v := .int (nI t)) (C := RX2) (T := TX2) (N := 6) hx hb hts hin2 hown hK hP (31) (by decide) cE_tp rfl 4 (by decide) (Or.inl (hts (.fieldLink RX2 25 "PennyRoad$Tape" "next" "I") (by decide +kernel))) rfl dX2_advance_2 ?_
  refine c_put (w' := (cw cy ad (rr p0 p1 p2) ke tb (nI T) t2 (nI t) (nI t) t5 sb ss sw fd)) (ty := .int) (C := RX2) (T := TX2) (N := 6) hx hb hts hin2 tyX2 tyX2_ok nmX2 hown hK hP hS (31) (by decide) cE_tp rfl 3 (by decide) (Or.inl (hts (.fieldLink RX2 22 "PennyRoad$Tape" "first" "I") (by decide +kernel))) rfl (by decide +kernel) rfl rfl (by show _ < 6; decide) cs_tp dX2_advance_5 (fun H locs hP hS => ?_)
  have L_8 : ∀ (n : Nat) (f : Nat) (H : Heap) (locs : List Loc) (ls : Array Slot), (f + n = T) → (t ≤ f) → (tokA (bu tb) T t = skipF (bu tb) T n f) → va_P D vwCl (cw cy ad (rr p0 p1 p2) ke tb (nI T) t2 (nI f) (nI t) t5 sb ss sw fd) H → va_S (cA ad) s0.heap H locs → lv_has ls 1 [(0, .ref (ad 31))] → W p l e (rmz 1 21) s0 m args below meth c H locs 0 0 Q (F0 m 8 ls []) := by
    intro n
    induction n with
    | zero =>
      intro f H locs ls hj htf hF hP hS hl
      refine lv_aload_n hx hb dX2_advance_8 rfl (lv_at hl 0 rfl) ?_
      refine c_get (v := .int (nI f)) (C := RX2) (T := TX2) (N := 6) hx hb hts hin2 hown hK hP (31) (by decide) cE_tp rfl 3 (by decide) (Or.inl (hts (.fieldLink RX2 22 "PennyRoad$Tape" "first" "I") (by decide +kernel))) rfl dX2_advance_9 ?_
      refine lv_aload_n hx hb dX2_advance_12 rfl (lv_at hl 0 rfl) ?_
      refine c_get (v := .int (nI T)) (C := RX2) (T := TX2) (N := 6) hx hb hts hin2 hown hK hP (31) (by decide) cE_tp rfl 1 (by decide) (Or.inl (hts (.fieldLink RX2 15 "PennyRoad$Tape" "length" "I") (by decide +kernel))) rfl dX2_advance_13 ?_
      refine lvn_icmp_ge (tgt := 45) hx hb dX2_advance_16 (by decide) (by omega) (by omega) (fun c_16 => ?_) (fun c_16 => ?_)
      · skip
        have hE : tokA (bu tb) T t = f := by first | exact hF.trans (if_neg c_29) | exact hF
        refine lv_aload_n hx hb dX2_advance_45 rfl (lv_at hl 0 rfl) ?_
        refine lv_aload_n hx hb dX2_advance_46 rfl (lv_at hl 0 rfl) ?_
        refine c_get (v := .int (nI f)) (C := RX2) (T := TX2) (N := 6) hx hb hts hin2 hown hK hP (31) (by decide) cE_tp rfl 3 (by decide) (Or.inl (hts (.fieldLink RX2 22 "PennyRoad$Tape" "first" "I") (by decide +kernel))) rfl dX2_advance_47 ?_
        refine c_put (w' := (cw cy ad (rr p0 p1 p2) ke tb (nI T) t2 (nI f) (nI f) t5 sb ss sw fd)) (ty := .int) (C := RX2) (T := TX2) (N := 6) hx hb hts hin2 tyX2 tyX2_ok nmX2 hown hK hP hS (31) (by decide) cE_tp rfl 4 (by decide) (Or.inl (hts (.fieldLink RX2 25 "PennyRoad$Tape" "next" "I") (by decide +kernel))) rfl (by decide +kernel) rfl rfl (by show _ < 6; decide) cs_tp dX2_advance_50 (fun H locs hP hS => ?_)
        refine lv_aload_n hx hb dX2_advance_53 rfl (lv_at hl 0 rfl) ?_
        refine c_get (v := .int (nI f)) (C := RX2) (T := TX2) (N := 6) hx hb hts hin2 hown hK hP (31) (by decide) cE_tp rfl 3 (by decide) (Or.inl (hts (.fieldLink RX2 22 "PennyRoad$Tape" "first" "I") (by decide +kernel))) rfl dX2_advance_54 ?_
        refine lv_aload_n hx hb dX2_advance_57 rfl (lv_at hl 0 rfl) ?_
        refine c_get (v := .int (nI T)) (C := RX2) (T := TX2) (N := 6) hx hb hts hin2 hown hK hP (31) (by decide) cE_tp rfl 1 (by decide) (Or.inl (hts (.fieldLink RX2 15 "PennyRoad$Tape" "length" "I") (by decide +kernel))) rfl dX2_advance_58 ?_
        refine lvn_icmp_lt (tgt := 72) hx hb dX2_advance_61 (by decide) (by omega) (by omega) (fun c_61 => ?_) (fun c_61 => ?_)
        · skip
          exfalso; omega
        · skip
          have hB : tokB (bu tb) T t = f := tokB_e hE (by omega)
          have hSo : sortF (bu tb) T f = nI 0 := if_neg (by omega)
          have hDi : ¬ isDg (bu tb) T f = true := dg_T (by omega)
          refine lv_aload_n hx hb dX2_advance_64 rfl (lv_at hl 0 rfl) ?_
          refine lv_iconst (v := nI 0) hx hb dX2_advance_65 (by decide) ?_
          refine c_put (w' := (cw cy ad (rr p0 p1 p2) ke tb (nI T) (nI 0) (nI f) (nI f) t5 sb ss sw fd)) (ty := .int) (C := RX2) (T := TX2) (N := 6) hx hb hts hin2 tyX2 tyX2_ok nmX2 hown hK hP hS (31) (by decide) cE_tp rfl 2 (by decide) (Or.inl (hts (.fieldLink RX2 19 "PennyRoad$Tape" "sort" "I") (by decide +kernel))) rfl (by decide +kernel) rfl rfl (by show _ < 6; decide) cs_tp dX2_advance_66 (fun H locs hP hS => ?_)
          refine lv_goto (tgt := 252) hx hb dX2_advance_69 (by decide) ?_
          subst hQ
          exact wq_rv hx hb hr hlocks hP hS dX2_advance_252 rfl (by rw [hB, hE, hSo]; unfold numX; first | rw [if_neg hDi] | (rw [if_pos hDi, hMn]))
      · skip
        exfalso; omega
    | succ n ih_8 =>
      intro f H locs ls hj htf hF hP hS hl
      refine lv_aload_n hx hb dX2_advance_8 rfl (lv_at hl 0 rfl) ?_
      refine c_get (v := .int (nI f)) (C := RX2) (T := TX2) (N := 6) hx hb hts hin2 hown hK hP (31) (by decide) cE_tp rfl 3 (by decide) (Or.inl (hts (.fieldLink RX2 22 "PennyRoad$Tape" "first" "I") (by decide +kernel))) rfl dX2_advance_9 ?_
      refine lv_aload_n hx hb dX2_advance_12 rfl (lv_at hl 0 rfl) ?_
      refine c_get (v := .int (nI T)) (C := RX2) (T := TX2) (N := 6) hx hb hts hin2 hown hK hP (31) (by decide) cE_tp rfl 1 (by decide) (Or.inl (hts (.fieldLink RX2 15 "PennyRoad$Tape" "length" "I") (by decide +kernel))) rfl dX2_advance_13 ?_
      refine lvn_icmp_ge (tgt := 45) hx hb dX2_advance_16 (by decide) (by omega) (by omega) (fun c_16 => ?_) (fun c_16 => ?_)
      · skip
        exfalso; omega
      · skip
        refine lv_aload_n hx hb dX2_advance_19 rfl (lv_at hl 0 rfl) ?_
        refine lv_aload_n hx hb dX2_advance_20 rfl (lv_at hl 0 rfl) ?_
        refine c_get (v := .int (nI f)) (C := RX2) (T := TX2) (N := 6) hx hb hts hin2 hown hK hP (31) (by decide) cE_tp rfl 3 (by decide) (Or.inl (hts (.fieldLink RX2 22 "PennyRoad$Tape" "first" "I") (by decide +kernel))) rfl dX2_advance_21 ?_
        refine wq_V S cK_ok hK hP hS (c_X2_byteAt (by omega) (by omega)) gX2_advance_X2_byteAt i_X2_byteAt rfl (c_rec hK hP 31 (by decide) cE_tp rfl) ⟨Nat.le_of_ble_eq_true rfl, Nat.le_of_ble_eq_true rfl⟩ rfl hl.1 (As := [.int (nI f)]) (rest := []) (st1 := [.int (bAt (bu tb) T f)]) rfl rfl (Nat.le_of_ble_eq_true rfl) ⟨Nat.le_of_ble_eq_true rfl, Nat.le_of_ble_eq_true rfl⟩ dX2_advance_24 (fun H locs hP hS => ?_)
        refine lv_bipush (v := nI 32) hx hb dX2_advance_27 (by decide) ?_
        refine lv_icmp_ne (tgt := 45) hx hb dX2_advance_29 (by decide) (fun c_29 => ?_) (fun c_29 => ?_)
        · skip
          have hE : tokA (bu tb) T t = f := by first | exact hF.trans (if_neg c_29) | exact hF
          refine lv_aload_n hx hb dX2_advance_45 rfl (lv_at hl 0 rfl) ?_
          refine lv_aload_n hx hb dX2_advance_46 rfl (lv_at hl 0 rfl) ?_
          refine c_get (v := .int (nI f)) (C := RX2) (T := TX2) (N := 6) hx hb hts hin2 hown hK hP (31) (by decide) cE_tp rfl 3 (by decide) (Or.inl (hts (.fieldLink RX2 22 "PennyRoad$Tape" "first" "I") (by decide +kernel))) rfl dX2_advance_47 ?_
          refine c_put (w' := (cw cy ad (rr p0 p1 p2) ke tb (nI T) t2 (nI f) (nI f) t5 sb ss sw fd)) (ty := .int) (C := RX2) (T := TX2) (N := 6) hx hb hts hin2 tyX2 tyX2_ok nmX2 hown hK hP hS (31) (by decide) cE_tp rfl 4 (by decide) (Or.inl (hts (.fieldLink RX2 25 "PennyRoad$Tape" "next" "I") (by decide +kernel))) rfl (by decide +kernel) rfl rfl (by show _ < 6; decide) cs_tp dX2_advance_50 (fun H locs hP hS => ?_)
          refine lv_aload_n hx hb dX2_advance_53 rfl (lv_at hl 0 rfl) ?_
          refine c_get (v := .int (nI f)) (C := RX2) (T := TX2) (N := 6) hx hb hts hin2 hown hK hP (31) (by decide) cE_tp rfl 3 (by decide) (Or.inl (hts (.fieldLink RX2 22 "PennyRoad$Tape" "first" "I") (by decide +kernel))) rfl dX2_advance_54 ?_
          refine lv_aload_n hx hb dX2_advance_57 rfl (lv_at hl 0 rfl) ?_
          refine c_get (v := .int (nI T)) (C := RX2) (T := TX2) (N := 6) hx hb hts hin2 hown hK hP (31) (by decide) cE_tp rfl 1 (by decide) (Or.inl (hts (.fieldLink RX2 15 "PennyRoad$Tape" "length" "I") (by decide +kernel))) rfl dX2_advance_58 ?_
          refine lvn_icmp_lt (tgt := 72) hx hb dX2_advance_61 (by decide) (by omega) (by omega) (fun c_61 => ?_) (fun c_61 => ?_)
          · skip
            refine lv_aload_n hx hb dX2_advance_72 rfl (lv_at hl 0 rfl) ?_
            refine lv_aload_n hx hb dX2_advance_73 rfl (lv_at hl 0 rfl) ?_
            refine c_get (v := .int (nI f)) (C := RX2) (T := TX2) (N := 6) hx hb hts hin2 hown hK hP (31) (by decide) cE_tp rfl 3 (by decide) (Or.inl (hts (.fieldLink RX2 22 "PennyRoad$Tape" "first" "I") (by decide +kernel))) rfl dX2_advance_74 ?_
            refine wq_V S cK_ok hK hP hS (c_X2_byteAt (by omega) (by omega)) gX2_advance_X2_byteAt i_X2_byteAt rfl (c_rec hK hP 31 (by decide) cE_tp rfl) ⟨Nat.le_of_ble_eq_true rfl, Nat.le_of_ble_eq_true rfl⟩ rfl hl.1 (As := [.int (nI f)]) (rest := []) (st1 := [.int (bAt (bu tb) T f)]) rfl rfl (Nat.le_of_ble_eq_true rfl) ⟨Nat.le_of_ble_eq_true rfl, Nat.le_of_ble_eq_true rfl⟩ dX2_advance_77 (fun H locs hP hS => ?_)
            refine sq_S S (c_X2_isLetter) gX2_advance_X2_isLetter i_X2_isLetter ⟨Nat.le_of_ble_eq_true rfl, Nat.le_of_ble_eq_true rfl⟩ rfl hl.1 (As := [.int (bAt (bu tb) T f)]) (rest := []) (st1 := [.int (z (rg 97 122 (bAt (bu tb) T f)))]) rfl rfl (Nat.le_of_ble_eq_true rfl) ⟨Nat.le_of_ble_eq_true rfl, Nat.le_of_ble_eq_true rfl⟩ dX2_advance_80 ?_
            refine lvz_if_eq (tgt := 129) hx hb dX2_advance_83 (by decide) (fun c_83 => ?_) (fun c_83 => ?_)
            · skip
              refine lv_aload_n hx hb dX2_advance_129 rfl (lv_at hl 0 rfl) ?_
              refine lv_aload_n hx hb dX2_advance_130 rfl (lv_at hl 0 rfl) ?_
              refine c_get (v := .int (nI f)) (C := RX2) (T := TX2) (N := 6) hx hb hts hin2 hown hK hP (31) (by decide) cE_tp rfl 3 (by decide) (Or.inl (hts (.fieldLink RX2 22 "PennyRoad$Tape" "first" "I") (by decide +kernel))) rfl dX2_advance_131 ?_
              refine wq_V S cK_ok hK hP hS (c_X2_byteAt (by omega) (by omega)) gX2_advance_X2_byteAt i_X2_byteAt rfl (c_rec hK hP 31 (by decide) cE_tp rfl) ⟨Nat.le_of_ble_eq_true rfl, Nat.le_of_ble_eq_true rfl⟩ rfl hl.1 (As := [.int (nI f)]) (rest := []) (st1 := [.int (bAt (bu tb) T f)]) rfl rfl (Nat.le_of_ble_eq_true rfl) ⟨Nat.le_of_ble_eq_true rfl, Nat.le_of_ble_eq_true rfl⟩ dX2_advance_134 (fun H locs hP hS => ?_)
              refine sq_S S (c_X2_isDigit) gX2_advance_X2_isDigit i_X2_isDigit ⟨Nat.le_of_ble_eq_true rfl, Nat.le_of_ble_eq_true rfl⟩ rfl hl.1 (As := [.int (bAt (bu tb) T f)]) (rest := []) (st1 := [.int (z (rg 48 57 (bAt (bu tb) T f)))]) rfl rfl (Nat.le_of_ble_eq_true rfl) ⟨Nat.le_of_ble_eq_true rfl, Nat.le_of_ble_eq_true rfl⟩ dX2_advance_137 ?_
              refine lvz_if_eq (tgt := 220) hx hb dX2_advance_140 (by decide) (fun c_140 => ?_) (fun c_140 => ?_)
              · skip
                have hDi : ¬ isDg (bu tb) T f = true := c_140
                have hB : tokB (bu tb) T t = f + 1 := tokB_s hE (by omega) c_83 c_140
                refine lv_aload_n hx hb dX2_advance_220 rfl (lv_at hl 0 rfl) ?_
                refine lv_aload_n hx hb dX2_advance_221 rfl (lv_at hl 0 rfl) ?_
                refine lv_aload_n hx hb dX2_advance_222 rfl (lv_at hl 0 rfl) ?_
                refine c_get (v := .int (nI f)) (C := RX2) (T := TX2) (N := 6) hx hb hts hin2 hown hK hP (31) (by decide) cE_tp rfl 3 (by decide) (Or.inl (hts (.fieldLink RX2 22 "PennyRoad$Tape" "first" "I") (by decide +kernel))) rfl dX2_advance_223 ?_
                refine wq_V S cK_ok hK hP hS (c_X2_byteAt (by omega) (by omega)) gX2_advance_X2_byteAt i_X2_byteAt rfl (c_rec hK hP 31 (by decide) cE_tp rfl) ⟨Nat.le_of_ble_eq_true rfl, Nat.le_of_ble_eq_true rfl⟩ rfl hl.1 (As := [.int (nI f)]) (rest := [.ref (ad 31)]) (st1 := [.int (bAt (bu tb) T f), .ref (ad 31)]) rfl rfl (Nat.le_of_ble_eq_true rfl) ⟨Nat.le_of_ble_eq_true rfl, Nat.le_of_ble_eq_true rfl⟩ dX2_advance_226 (fun H locs hP hS => ?_)
                refine lv_bipush (v := nI 59) hx hb dX2_advance_229 (by decide) ?_
                refine lv_icmp_ne (tgt := 238) hx hb dX2_advance_231 (by decide) (fun c_231 => ?_) (fun c_231 => ?_)
                · skip
                  have hSo : sortF (bu tb) T f = nI 4 := (if_pos (by omega)).trans ((if_neg c_83).trans ((if_neg c_140).trans (if_neg c_231)))
                  refine lv_iconst (v := nI 4) hx hb dX2_advance_238 (by decide) ?_
                  refine c_put (w' := (cw cy ad (rr p0 p1 p2) ke tb (nI T) (nI 4) (nI f) (nI f) t5 sb ss sw fd)) (ty := .int) (C := RX2) (T := TX2) (N := 6) hx hb hts hin2 tyX2 tyX2_ok nmX2 hown hK hP hS (31) (by decide) cE_tp rfl 2 (by decide) (Or.inl (hts (.fieldLink RX2 19 "PennyRoad$Tape" "sort" "I") (by decide +kernel))) rfl (by decide +kernel) rfl rfl (by show _ < 6; decide) cs_tp dX2_advance_239 (fun H locs hP hS => ?_)
                  refine lv_aload_n hx hb dX2_advance_242 rfl (lv_at hl 0 rfl) ?_
                  refine lv_aload_n hx hb dX2_advance_243 rfl (lv_at hl 0 rfl) ?_
                  refine c_get (v := .int (nI f)) (C := RX2) (T := TX2) (N := 6) hx hb hts hin2 hown hK hP (31) (by decide) cE_tp rfl 3 (by decide) (Or.inl (hts (.fieldLink RX2 22 "PennyRoad$Tape" "first" "I") (by decide +kernel))) rfl dX2_advance_244 ?_
                  refine lv_iconst (v := nI 1) hx hb dX2_advance_247 (by decide) ?_
                  refine lvn_iadd hx hb dX2_advance_248 ?_
                  refine c_put (w' := (cw cy ad (rr p0 p1 p2) ke tb (nI T) (nI 4) (nI f) (nI (f + 1)) t5 sb ss sw fd)) (ty := .int) (C := RX2) (T := TX2) (N := 6) hx hb hts hin2 tyX2 tyX2_ok nmX2 hown hK hP hS (31) (by decide) cE_tp rfl 4 (by decide) (Or.inl (hts (.fieldLink RX2 25 "PennyRoad$Tape" "next" "I") (by decide +kernel))) rfl (by decide +kernel) rfl rfl (by show _ < 6; decide) cs_tp dX2_advance_249 (fun H locs hP hS => ?_)
                  subst hQ
                  exact wq_rv hx hb hr hlocks hP hS dX2_advance_252 rfl (by rw [hB, hE, hSo]; unfold numX; first | rw [if_neg hDi] | (rw [if_pos hDi, hMn]))
                · skip
                  have hSo : sortF (bu tb) T f = nI 3 := (if_pos (by omega)).trans ((if_neg c_83).trans ((if_neg c_140).trans (if_pos c_231)))
                  refine lv_iconst (v := nI 3) hx hb dX2_advance_234 (by decide) ?_
                  refine lv_goto (tgt := 239) hx hb dX2_advance_235 (by decide) ?_
                  refine c_put (w' := (cw cy ad (rr p0 p1 p2) ke tb (nI T) (nI 3) (nI f) (nI f) t5 sb ss sw fd)) (ty := .int) (C := RX2) (T := TX2) (N := 6) hx hb hts hin2 tyX2 tyX2_ok nmX2 hown hK hP hS (31) (by decide) cE_tp rfl 2 (by decide) (Or.inl (hts (.fieldLink RX2 19 "PennyRoad$Tape" "sort" "I") (by decide +kernel))) rfl (by decide +kernel) rfl rfl (by show _ < 6; decide) cs_tp dX2_advance_239 (fun H locs hP hS => ?_)
                  refine lv_aload_n hx hb dX2_advance_242 rfl (lv_at hl 0 rfl) ?_
                  refine lv_aload_n hx hb dX2_advance_243 rfl (lv_at hl 0 rfl) ?_
                  refine c_get (v := .int (nI f)) (C := RX2) (T := TX2) (N := 6) hx hb hts hin2 hown hK hP (31) (by decide) cE_tp rfl 3 (by decide) (Or.inl (hts (.fieldLink RX2 22 "PennyRoad$Tape" "first" "I") (by decide +kernel))) rfl dX2_advance_244 ?_
                  refine lv_iconst (v := nI 1) hx hb dX2_advance_247 (by decide) ?_
                  refine lvn_iadd hx hb dX2_advance_248 ?_
                  refine c_put (w' := (cw cy ad (rr p0 p1 p2) ke tb (nI T) (nI 3) (nI f) (nI (f + 1)) t5 sb ss sw fd)) (ty := .int) (C := RX2) (T := TX2) (N := 6) hx hb hts hin2 tyX2 tyX2_ok nmX2 hown hK hP hS (31) (by decide) cE_tp rfl 4 (by decide) (Or.inl (hts (.fieldLink RX2 25 "PennyRoad$Tape" "next" "I") (by decide +kernel))) rfl (by decide +kernel) rfl rfl (by show _ < 6; decide) cs_tp dX2_advance_249 (fun H locs hP hS => ?_)
                  subst hQ
                  exact wq_rv hx hb hr hlocks hP hS dX2_advance_252 rfl (by rw [hB, hE, hSo]; unfold numX; first | rw [if_neg hDi] | (rw [if_pos hDi, hMn]))
              · skip
                have hSo : sortF (bu tb) T f = nI 2 := (if_pos (by omega)).trans ((if_neg c_83).trans (if_pos c_140))
                have hDi : isDg (bu tb) T f = true := c_140
                refine lv_aload_n hx hb dX2_advance_143 rfl (lv_at hl 0 rfl) ?_
                refine lv_iconst (v := nI 2) hx hb dX2_advance_144 (by decide) ?_
                refine c_put (w' := (cw cy ad (rr p0 p1 p2) ke tb (nI T) (nI 2) (nI f) (nI f) t5 sb ss sw fd)) (ty := .int) (C := RX2) (T := TX2) (N := 6) hx hb hts hin2 tyX2 tyX2_ok nmX2 hown hK hP hS (31) (by decide) cE_tp rfl 2 (by decide) (Or.inl (hts (.fieldLink RX2 19 "PennyRoad$Tape" "sort" "I") (by decide +kernel))) rfl (by decide +kernel) rfl rfl (by show _ < 6; decide) cs_tp dX2_advance_145 (fun H locs hP hS => ?_)
                refine lv_aload_n hx hb dX2_advance_148 rfl (lv_at hl 0 rfl) ?_
                refine lv_iconst (v := nI 0) hx hb dX2_advance_149 (by decide) ?_
                refine c_put (w' := (cw cy ad (rr p0 p1 p2) ke tb (nI T) (nI 2) (nI f) (nI f) (nI 0) sb ss sw fd)) (ty := .int) (C := RX2) (T := TX2) (N := 6) hx hb hts hin2 tyX2 tyX2_ok nmX2 hown hK hP hS (31) (by decide) cE_tp rfl 5 (by decide) (Or.inl (hts (.fieldLink RX2 28 "PennyRoad$Tape" "number" "I") (by decide +kernel))) rfl (by decide +kernel) rfl rfl (by show _ < 6; decide) cs_tp dX2_advance_150 (fun H locs hP hS => ?_)
                have L_153 : ∀ (k : Nat) (v : Nat) (H : Heap) (locs : List Loc) (ls : Array Slot), (f + v + k = T) → (tokB (bu tb) T t = endD (bu tb) T k (f + v)) → va_P D vwCl (cw cy ad (rr p0 p1 p2) ke tb (nI T) (nI 2) (nI f) (nI (f + v)) (numC (bu tb) T f v) sb ss sw fd) H → va_S (cA ad) s0.heap H locs → lv_has ls 1 [(0, .ref (ad 31))] → W p l e (rmz 1 21) s0 m args below meth c H locs 0 0 Q (F0 m 153 ls []) := by
                  intro k
                  induction k with
                  | zero =>
                    intro v H locs ls hj2 hG hP hS hl
                    refine lv_aload_n hx hb dX2_advance_153 rfl (lv_at hl 0 rfl) ?_
                    refine c_get (v := .int (nI (f + v))) (C := RX2) (T := TX2) (N := 6) hx hb hts hin2 hown hK hP (31) (by decide) cE_tp rfl 4 (by decide) (Or.inl (hts (.fieldLink RX2 25 "PennyRoad$Tape" "next" "I") (by decide +kernel))) rfl dX2_advance_154 ?_
                    refine lv_aload_n hx hb dX2_advance_157 rfl (lv_at hl 0 rfl) ?_
                    refine c_get (v := .int (nI T)) (C := RX2) (T := TX2) (N := 6) hx hb hts hin2 hown hK hP (31) (by decide) cE_tp rfl 1 (by decide) (Or.inl (hts (.fieldLink RX2 15 "PennyRoad$Tape" "length" "I") (by decide +kernel))) rfl dX2_advance_158 ?_
                    refine lvn_icmp_ge (tgt := 252) hx hb dX2_advance_161 (by decide) (by omega) (by omega) (fun c_161 => ?_) (fun c_161 => ?_)
                    · skip
                      have hB : tokB (bu tb) T t = f + v := by first | exact hG.trans (if_neg c_175) | exact hG
                      have hMn : numC (bu tb) T f (f + v - f) = numC (bu tb) T f v := by rw [Nat.add_sub_cancel_left]
                      subst hQ
                      exact wq_rv hx hb hr hlocks hP hS dX2_advance_252 rfl (by rw [hB, hE, hSo]; unfold numX; first | rw [if_neg hDi] | (rw [if_pos hDi, hMn]))
                    · skip
                      exfalso; omega
                  | succ k ih_153 =>
                    intro v H locs ls hj2 hG hP hS hl
                    refine lv_aload_n hx hb dX2_advance_153 rfl (lv_at hl 0 rfl) ?_
                    refine c_get (v := .int (nI (f + v))) (C := RX2) (T := TX2) (N := 6) hx hb hts hin2 hown hK hP (31) (by decide) cE_tp rfl 4 (by decide) (Or.inl (hts (.fieldLink RX2 25 "PennyRoad$Tape" "next" "I") (by decide +kernel))) rfl dX2_advance_154 ?_
                    refine lv_aload_n hx hb dX2_advance_157 rfl (lv_at hl 0 rfl) ?_
                    refine c_get (v := .int (nI T)) (C := RX2) (T := TX2) (N := 6) hx hb hts hin2 hown hK hP (31) (by decide) cE_tp rfl 1 (by decide) (Or.inl (hts (.fieldLink RX2 15 "PennyRoad$Tape" "length" "I") (by decide +kernel))) rfl dX2_advance_158 ?_
                    refine lvn_icmp_ge (tgt := 252) hx hb dX2_advance_161 (by decide) (by omega) (by omega) (fun c_161 => ?_) (fun c_161 => ?_)
                    · skip
                      exfalso; omega
                    · skip
                      refine lv_aload_n hx hb dX2_advance_164 rfl (lv_at hl 0 rfl) ?_
                      refine lv_aload_n hx hb dX2_advance_165 rfl (lv_at hl 0 rfl) ?_
                      refine c_get (v := .int (nI (f + v))) (C := RX2) (T := TX2) (N := 6) hx hb hts hin2 hown hK hP (31) (by decide) cE_tp rfl 4 (by decide) (Or.inl (hts (.fieldLink RX2 25 "PennyRoad$Tape" "next" "I") (by decide +kernel))) rfl dX2_advance_166 ?_
                      refine wq_V S cK_ok hK hP hS (c_X2_byteAt (by omega) (by omega)) gX2_advance_X2_byteAt i_X2_byteAt rfl (c_rec hK hP 31 (by decide) cE_tp rfl) ⟨Nat.le_of_ble_eq_true rfl, Nat.le_of_ble_eq_true rfl⟩ rfl hl.1 (As := [.int (nI (f + v))]) (rest := []) (st1 := [.int (bAt (bu tb) T (f + v))]) rfl rfl (Nat.le_of_ble_eq_true rfl) ⟨Nat.le_of_ble_eq_true rfl, Nat.le_of_ble_eq_true rfl⟩ dX2_advance_169 (fun H locs hP hS => ?_)
                      refine sq_S S (c_X2_isDigit) gX2_advance_X2_isDigit i_X2_isDigit ⟨Nat.le_of_ble_eq_true rfl, Nat.le_of_ble_eq_true rfl⟩ rfl hl.1 (As := [.int (bAt (bu tb) T (f + v))]) (rest := []) (st1 := [.int (z (rg 48 57 (bAt (bu tb) T (f + v))))]) rfl rfl (Nat.le_of_ble_eq_true rfl) ⟨Nat.le_of_ble_eq_true rfl, Nat.le_of_ble_eq_true rfl⟩ dX2_advance_172 ?_
                      refine lvz_if_eq (tgt := 252) hx hb dX2_advance_175 (by decide) (fun c_175 => ?_) (fun c_175 => ?_)
                      · skip
                        have hB : tokB (bu tb) T t = f + v := by first | exact hG.trans (if_neg c_175) | exact hG
                        have hMn : numC (bu tb) T f (f + v - f) = numC (bu tb) T f v := by rw [Nat.add_sub_cancel_left]
                        subst hQ
                        exact wq_rv hx hb hr hlocks hP hS dX2_advance_252 rfl (by rw [hB, hE, hSo]; unfold numX; first | rw [if_neg hDi] | (rw [if_pos hDi, hMn]))
                      · skip
                        refine lv_aload_n hx hb dX2_advance_178 rfl (lv_at hl 0 rfl) ?_
                        refine lv_sipush (v := nI 10000) hx hb dX2_advance_179 (by decide) ?_
                        refine lv_bipush (v := nI 10) hx hb dX2_advance_182 (by decide) ?_
                        refine lv_aload_n hx hb dX2_advance_184 rfl (lv_at hl 0 rfl) ?_
                        refine c_get (v := .int (numC (bu tb) T f v)) (C := RX2) (T := TX2) (N := 6) hx hb hts hin2 hown hK hP (31) (by decide) cE_tp rfl 5 (by decide) (Or.inl (hts (.fieldLink RX2 28 "PennyRoad$Tape" "number" "I") (by decide +kernel))) rfl dX2_advance_185 ?_
                        refine lv_imul hx hb dX2_advance_188 ?_
                        refine lv_aload_n hx hb dX2_advance_189 rfl (lv_at hl 0 rfl) ?_
                        refine lv_aload_n hx hb dX2_advance_190 rfl (lv_at hl 0 rfl) ?_
                        refine c_get (v := .int (nI (f + v))) (C := RX2) (T := TX2) (N := 6) hx hb hts hin2 hown hK hP (31) (by decide) cE_tp rfl 4 (by decide) (Or.inl (hts (.fieldLink RX2 25 "PennyRoad$Tape" "next" "I") (by decide +kernel))) rfl dX2_advance_191 ?_
                        refine wq_V S cK_ok hK hP hS (c_X2_byteAt (by omega) (by omega)) gX2_advance_X2_byteAt i_X2_byteAt rfl (c_rec hK hP 31 (by decide) cE_tp rfl) ⟨Nat.le_of_ble_eq_true rfl, Nat.le_of_ble_eq_true rfl⟩ rfl hl.1 (As := [.int (nI (f + v))]) (rest := [.int ((nI 10) * (numC (bu tb) T f v)), .int (nI 10000), .ref (ad 31)]) (st1 := [.int (bAt (bu tb) T (f + v)), .int ((nI 10) * (numC (bu tb) T f v)), .int (nI 10000), .ref (ad 31)]) rfl rfl (Nat.le_of_ble_eq_true rfl) ⟨Nat.le_of_ble_eq_true rfl, Nat.le_of_ble_eq_true rfl⟩ dX2_advance_194 (fun H locs hP hS => ?_)
                        refine lv_iadd hx hb dX2_advance_197 ?_
                        refine lv_bipush (v := nI 48) hx hb dX2_advance_198 (by decide) ?_
                        refine lv_isub hx hb dX2_advance_200 ?_
                        refine jm_min hx hb (hml.trans hl.1.symm) hown (hts (.methodLink RX2 131 Lib.Math.min.name) (by decide +kernel)) (hts (.static Lib.Math.min.name) (by decide +kernel)) (hts (.initialized "java/lang/Math") (by decide +kernel)) (hts (.code Lib.Math.min.name Lib.Math.min.code 2 (some .int)) (by decide +kernel)) (Nat.le_of_ble_eq_true rfl) (Nat.le_of_ble_eq_true rfl) ⟨Nat.le_of_ble_eq_true rfl, Nat.le_of_ble_eq_true rfl⟩ dX2_advance_201 ?_
                        refine c_put (w' := (cw cy ad (rr p0 p1 p2) ke tb (nI T) (nI 2) (nI f) (nI (f + v)) (mn (nI 10000) ((((nI 10) * (numC (bu tb) T f v)) + (bAt (bu tb) T (f + v))) - (nI 48))) sb ss sw fd)) (ty := .int) (C := RX2) (T := TX2) (N := 6) hx hb hts hin2 tyX2 tyX2_ok nmX2 hown hK hP hS (31) (by decide) cE_tp rfl 5 (by decide) (Or.inl (hts (.fieldLink RX2 28 "PennyRoad$Tape" "number" "I") (by decide +kernel))) rfl (by decide +kernel) rfl rfl (by show _ < 6; decide) cs_tp dX2_advance_204 (fun H locs hP hS => ?_)
                        refine lv_aload_n hx hb dX2_advance_207 rfl (lv_at hl 0 rfl) ?_
                        refine lv_dup hx hb dX2_advance_208 rfl ?_
                        refine c_get (v := .int (nI (f + v))) (C := RX2) (T := TX2) (N := 6) hx hb hts hin2 hown hK hP (31) (by decide) cE_tp rfl 4 (by decide) (Or.inl (hts (.fieldLink RX2 25 "PennyRoad$Tape" "next" "I") (by decide +kernel))) rfl dX2_advance_209 ?_
                        refine lv_iconst (v := nI 1) hx hb dX2_advance_212 (by decide) ?_
                        refine lvn_iadd hx hb dX2_advance_213 ?_
                        refine c_put (w' := (cw cy ad (rr p0 p1 p2) ke tb (nI T) (nI 2) (nI f) (nI ((f + v) + 1)) (mn (nI 10000) ((((nI 10) * (numC (bu tb) T f v)) + (bAt (bu tb) T (f + v))) - (nI 48))) sb ss sw fd)) (ty := .int) (C := RX2) (T := TX2) (N := 6) hx hb hts hin2 tyX2 tyX2_ok nmX2 hown hK hP hS (31) (by decide) cE_tp rfl 4 (by decide) (Or.inl (hts (.fieldLink RX2 25 "PennyRoad$Tape" "next" "I") (by decide +kernel))) rfl (by decide +kernel) rfl rfl (by show _ < 6; decide) cs_tp dX2_advance_214 (fun H locs hP hS => ?_)
                        refine lv_goto (tgt := 153) hx hb dX2_advance_217 (by decide) ?_
                        exact ih_153 (v + 1) _ _ ls (by omega) (hG.trans (if_pos c_175)) hP hS hl
                exact L_153 (T - f) 0 _ _ ls (by omega) (tokB_d hE (by omega) c_83 c_140) hP hS hl
            · skip
              have hSo : sortF (bu tb) T f = nI 1 := (if_pos (by omega)).trans (if_pos c_83)
              have hDi : ¬ isDg (bu tb) T f = true := lt_dg c_83
              refine lv_aload_n hx hb dX2_advance_86 rfl (lv_at hl 0 rfl) ?_
              refine lv_iconst (v := nI 1) hx hb dX2_advance_87 (by decide) ?_
              refine c_put (w' := (cw cy ad (rr p0 p1 p2) ke tb (nI T) (nI 1) (nI f) (nI f) t5 sb ss sw fd)) (ty := .int) (C := RX2) (T := TX2) (N := 6) hx hb hts hin2 tyX2 tyX2_ok nmX2 hown hK hP hS (31) (by decide) cE_tp rfl 2 (by decide) (Or.inl (hts (.fieldLink RX2 19 "PennyRoad$Tape" "sort" "I") (by decide +kernel))) rfl (by decide +kernel) rfl rfl (by show _ < 6; decide) cs_tp dX2_advance_88 (fun H locs hP hS => ?_)
              have L_91 : ∀ (k : Nat) (u : Nat) (H : Heap) (locs : List Loc) (ls : Array Slot), (u + k = T) → (tokB (bu tb) T t = endW (bu tb) T k u) → va_P D vwCl (cw cy ad (rr p0 p1 p2) ke tb (nI T) (nI 1) (nI f) (nI u) t5 sb ss sw fd) H → va_S (cA ad) s0.heap H locs → lv_has ls 1 [(0, .ref (ad 31))] → W p l e (rmz 1 21) s0 m args below meth c H locs 0 0 Q (F0 m 91 ls []) := by
                intro k
                induction k with
                | zero =>
                  intro u H locs ls hj2 hG hP hS hl
                  refine lv_aload_n hx hb dX2_advance_91 rfl (lv_at hl 0 rfl) ?_
                  refine c_get (v := .int (nI u)) (C := RX2) (T := TX2) (N := 6) hx hb hts hin2 hown hK hP (31) (by decide) cE_tp rfl 4 (by decide) (Or.inl (hts (.fieldLink RX2 25 "PennyRoad$Tape" "next" "I") (by decide +kernel))) rfl dX2_advance_92 ?_
                  refine lv_aload_n hx hb dX2_advance_95 rfl (lv_at hl 0 rfl) ?_
                  refine c_get (v := .int (nI T)) (C := RX2) (T := TX2) (N := 6) hx hb hts hin2 hown hK hP (31) (by decide) cE_tp rfl 1 (by decide) (Or.inl (hts (.fieldLink RX2 15 "PennyRoad$Tape" "length" "I") (by decide +kernel))) rfl dX2_advance_96 ?_
                  refine lvn_icmp_ge (tgt := 252) hx hb dX2_advance_99 (by decide) (by omega) (by omega) (fun c_99 => ?_) (fun c_99 => ?_)
                  · skip
                    have hB : tokB (bu tb) T t = u := by first | exact hG.trans (if_neg c_113) | exact hG
                    subst hQ
                    exact wq_rv hx hb hr hlocks hP hS dX2_advance_252 rfl (by rw [hB, hE, hSo]; unfold numX; first | rw [if_neg hDi] | (rw [if_pos hDi, hMn]))
                  · skip
                    exfalso; omega
                | succ k ih_91 =>
                  intro u H locs ls hj2 hG hP hS hl
                  refine lv_aload_n hx hb dX2_advance_91 rfl (lv_at hl 0 rfl) ?_
                  refine c_get (v := .int (nI u)) (C := RX2) (T := TX2) (N := 6) hx hb hts hin2 hown hK hP (31) (by decide) cE_tp rfl 4 (by decide) (Or.inl (hts (.fieldLink RX2 25 "PennyRoad$Tape" "next" "I") (by decide +kernel))) rfl dX2_advance_92 ?_
                  refine lv_aload_n hx hb dX2_advance_95 rfl (lv_at hl 0 rfl) ?_
                  refine c_get (v := .int (nI T)) (C := RX2) (T := TX2) (N := 6) hx hb hts hin2 hown hK hP (31) (by decide) cE_tp rfl 1 (by decide) (Or.inl (hts (.fieldLink RX2 15 "PennyRoad$Tape" "length" "I") (by decide +kernel))) rfl dX2_advance_96 ?_
                  refine lvn_icmp_ge (tgt := 252) hx hb dX2_advance_99 (by decide) (by omega) (by omega) (fun c_99 => ?_) (fun c_99 => ?_)
                  · skip
                    exfalso; omega
                  · skip
                    refine lv_aload_n hx hb dX2_advance_102 rfl (lv_at hl 0 rfl) ?_
                    refine lv_aload_n hx hb dX2_advance_103 rfl (lv_at hl 0 rfl) ?_
                    refine c_get (v := .int (nI u)) (C := RX2) (T := TX2) (N := 6) hx hb hts hin2 hown hK hP (31) (by decide) cE_tp rfl 4 (by decide) (Or.inl (hts (.fieldLink RX2 25 "PennyRoad$Tape" "next" "I") (by decide +kernel))) rfl dX2_advance_104 ?_
                    refine wq_V S cK_ok hK hP hS (c_X2_byteAt (by omega) (by omega)) gX2_advance_X2_byteAt i_X2_byteAt rfl (c_rec hK hP 31 (by decide) cE_tp rfl) ⟨Nat.le_of_ble_eq_true rfl, Nat.le_of_ble_eq_true rfl⟩ rfl hl.1 (As := [.int (nI u)]) (rest := []) (st1 := [.int (bAt (bu tb) T u)]) rfl rfl (Nat.le_of_ble_eq_true rfl) ⟨Nat.le_of_ble_eq_true rfl, Nat.le_of_ble_eq_true rfl⟩ dX2_advance_107 (fun H locs hP hS => ?_)
                    refine sq_S S (c_X2_isLetter) gX2_advance_X2_isLetter i_X2_isLetter ⟨Nat.le_of_ble_eq_true rfl, Nat.le_of_ble_eq_true rfl⟩ rfl hl.1 (As := [.int (bAt (bu tb) T u)]) (rest := []) (st1 := [.int (z (rg 97 122 (bAt (bu tb) T u)))]) rfl rfl (Nat.le_of_ble_eq_true rfl) ⟨Nat.le_of_ble_eq_true rfl, Nat.le_of_ble_eq_true rfl⟩ dX2_advance_110 ?_
                    refine lvz_if_eq (tgt := 252) hx hb dX2_advance_113 (by decide) (fun c_113 => ?_) (fun c_113 => ?_)
                    · skip
                      have hB : tokB (bu tb) T t = u := by first | exact hG.trans (if_neg c_113) | exact hG
                      subst hQ
                      exact wq_rv hx hb hr hlocks hP hS dX2_advance_252 rfl (by rw [hB, hE, hSo]; unfold numX; first | rw [if_neg hDi] | (rw [if_pos hDi, hMn]))
                    · skip
                      refine lv_aload_n hx hb dX2_advance_116 rfl (lv_at hl 0 rfl) ?_
                      refine lv_dup hx hb dX2_advance_117 rfl ?_
                      refine c_get (v := .int (nI u)) (C := RX2) (T := TX2) (N := 6) hx hb hts hin2 hown hK hP (31) (by decide) cE_tp rfl 4 (by decide) (Or.inl (hts (.fieldLink RX2 25 "PennyRoad$Tape" "next" "I") (by decide +kernel))) rfl dX2_advance_118 ?_
                      refine lv_iconst (v := nI 1) hx hb dX2_advance_121 (by decide) ?_
                      refine lvn_iadd hx hb dX2_advance_122 ?_
                      refine c_put (w' := (cw cy ad (rr p0 p1 p2) ke tb (nI T) (nI 1) (nI f) (nI (u + 1)) t5 sb ss sw fd)) (ty := .int) (C := RX2) (T := TX2) (N := 6) hx hb hts hin2 tyX2 tyX2_ok nmX2 hown hK hP hS (31) (by decide) cE_tp rfl 4 (by decide) (Or.inl (hts (.fieldLink RX2 25 "PennyRoad$Tape" "next" "I") (by decide +kernel))) rfl (by decide +kernel) rfl rfl (by show _ < 6; decide) cs_tp dX2_advance_123 (fun H locs hP hS => ?_)
                      refine lv_goto (tgt := 91) hx hb dX2_advance_126 (by decide) ?_
                      exact ih_91 (u + 1) _ _ ls (by omega) (hG.trans (if_pos c_113)) hP hS hl
              exact L_91 (T - f) f _ _ ls (by omega) (tokB_w hE (by omega) c_83) hP hS hl
          · skip
            exfalso; omega
        · skip
          refine lv_aload_n hx hb dX2_advance_32 rfl (lv_at hl 0 rfl) ?_
          refine lv_dup hx hb dX2_advance_33 rfl ?_
          refine c_get (v := .int (nI f)) (C := RX2) (T := TX2) (N := 6) hx hb hts hin2 hown hK hP (31) (by decide) cE_tp rfl 3 (by decide) (Or.inl (hts (.fieldLink RX2 22 "PennyRoad$Tape" "first" "I") (by decide +kernel))) rfl dX2_advance_34 ?_
          refine lv_iconst (v := nI 1) hx hb dX2_advance_37 (by decide) ?_
          refine lvn_iadd hx hb dX2_advance_38 ?_
          refine c_put (w' := (cw cy ad (rr p0 p1 p2) ke tb (nI T) t2 (nI (f + 1)) (nI t) t5 sb ss sw fd)) (ty := .int) (C := RX2) (T := TX2) (N := 6) hx hb hts hin2 tyX2 tyX2_ok nmX2 hown hK hP hS (31) (by decide) cE_tp rfl 3 (by decide) (Or.inl (hts (.fieldLink RX2 22 "PennyRoad$Tape" "first" "I") (by decide +kernel))) rfl (by decide +kernel) rfl rfl (by show _ < 6; decide) cs_tp dX2_advance_39 (fun H locs hP hS => ?_)
          refine lv_goto (tgt := 8) hx hb dX2_advance_42 (by decide) ?_
          exact ih_8 (f + 1) _ _ ls (by omega) (by omega) (hF.trans (if_pos c_29)) hP hS hl
  exact L_8 (T - t) t _ _ ls (by omega) (by omega) rfl hP hS hl
theorem i_X2_advance : ciOk yX2_advance cX2_advance 1 none wsX2_advance 0 := ⟨⟨_, rfl⟩, by decide +kernel⟩
