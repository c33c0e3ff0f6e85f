theorem lw_cmp {L i : Nat} (hL : L ≤ 3072) (hi : i ≤ 3072) (h : ¬ Int32.ofNat L - nI 6 < nI i) : i + 6 ≤ L := by
  rcases Nat.lt_or_ge L (i + 6) with q | q
  · exfalso
    apply h
    rw [Int32.lt_iff_toInt_lt]
    have e1 : (nI L - nI 6).toInt = (L : Int) - 6 := pk_sub_toInt (by omega) (by omega)
    have e2 : (nI i).toInt = (i : Int) := nI_toInt (by omega)
    show (nI L - nI 6).toInt < (nI i).toInt
    rw [e1, e2]
    omega
  · exact q
set_option maxHeartbeats 1000000 in
set_option maxRecDepth 100000 in
theorem law_loop {p : Program} {l : Launch} {e : Env} {s : State} {m : MethodId} {below : List Frame} {meth : Method} {c : Code} {b L : Nat} {xs : Nat → Int32} {D : va_G} {cy : Nat → ClassId} {ad am kq vq : Nat → Nat} (hL : L ≤ 3072) (C0 : lw_At p s m meth c b L xs) (hC : LCx D cy ad am kq vq s) : ∀ (n i : Nat), i ≤ L → L + 1 ≤ i + n → ∀ (H : Heap) (locs : List Loc) (ls : Array Slot), LSt D cy ad am H → va_S (fun q => s.heap.size ≤ q) s.heap H locs → lv_has ls 4 [(3, .int (nI i)), (0, .ref b), (1, .ref (ad 0)), (2, .ref (am 0))] → W p l e room_1 s m #[Value.ref b] below meth c H locs 54 1177 (lw_Z below #[Value.ref b] s) (F0 m 18 ls []) := by
  obtain ⟨hx, hb, hr, hml, hown, hts, hX, hbl, hlocks, hgv⟩ := id C0
  have hbA : ¬ (fun q : Nat => s.heap.size ≤ q) b := Nat.not_le.mpr hbl
  intro n
  induction n with
  | zero =>
    intro i h1 h2
    exact absurd h2 (by omega)
  | succ n ih =>
    intro i hi hn H locs ls hLS hS hl
    refine lv_iload_n hx hb dL_law_18 rfl (lv_at hl 0 rfl) ?_
    refine lv_aload_n hx hb dL_law_19 rfl (lv_at hl 1 rfl) ?_
    refine va_slen hx hb hX hbl hbA hS dL_law_20 ?_
    refine lv_bipush (v := nI 6) hx hb dL_law_21 (by decide) ?_
    refine lv_isub hx hb dL_law_23 ?_
    refine lv_icmp_gt (tgt := 1314) hx hb dL_law_24 (by decide) (fun q => ?_) (fun q => ?_)
    · refine lv_iconst (v := 1) hx hb dL_law_1314 (by decide) ?_
      refine va_forget (fun q hq => hS.2.2 q hq) ?_
      refine W.widen (k := 600000) (n := 7302250) (by omega) (by omega) ?_
      exact lw_ret hx hb hr hlocks dL_law_1315
    · have hi6 : i + 6 ≤ L := lw_cmp hL (by omega) q
      refine lv_aload_n hx hb dL_law_27 rfl (lv_at hl 1 rfl) ?_
      refine lv_iload_n hx hb dL_law_28 rfl (lv_at hl 0 rfl) ?_
      refine lq_sld hx hb hX hbl hbA hS (show i < L by omega) (by omega) dL_law_29 ?_
      refine lv_bipush (v := nI 63) hx hb dL_law_30 (by decide) ?_
      refine lv_iand hx hb dL_law_32 ?_
      have kk : ∀ (H1 : Heap) (locs1 : List Loc), LSt D cy ad am H1 → va_S (fun q => s.heap.size ≤ q) s.heap H1 locs1 → W p l e room_1 s m #[Value.ref b] below meth c H1 locs1 54 1177 (lw_Z below #[Value.ref b] s) (F0 m 1308 ls []) := fun H1 locs1 h1 h2 => by
        refine lv_iinc (v := nI (i + 6)) (lv' := [(3, .int (nI (i + 6))), (0, .ref b), (1, .ref (ad 0)), (2, .ref (am 0))]) hx hb dL_law_1308 hl (k := 0) rfl (nI_add _ _) (by decide) rfl (fun ls hl => ?_)
        refine lv_goto (tgt := 18) hx hb dL_law_1311 (by decide) ?_
        exact ih (i + 6) (by omega) (by omega) H1 locs1 ls h1 h2 hl
      generalize xs i &&& nI 63 = v
      by_cases g0 : v = nI 0
      · refine lv_tableIn (tgt := 196) hx hb dL_law_33 (by rw [g0]; decide) (by rw [g0]; decide) (by rw [g0]; rfl) (by decide) ?_
        exact law_road hL hi6 C0 hC hS hl hLS kk
      by_cases g1 : v = nI 1
      · refine lv_tableIn (tgt := 229) hx hb dL_law_33 (by rw [g1]; decide) (by rw [g1]; decide) (by rw [g1]; rfl) (by decide) ?_
        exact law_at hL hi6 C0 hC hS hl hLS kk
      by_cases g2 : v = nI 2
      · refine lv_tableIn (tgt := 252) hx hb dL_law_33 (by rw [g2]; decide) (by rw [g2]; decide) (by rw [g2]; rfl) (by decide) ?_
        exact law_walker hL hi6 C0 hC hS hl hLS kk
      by_cases g3 : v = nI 3
      · refine lv_tableIn (tgt := 285) hx hb dL_law_33 (by rw [g3]; decide) (by rw [g3]; decide) (by rw [g3]; rfl) (by decide) ?_
        exact law_of hL hi6 C0 hC hS hl hLS kk
      by_cases g4 : v = nI 4
      · refine lv_tableIn (tgt := 318) hx hb dL_law_33 (by rw [g4]; decide) (by rw [g4]; decide) (by rw [g4]; rfl) (by decide) ?_
        exact law_set hL hi6 C0 hC hS hl hLS kk
      by_cases g5 : v = nI 5
      · refine lv_tableIn (tgt := 361) hx hb dL_law_33 (by rw [g5]; decide) (by rw [g5]; decide) (by rw [g5]; rfl) (by decide) ?_
        exact law_turn hL hi6 C0 hC hS hl hLS kk
      by_cases g6 : v = nI 6
      · refine lv_tableIn (tgt := 394) hx hb dL_law_33 (by rw [g6]; decide) (by rw [g6]; decide) (by rw [g6]; rfl) (by decide) ?_
        exact law_as hL hi6 C0 hC hS hl hLS kk
      by_cases g7 : v = nI 7
      · refine lv_tableIn (tgt := 427) hx hb dL_law_33 (by rw [g7]; decide) (by rw [g7]; decide) (by rw [g7]; rfl) (by decide) ?_
        exact law_hours hL hi6 C0 hC hS hl hLS kk
      by_cases g8 : v = nI 8
      · refine lv_tableIn (tgt := 450) hx hb dL_law_33 (by rw [g8]; decide) (by rw [g8]; decide) (by rw [g8]; rfl) (by decide) ?_
        exact law_now hL hi6 C0 hC hS hl hLS kk
      by_cases g9 : v = nI 9
      · refine lv_tableIn (tgt := 473) hx hb dL_law_33 (by rw [g9]; decide) (by rw [g9]; decide) (by rw [g9]; rfl) (by decide) ?_
        exact law_on hL hi6 C0 hC hS hl hLS kk
      by_cases g10 : v = nI 10
      · refine lv_tableIn (tgt := 516) hx hb dL_law_33 (by rw [g10]; decide) (by rw [g10]; decide) (by rw [g10]; rfl) (by decide) ?_
        exact law_fund hL hi6 C0 hC hS hl hLS kk
      by_cases g11 : v = nI 11
      · refine lv_tableIn (tgt := 539) hx hb dL_law_33 (by rw [g11]; decide) (by rw [g11]; decide) (by rw [g11]; rfl) (by decide) ?_
        exact law_empty hL hi6 C0 hC hS hl hLS kk
      by_cases g12 : v = nI 12
      · refine lv_tableIn (tgt := 552) hx hb dL_law_33 (by rw [g12]; decide) (by rw [g12]; decide) (by rw [g12]; rfl) (by decide) ?_
        exact law_comes hL hi6 C0 hC hS hl hLS kk
      by_cases g13 : v = nI 13
      · refine lv_tableIn (tgt := 585) hx hb dL_law_33 (by rw [g13]; decide) (by rw [g13]; decide) (by rw [g13]; rfl) (by decide) ?_
        exact law_meet hL hi6 C0 hC hS hl hLS kk
      by_cases g14 : v = nI 14
      · refine lv_tableIn (tgt := 618) hx hb dL_law_33 (by rw [g14]; decide) (by rw [g14]; decide) (by rw [g14]; rfl) (by decide) ?_
        exact law_worn hL hi6 C0 hC hS hl hLS kk
      by_cases g15 : v = nI 15
      · refine lv_tableIn (tgt := 641) hx hb dL_law_33 (by rw [g15]; decide) (by rw [g15]; decide) (by rw [g15]; rfl) (by decide) ?_
        exact law_stop hL hi6 C0 hC hS hl hLS kk
      by_cases g16 : v = nI 16
      · refine lv_tableIn (tgt := 664) hx hb dL_law_33 (by rw [g16]; decide) (by rw [g16]; decide) (by rw [g16]; rfl) (by decide) ?_
        exact law_penny hL hi6 C0 hC hS hl hLS kk
      by_cases g17 : v = nI 17
      · refine lv_tableIn (tgt := 697) hx hb dL_law_33 (by rw [g17]; decide) (by rw [g17]; decide) (by rw [g17]; rfl) (by decide) ?_
        exact law_reason hL hi6 C0 hC hS hl hLS kk
      by_cases g18 : v = nI 18
      · refine lv_tableIn (tgt := 740) hx hb dL_law_33 (by rw [g18]; decide) (by rw [g18]; decide) (by rw [g18]; rfl) (by decide) ?_
        exact law_kind hL hi6 C0 hC hS hl hLS kk
      by_cases g19 : v = nI 19
      · refine lv_tableIn (tgt := 773) hx hb dL_law_33 (by rw [g19]; decide) (by rw [g19]; decide) (by rw [g19]; rfl) (by decide) ?_
        exact law_begin hL hi6 C0 hC hS hl hLS kk
      by_cases g20 : v = nI 20
      · refine lv_tableIn (tgt := 806) hx hb dL_law_33 (by rw [g20]; decide) (by rw [g20]; decide) (by rw [g20]; rfl) (by decide) ?_
        exact law_richest hL hi6 C0 hC hS hl hLS kk
      by_cases g21 : v = nI 21
      · refine lv_tableIn (tgt := 829) hx hb dL_law_33 (by rw [g21]; decide) (by rw [g21]; decide) (by rw [g21]; rfl) (by decide) ?_
        exact law_rival hL hi6 C0 hC hS hl hLS kk
      by_cases g22 : v = nI 22
      · refine lv_tableIn (tgt := 872) hx hb dL_law_33 (by rw [g22]; decide) (by rw [g22]; decide) (by rw [g22]; rfl) (by decide) ?_
        exact law_enough hL hi6 C0 hC hS hl hLS kk
      by_cases g23 : v = nI 23
      · refine lv_tableIn (tgt := 895) hx hb dL_law_33 (by rw [g23]; decide) (by rw [g23]; decide) (by rw [g23]; rfl) (by decide) ?_
        exact law_feed hL hi6 C0 hC hS hl hLS kk
      by_cases g24 : v = nI 24
      · refine lv_tableIn (tgt := 928) hx hb dL_law_33 (by rw [g24]; decide) (by rw [g24]; decide) (by rw [g24]; rfl) (by decide) ?_
        exact law_wipe hL hi6 C0 hC hS hl hLS kk
      by_cases g25 : v = nI 25
      · refine lv_tableIn (tgt := 941) hx hb dL_law_33 (by rw [g25]; decide) (by rw [g25]; decide) (by rw [g25]; rfl) (by decide) ?_
        exact law_text hL hi6 C0 hC hS hl hLS kk
      by_cases g26 : v = nI 26
      · refine lv_tableIn (tgt := 954) hx hb dL_law_33 (by rw [g26]; decide) (by rw [g26]; decide) (by rw [g26]; rfl) (by decide) ?_
        exact law_sheet hL hi6 C0 hC hS hl hLS kk
      by_cases g27 : v = nI 27
      · refine lv_tableIn (tgt := 997) hx hb dL_law_33 (by rw [g27]; decide) (by rw [g27]; decide) (by rw [g27]; rfl) (by decide) ?_
        exact law_write hL hi6 C0 hC hS hl hLS kk
      by_cases g28 : v = nI 28
      · refine lv_tableIn (tgt := 1071) hx hb dL_law_33 (by rw [g28]; decide) (by rw [g28]; decide) (by rw [g28]; rfl) (by decide) ?_
        exact law_copy hL hi6 C0 hC hS hl hLS kk
      by_cases g29 : v = nI 29
      · refine lv_tableIn (tgt := 1134) hx hb dL_law_33 (by rw [g29]; decide) (by rw [g29]; decide) (by rw [g29]; rfl) (by decide) ?_
        exact law_lays hL hi6 C0 hC hS hl hLS kk
      by_cases g30 : v = nI 30
      · refine lv_tableIn (tgt := 1157) hx hb dL_law_33 (by rw [g30]; decide) (by rw [g30]; decide) (by rw [g30]; rfl) (by decide) ?_
        exact law_book hL hi6 C0 hC hS hl hLS kk
      by_cases g31 : v = nI 31
      · refine lv_tableIn (tgt := 1190) hx hb dL_law_33 (by rw [g31]; decide) (by rw [g31]; decide) (by rw [g31]; rfl) (by decide) ?_
        exact law_read hL hi6 C0 hC hS hl hLS kk
      by_cases g32 : v = nI 32
      · refine lv_tableIn (tgt := 1223) hx hb dL_law_33 (by rw [g32]; decide) (by rw [g32]; decide) (by rw [g32]; rfl) (by decide) ?_
        exact law_image hL hi6 C0 hC hS hl hLS kk
      by_cases g33 : v = nI 33
      · refine lv_tableIn (tgt := 1236) hx hb dL_law_33 (by rw [g33]; decide) (by rw [g33]; decide) (by rw [g33]; rfl) (by decide) ?_
        exact law_undo hL hi6 C0 hC hS hl hLS kk
      by_cases g34 : v = nI 34
      · refine lv_tableIn (tgt := 1249) hx hb dL_law_33 (by rw [g34]; decide) (by rw [g34]; decide) (by rw [g34]; rfl) (by decide) ?_
        exact law_tear hL hi6 C0 hC hS hl hLS kk
      by_cases g35 : v = nI 35
      · refine lv_tableIn (tgt := 1262) hx hb dL_law_33 (by rw [g35]; decide) (by rw [g35]; decide) (by rw [g35]; rfl) (by decide) ?_
        exact law_count hL hi6 C0 hC hS hl hLS kk
      by_cases g36 : v = nI 36
      · refine lv_tableIn (tgt := 1285) hx hb dL_law_33 (by rw [g36]; decide) (by rw [g36]; decide) (by rw [g36]; rfl) (by decide) ?_
        exact law_status hL hi6 C0 hC hS hl hLS kk
      refine lv_tableOut (tgt := 1308) hx hb dL_law_33 (by have h0 : v.toInt ≠ 0 := ne_int g0; have h1 : v.toInt ≠ 1 := ne_int g1; have h2 : v.toInt ≠ 2 := ne_int g2; have h3 : v.toInt ≠ 3 := ne_int g3; have h4 : v.toInt ≠ 4 := ne_int g4; have h5 : v.toInt ≠ 5 := ne_int g5; have h6 : v.toInt ≠ 6 := ne_int g6; have h7 : v.toInt ≠ 7 := ne_int g7; have h8 : v.toInt ≠ 8 := ne_int g8; have h9 : v.toInt ≠ 9 := ne_int g9; have h10 : v.toInt ≠ 10 := ne_int g10; have h11 : v.toInt ≠ 11 := ne_int g11; have h12 : v.toInt ≠ 12 := ne_int g12; have h13 : v.toInt ≠ 13 := ne_int g13; have h14 : v.toInt ≠ 14 := ne_int g14; have h15 : v.toInt ≠ 15 := ne_int g15; have h16 : v.toInt ≠ 16 := ne_int g16; have h17 : v.toInt ≠ 17 := ne_int g17; have h18 : v.toInt ≠ 18 := ne_int g18; have h19 : v.toInt ≠ 19 := ne_int g19; have h20 : v.toInt ≠ 20 := ne_int g20; have h21 : v.toInt ≠ 21 := ne_int g21; have h22 : v.toInt ≠ 22 := ne_int g22; have h23 : v.toInt ≠ 23 := ne_int g23; have h24 : v.toInt ≠ 24 := ne_int g24; have h25 : v.toInt ≠ 25 := ne_int g25; have h26 : v.toInt ≠ 26 := ne_int g26; have h27 : v.toInt ≠ 27 := ne_int g27; have h28 : v.toInt ≠ 28 := ne_int g28; have h29 : v.toInt ≠ 29 := ne_int g29; have h30 : v.toInt ≠ 30 := ne_int g30; have h31 : v.toInt ≠ 31 := ne_int g31; have h32 : v.toInt ≠ 32 := ne_int g32; have h33 : v.toInt ≠ 33 := ne_int g33; have h34 : v.toInt ≠ 34 := ne_int g34; have h35 : v.toInt ≠ 35 := ne_int g35; have h36 : v.toInt ≠ 36 := ne_int g36; omega) (by decide) ?_
      exact kk H locs hLS hS
