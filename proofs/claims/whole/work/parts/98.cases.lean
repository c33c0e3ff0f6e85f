set_option maxHeartbeats 1000000 in
set_option maxRecDepth 100000 in
theorem law_road {p : Program} {l : Launch} {e : Env} {s : State} {m : MethodId} {below : List Frame} {meth : Method} {c : Code} {b L : Nat} {xs : Nat → Int32} {D : va_G} {cy : Nat → ClassId} {ad am kq vq : Nat → Nat} {Q : State → Prop} {i : Nat} {H : Heap} {locs : List Loc} {ls : Array Slot} (hL : L ≤ 3072) (hi : i + 6 ≤ L) (C0 : lw_At p s m meth c b L xs) (hC : LCx D cy ad am kq vq s) (hS : va_S (fun q => s.heap.size ≤ q) s.heap H locs) (hl : lv_has ls 4 [(3, .int (nI i)), (0, .ref b), (1, .ref (ad 0)), (2, .ref (am 0))]) (hLS : LSt D cy ad am H) (kk : ∀ (H1 : Heap) (locs1 : List Loc), LSt D cy ad am H1 → va_S (fun q => s.heap.size ≤ q) s.heap H1 locs1 → W p l e room_1 s m #[Value.ref b] below meth c H1 locs1 54 1177 Q (F0 m 1308 ls [])) : W p l e room_1 s m #[Value.ref b] below meth c H locs 54 1177 Q (F0 m 196 ls []) := by
  obtain ⟨hx, hb, hr, hml, hown, hts, hX, hbl, hlocks, hgv⟩ := id C0
  have hown : s.vm.findClass RL = some m.cls := hown
  have hbA : ¬ (fun q : Nat => s.heap.size ≤ q) b := Nat.not_le.mpr hbl
  have S : CallFix p m c cL_law 4 s #[Value.ref b] wsL_law RL := ⟨hx, hb, hml, hown, fun w h => hts w (wsL_law_in w h)⟩
  obtain ⟨hKc, hKm, hTg, hds, hcA, hmA⟩ := hC
  obtain ⟨p0, p1, p2, ke, tb, t1, t2, t3, t4, t5, sb, ss, sw, fd, sr, kS, ot, asd, stt, ik, tp, td, fr, tt, vl, wr, bo, so, nu, mv, hPc, hPm, hRel⟩ := hLS
  obtain ⟨N, h8, hN, hA, hR⟩ := hRel.1
  obtain ⟨N2, k8, kN, kk2⟩ := hRel.2.1
  obtain ⟨T, hT2, rfl, rfl⟩ := hRel.2.2.2.2.1
  have hNs : sr 0 = nI N := (hA 0 (by omega)).symm.trans hN
  have hz : ∀ t, t < 4 → ∃ z : Nat, z ≤ 40 ∧ ss t = nI z := fun t ht => (hRel.2.2.2.2.2.2.1 t ht).2.2
  have hzs : ∀ t, t < 4 → ∃ z : Nat, z ≤ 40 ∧ so t = nI z := fun t ht => by
    obtain ⟨-, e1, z, e2, e3⟩ := hRel.2.2.2.2.2.2.1 t ht
    exact ⟨z, e2, e1.symm.trans e3⟩
  refine lv_aload_n hx hb dL_law_196 rfl (lv_at hl 2 rfl) ?_
  refine lv_aload_n hx hb dL_law_197 rfl (lv_at hl 1 rfl) ?_
  refine lv_iload_n hx hb dL_law_198 rfl (lv_at hl 0 rfl) ?_
  refine lv_iconst (v := nI 1) hx hb dL_law_199 (by decide) ?_
  refine lvn_iadd hx hb dL_law_200 ?_
  refine lq_sld hx hb hX hbl hbA hS (show i + 1 < L by omega) (by omega) dL_law_201 ?_
  refine lv_aload_n hx hb dL_law_202 rfl (lv_at hl 1 rfl) ?_
  refine lv_iload_n hx hb dL_law_203 rfl (lv_at hl 0 rfl) ?_
  refine lv_iconst (v := nI 2) hx hb dL_law_204 (by decide) ?_
  refine lvn_iadd hx hb dL_law_205 ?_
  refine lq_sld hx hb hX hbl hbA hS (show i + 2 < L by omega) (by omega) dL_law_206 ?_
  refine lq_C S hKc hPc hS hcA (c_X4_road) gL_law_X4_road i_X4_road rfl ⟨Nat.le_of_ble_eq_true rfl, Nat.le_of_ble_eq_true rfl⟩ rfl hl.1 (As := [.int (xs (i + 1)), .int (xs (i + 2))]) (rest := []) rfl (Nat.le_of_ble_eq_true rfl) ⟨Nat.le_of_ble_eq_true rfl, Nat.le_of_ble_eq_true rfl⟩ dL_law_207 (fun p1q t2q t3q t4q t5q H1 locs1 hPc hk hS => ?_)
  have hPm := keepM hds hPm hk
  refine lv_aload_n hx hb dL_law_210 rfl (lv_at hl 3 rfl) ?_
  refine lv_aload_n hx hb dL_law_211 rfl (lv_at hl 1 rfl) ?_
  refine lv_iload_n hx hb dL_law_212 rfl (lv_at hl 0 rfl) ?_
  refine lv_iconst (v := nI 1) hx hb dL_law_213 (by decide) ?_
  refine lvn_iadd hx hb dL_law_214 ?_
  refine lq_sld hx hb hX hbl hbA hS (show i + 1 < L by omega) (by omega) dL_law_215 ?_
  refine lv_aload_n hx hb dL_law_216 rfl (lv_at hl 1 rfl) ?_
  refine lv_iload_n hx hb dL_law_217 rfl (lv_at hl 0 rfl) ?_
  refine lv_iconst (v := nI 2) hx hb dL_law_218 (by decide) ?_
  refine lvn_iadd hx hb dL_law_219 ?_
  refine lq_sld hx hb hX hbl hbA hS (show i + 2 < L by omega) (by omega) dL_law_220 ?_
  refine lq_M S hKm hPm hS hmA (c_X5_road) gL_law_X5_road i_X5_road rfl ⟨Nat.le_of_ble_eq_true rfl, Nat.le_of_ble_eq_true rfl⟩ rfl hl.1 (As := [.int (xs (i + 1)), .int (xs (i + 2))]) rfl (Nat.le_of_ble_eq_true rfl) ⟨Nat.le_of_ble_eq_true rfl, Nat.le_of_ble_eq_true rfl⟩ dL_law_221 (fun otq asdq frq ttq vlq wrq mvq H2 locs2 hPm hk hS => ?_)
  have hPc := keepC hds hPc hk
  have hs := sim_road hRel h8 hN hA hR (q := xs (i + 1)) (v := xs (i + 2))
  refine lv_icmp_eq (tgt := 1308) hx hb dL_law_224 (by decide) (fun _ => kk _ _ ⟨_, _, _, _, _, _, _, _, _, _, _, _, _, _, _, _, _, _, _, _, _, _, _, _, _, _, _, _, _, _, hPc, hPm, hs.2⟩ hS) (fun q => absurd (Value.int.inj (Option.some.inj hs.1)) q)
set_option maxHeartbeats 1000000 in
set_option maxRecDepth 100000 in
theorem law_at {p : Program} {l : Launch} {e : Env} {s : State} {m : MethodId} {below : List Frame} {meth : Method} {c : Code} {b L : Nat} {xs : Nat → Int32} {D : va_G} {cy : Nat → ClassId} {ad am kq vq : Nat → Nat} {Q : State → Prop} {i : Nat} {H : Heap} {locs : List Loc} {ls : Array Slot} (hL : L ≤ 3072) (hi : i + 6 ≤ L) (C0 : lw_At p s m meth c b L xs) (hC : LCx D cy ad am kq vq s) (hS : va_S (fun q => s.heap.size ≤ q) s.heap H locs) (hl : lv_has ls 4 [(3, .int (nI i)), (0, .ref b), (1, .ref (ad 0)), (2, .ref (am 0))]) (hLS : LSt D cy ad am H) (kk : ∀ (H1 : Heap) (locs1 : List Loc), LSt D cy ad am H1 → va_S (fun q => s.heap.size ≤ q) s.heap H1 locs1 → W p l e room_1 s m #[Value.ref b] below meth c H1 locs1 54 1177 Q (F0 m 1308 ls [])) : W p l e room_1 s m #[Value.ref b] below meth c H locs 54 1177 Q (F0 m 229 ls []) := by
  obtain ⟨hx, hb, hr, hml, hown, hts, hX, hbl, hlocks, hgv⟩ := id C0
  have hown : s.vm.findClass RL = some m.cls := hown
  have hbA : ¬ (fun q : Nat => s.heap.size ≤ q) b := Nat.not_le.mpr hbl
  have S : CallFix p m c cL_law 4 s #[Value.ref b] wsL_law RL := ⟨hx, hb, hml, hown, fun w h => hts w (wsL_law_in w h)⟩
  obtain ⟨hKc, hKm, hTg, hds, hcA, hmA⟩ := hC
  obtain ⟨p0, p1, p2, ke, tb, t1, t2, t3, t4, t5, sb, ss, sw, fd, sr, kS, ot, asd, stt, ik, tp, td, fr, tt, vl, wr, bo, so, nu, mv, hPc, hPm, hRel⟩ := hLS
  obtain ⟨N, h8, hN, hA, hR⟩ := hRel.1
  obtain ⟨N2, k8, kN, kk2⟩ := hRel.2.1
  obtain ⟨T, hT2, rfl, rfl⟩ := hRel.2.2.2.2.1
  have hNs : sr 0 = nI N := (hA 0 (by omega)).symm.trans hN
  have hz : ∀ t, t < 4 → ∃ z : Nat, z ≤ 40 ∧ ss t = nI z := fun t ht => (hRel.2.2.2.2.2.2.1 t ht).2.2
  have hzs : ∀ t, t < 4 → ∃ z : Nat, z ≤ 40 ∧ so t = nI z := fun t ht => by
    obtain ⟨-, e1, z, e2, e3⟩ := hRel.2.2.2.2.2.2.1 t ht
    exact ⟨z, e2, e1.symm.trans e3⟩
  refine lv_aload_n hx hb dL_law_229 rfl (lv_at hl 2 rfl) ?_
  refine lv_aload_n hx hb dL_law_230 rfl (lv_at hl 1 rfl) ?_
  refine lv_iload_n hx hb dL_law_231 rfl (lv_at hl 0 rfl) ?_
  refine lv_iconst (v := nI 1) hx hb dL_law_232 (by decide) ?_
  refine lvn_iadd hx hb dL_law_233 ?_
  refine lq_sld hx hb hX hbl hbA hS (show i + 1 < L by omega) (by omega) dL_law_234 ?_
  refine lq_C S hKc hPc hS hcA (c_X4_at hN h8) gL_law_X4_at i_X4_at rfl ⟨Nat.le_of_ble_eq_true rfl, Nat.le_of_ble_eq_true rfl⟩ rfl hl.1 (As := [.int (xs (i + 1))]) (rest := []) rfl (Nat.le_of_ble_eq_true rfl) ⟨Nat.le_of_ble_eq_true rfl, Nat.le_of_ble_eq_true rfl⟩ dL_law_235 (fun p1q t2q t3q t4q t5q H1 locs1 hPc hk hS => ?_)
  have hPm := keepM hds hPm hk
  refine lv_aload_n hx hb dL_law_238 rfl (lv_at hl 3 rfl) ?_
  refine lv_aload_n hx hb dL_law_239 rfl (lv_at hl 1 rfl) ?_
  refine lv_iload_n hx hb dL_law_240 rfl (lv_at hl 0 rfl) ?_
  refine lv_iconst (v := nI 1) hx hb dL_law_241 (by decide) ?_
  refine lvn_iadd hx hb dL_law_242 ?_
  refine lq_sld hx hb hX hbl hbA hS (show i + 1 < L by omega) (by omega) dL_law_243 ?_
  refine lq_M S hKm hPm hS hmA (c_X5_at hNs h8) gL_law_X5_at i_X5_at rfl ⟨Nat.le_of_ble_eq_true rfl, Nat.le_of_ble_eq_true rfl⟩ rfl hl.1 (As := [.int (xs (i + 1))]) rfl (Nat.le_of_ble_eq_true rfl) ⟨Nat.le_of_ble_eq_true rfl, Nat.le_of_ble_eq_true rfl⟩ dL_law_244 (fun otq asdq frq ttq vlq wrq mvq H2 locs2 hPm hk hS => ?_)
  have hPc := keepC hds hPc hk
  have hs := sim_at hRel h8 hN hA hR (q := xs (i + 1))
  refine lv_icmp_eq (tgt := 1308) hx hb dL_law_247 (by decide) (fun _ => kk _ _ ⟨_, _, _, _, _, _, _, _, _, _, _, _, _, _, _, _, _, _, _, _, _, _, _, _, _, _, _, _, _, _, hPc, hPm, hs.2⟩ hS) (fun q => absurd (Value.int.inj (Option.some.inj hs.1)) q)
set_option maxHeartbeats 1000000 in
set_option maxRecDepth 100000 in
theorem law_walker {p : Program} {l : Launch} {e : Env} {s : State} {m : MethodId} {below : List Frame} {meth : Method} {c : Code} {b L : Nat} {xs : Nat → Int32} {D : va_G} {cy : Nat → ClassId} {ad am kq vq : Nat → Nat} {Q : State → Prop} {i : Nat} {H : Heap} {locs : List Loc} {ls : Array Slot} (hL : L ≤ 3072) (hi : i + 6 ≤ L) (C0 : lw_At p s m meth c b L xs) (hC : LCx D cy ad am kq vq s) (hS : va_S (fun q => s.heap.size ≤ q) s.heap H locs) (hl : lv_has ls 4 [(3, .int (nI i)), (0, .ref b), (1, .ref (ad 0)), (2, .ref (am 0))]) (hLS : LSt D cy ad am H) (kk : ∀ (H1 : Heap) (locs1 : List Loc), LSt D cy ad am H1 → va_S (fun q => s.heap.size ≤ q) s.heap H1 locs1 → W p l e room_1 s m #[Value.ref b] below meth c H1 locs1 54 1177 Q (F0 m 1308 ls [])) : W p l e room_1 s m #[Value.ref b] below meth c H locs 54 1177 Q (F0 m 252 ls []) := by
  obtain ⟨hx, hb, hr, hml, hown, hts, hX, hbl, hlocks, hgv⟩ := id C0
  have hown : s.vm.findClass RL = some m.cls := hown
  have hbA : ¬ (fun q : Nat => s.heap.size ≤ q) b := Nat.not_le.mpr hbl
  have S : CallFix p m c cL_law 4 s #[Value.ref b] wsL_law RL := ⟨hx, hb, hml, hown, fun w h => hts w (wsL_law_in w h)⟩
  obtain ⟨hKc, hKm, hTg, hds, hcA, hmA⟩ := hC
  obtain ⟨p0, p1, p2, ke, tb, t1, t2, t3, t4, t5, sb, ss, sw, fd, sr, kS, ot, asd, stt, ik, tp, td, fr, tt, vl, wr, bo, so, nu, mv, hPc, hPm, hRel⟩ := hLS
  obtain ⟨N, h8, hN, hA, hR⟩ := hRel.1
  obtain ⟨N2, k8, kN, kk2⟩ := hRel.2.1
  obtain ⟨T, hT2, rfl, rfl⟩ := hRel.2.2.2.2.1
  have hNs : sr 0 = nI N := (hA 0 (by omega)).symm.trans hN
  have hz : ∀ t, t < 4 → ∃ z : Nat, z ≤ 40 ∧ ss t = nI z := fun t ht => (hRel.2.2.2.2.2.2.1 t ht).2.2
  have hzs : ∀ t, t < 4 → ∃ z : Nat, z ≤ 40 ∧ so t = nI z := fun t ht => by
    obtain ⟨-, e1, z, e2, e3⟩ := hRel.2.2.2.2.2.2.1 t ht
    exact ⟨z, e2, e1.symm.trans e3⟩
  refine lv_aload_n hx hb dL_law_252 rfl (lv_at hl 2 rfl) ?_
  refine lv_aload_n hx hb dL_law_253 rfl (lv_at hl 1 rfl) ?_
  refine lv_iload_n hx hb dL_law_254 rfl (lv_at hl 0 rfl) ?_
  refine lv_iconst (v := nI 1) hx hb dL_law_255 (by decide) ?_
  refine lvn_iadd hx hb dL_law_256 ?_
  refine lq_sld hx hb hX hbl hbA hS (show i + 1 < L by omega) (by omega) dL_law_257 ?_
  refine lv_aload_n hx hb dL_law_258 rfl (lv_at hl 1 rfl) ?_
  refine lv_iload_n hx hb dL_law_259 rfl (lv_at hl 0 rfl) ?_
  refine lv_iconst (v := nI 2) hx hb dL_law_260 (by decide) ?_
  refine lvn_iadd hx hb dL_law_261 ?_
  refine lq_sld hx hb hX hbl hbA hS (show i + 2 < L by omega) (by omega) dL_law_262 ?_
  refine lq_C S hKc hPc hS hcA (c_X4_walker hN h8) gL_law_X4_walker i_X4_walker rfl ⟨Nat.le_of_ble_eq_true rfl, Nat.le_of_ble_eq_true rfl⟩ rfl hl.1 (As := [.int (xs (i + 1)), .int (xs (i + 2))]) (rest := []) rfl (Nat.le_of_ble_eq_true rfl) ⟨Nat.le_of_ble_eq_true rfl, Nat.le_of_ble_eq_true rfl⟩ dL_law_263 (fun p1q t2q t3q t4q t5q H1 locs1 hPc hk hS => ?_)
  have hPm := keepM hds hPm hk
  refine lv_aload_n hx hb dL_law_266 rfl (lv_at hl 3 rfl) ?_
  refine lv_aload_n hx hb dL_law_267 rfl (lv_at hl 1 rfl) ?_
  refine lv_iload_n hx hb dL_law_268 rfl (lv_at hl 0 rfl) ?_
  refine lv_iconst (v := nI 1) hx hb dL_law_269 (by decide) ?_
  refine lvn_iadd hx hb dL_law_270 ?_
  refine lq_sld hx hb hX hbl hbA hS (show i + 1 < L by omega) (by omega) dL_law_271 ?_
  refine lv_aload_n hx hb dL_law_272 rfl (lv_at hl 1 rfl) ?_
  refine lv_iload_n hx hb dL_law_273 rfl (lv_at hl 0 rfl) ?_
  refine lv_iconst (v := nI 2) hx hb dL_law_274 (by decide) ?_
  refine lvn_iadd hx hb dL_law_275 ?_
  refine lq_sld hx hb hX hbl hbA hS (show i + 2 < L by omega) (by omega) dL_law_276 ?_
  refine lq_M S hKm hPm hS hmA (c_X5_walker hNs h8) gL_law_X5_walker i_X5_walker rfl ⟨Nat.le_of_ble_eq_true rfl, Nat.le_of_ble_eq_true rfl⟩ rfl hl.1 (As := [.int (xs (i + 1)), .int (xs (i + 2))]) rfl (Nat.le_of_ble_eq_true rfl) ⟨Nat.le_of_ble_eq_true rfl, Nat.le_of_ble_eq_true rfl⟩ dL_law_277 (fun otq asdq frq ttq vlq wrq mvq H2 locs2 hPm hk hS => ?_)
  have hPc := keepC hds hPc hk
  have hs := sim_walker hRel h8 hN hA hR (q := xs (i + 1)) (o := xs (i + 2))
  refine lv_icmp_eq (tgt := 1308) hx hb dL_law_280 (by decide) (fun _ => kk _ _ ⟨_, _, _, _, _, _, _, _, _, _, _, _, _, _, _, _, _, _, _, _, _, _, _, _, _, _, _, _, _, _, hPc, hPm, hs.2⟩ hS) (fun q => absurd (Value.int.inj (Option.some.inj hs.1)) q)
set_option maxHeartbeats 1000000 in
set_option maxRecDepth 100000 in
theorem law_of {p : Program} {l : Launch} {e : Env} {s : State} {m : MethodId} {below : List Frame} {meth : Method} {c : Code} {b L : Nat} {xs : Nat → Int32} {D : va_G} {cy : Nat → ClassId} {ad am kq vq : Nat → Nat} {Q : State → Prop} {i : Nat} {H : Heap} {locs : List Loc} {ls : Array Slot} (hL : L ≤ 3072) (hi : i + 6 ≤ L) (C0 : lw_At p s m meth c b L xs) (hC : LCx D cy ad am kq vq s) (hS : va_S (fun q => s.heap.size ≤ q) s.heap H locs) (hl : lv_has ls 4 [(3, .int (nI i)), (0, .ref b), (1, .ref (ad 0)), (2, .ref (am 0))]) (hLS : LSt D cy ad am H) (kk : ∀ (H1 : Heap) (locs1 : List Loc), LSt D cy ad am H1 → va_S (fun q => s.heap.size ≤ q) s.heap H1 locs1 → W p l e room_1 s m #[Value.ref b] below meth c H1 locs1 54 1177 Q (F0 m 1308 ls [])) : W p l e room_1 s m #[Value.ref b] below meth c H locs 54 1177 Q (F0 m 285 ls []) := by
  obtain ⟨hx, hb, hr, hml, hown, hts, hX, hbl, hlocks, hgv⟩ := id C0
  have hown : s.vm.findClass RL = some m.cls := hown
  have hbA : ¬ (fun q : Nat => s.heap.size ≤ q) b := Nat.not_le.mpr hbl
  have S : CallFix p m c cL_law 4 s #[Value.ref b] wsL_law RL := ⟨hx, hb, hml, hown, fun w h => hts w (wsL_law_in w h)⟩
  obtain ⟨hKc, hKm, hTg, hds, hcA, hmA⟩ := hC
  obtain ⟨p0, p1, p2, ke, tb, t1, t2, t3, t4, t5, sb, ss, sw, fd, sr, kS, ot, asd, stt, ik, tp, td, fr, tt, vl, wr, bo, so, nu, mv, hPc, hPm, hRel⟩ := hLS
  obtain ⟨N, h8, hN, hA, hR⟩ := hRel.1
  obtain ⟨N2, k8, kN, kk2⟩ := hRel.2.1
  obtain ⟨T, hT2, rfl, rfl⟩ := hRel.2.2.2.2.1
  have hNs : sr 0 = nI N := (hA 0 (by omega)).symm.trans hN
  have hz : ∀ t, t < 4 → ∃ z : Nat, z ≤ 40 ∧ ss t = nI z := fun t ht => (hRel.2.2.2.2.2.2.1 t ht).2.2
  have hzs : ∀ t, t < 4 → ∃ z : Nat, z ≤ 40 ∧ so t = nI z := fun t ht => by
    obtain ⟨-, e1, z, e2, e3⟩ := hRel.2.2.2.2.2.2.1 t ht
    exact ⟨z, e2, e1.symm.trans e3⟩
  refine lv_aload_n hx hb dL_law_285 rfl (lv_at hl 2 rfl) ?_
  refine lv_aload_n hx hb dL_law_286 rfl (lv_at hl 1 rfl) ?_
  refine lv_iload_n hx hb dL_law_287 rfl (lv_at hl 0 rfl) ?_
  refine lv_iconst (v := nI 1) hx hb dL_law_288 (by decide) ?_
  refine lvn_iadd hx hb dL_law_289 ?_
  refine lq_sld hx hb hX hbl hbA hS (show i + 1 < L by omega) (by omega) dL_law_290 ?_
  refine lv_aload_n hx hb dL_law_291 rfl (lv_at hl 1 rfl) ?_
  refine lv_iload_n hx hb dL_law_292 rfl (lv_at hl 0 rfl) ?_
  refine lv_iconst (v := nI 2) hx hb dL_law_293 (by decide) ?_
  refine lvn_iadd hx hb dL_law_294 ?_
  refine lq_sld hx hb hX hbl hbA hS (show i + 2 < L by omega) (by omega) dL_law_295 ?_
  refine lq_C S hKc hPc hS hcA (c_X4_of hN h8) gL_law_X4_of i_X4_of rfl ⟨Nat.le_of_ble_eq_true rfl, Nat.le_of_ble_eq_true rfl⟩ rfl hl.1 (As := [.int (xs (i + 1)), .int (xs (i + 2))]) (rest := []) rfl (Nat.le_of_ble_eq_true rfl) ⟨Nat.le_of_ble_eq_true rfl, Nat.le_of_ble_eq_true rfl⟩ dL_law_296 (fun p1q t2q t3q t4q t5q H1 locs1 hPc hk hS => ?_)
  have hPm := keepM hds hPm hk
  refine lv_aload_n hx hb dL_law_299 rfl (lv_at hl 3 rfl) ?_
  refine lv_aload_n hx hb dL_law_300 rfl (lv_at hl 1 rfl) ?_
  refine lv_iload_n hx hb dL_law_301 rfl (lv_at hl 0 rfl) ?_
  refine lv_iconst (v := nI 1) hx hb dL_law_302 (by decide) ?_
  refine lvn_iadd hx hb dL_law_303 ?_
  refine lq_sld hx hb hX hbl hbA hS (show i + 1 < L by omega) (by omega) dL_law_304 ?_
  refine lv_aload_n hx hb dL_law_305 rfl (lv_at hl 1 rfl) ?_
  refine lv_iload_n hx hb dL_law_306 rfl (lv_at hl 0 rfl) ?_
  refine lv_iconst (v := nI 2) hx hb dL_law_307 (by decide) ?_
  refine lvn_iadd hx hb dL_law_308 ?_
  refine lq_sld hx hb hX hbl hbA hS (show i + 2 < L by omega) (by omega) dL_law_309 ?_
  refine lq_M S hKm hPm hS hmA (c_X5_of hNs h8) gL_law_X5_of i_X5_of rfl ⟨Nat.le_of_ble_eq_true rfl, Nat.le_of_ble_eq_true rfl⟩ rfl hl.1 (As := [.int (xs (i + 1)), .int (xs (i + 2))]) rfl (Nat.le_of_ble_eq_true rfl) ⟨Nat.le_of_ble_eq_true rfl, Nat.le_of_ble_eq_true rfl⟩ dL_law_310 (fun otq asdq frq ttq vlq wrq mvq H2 locs2 hPm hk hS => ?_)
  have hPc := keepC hds hPc hk
  have hs := sim_of hRel h8 hN hA hR (q := xs (i + 1)) (o := xs (i + 2))
  refine lv_icmp_eq (tgt := 1308) hx hb dL_law_313 (by decide) (fun _ => kk _ _ ⟨_, _, _, _, _, _, _, _, _, _, _, _, _, _, _, _, _, _, _, _, _, _, _, _, _, _, _, _, _, _, hPc, hPm, hs.2⟩ hS) (fun q => absurd (Value.int.inj (Option.some.inj hs.1)) q)
set_option maxHeartbeats 1000000 in
set_option maxRecDepth 100000 in
theorem law_set {p : Program} {l : Launch} {e : Env} {s : State} {m : MethodId} {below : List Frame} {meth : Method} {c : Code} {b L : Nat} {xs : Nat → Int32} {D : va_G} {cy : Nat → ClassId} {ad am kq vq : Nat → Nat} {Q : State → Prop} {i : Nat} {H : Heap} {locs : List Loc} {ls : Array Slot} (hL : L ≤ 3072) (hi : i + 6 ≤ L) (C0 : lw_At p s m meth c b L xs) (hC : LCx D cy ad am kq vq s) (hS : va_S (fun q => s.heap.size ≤ q) s.heap H locs) (hl : lv_has ls 4 [(3, .int (nI i)), (0, .ref b), (1, .ref (ad 0)), (2, .ref (am 0))]) (hLS : LSt D cy ad am H) (kk : ∀ (H1 : Heap) (locs1 : List Loc), LSt D cy ad am H1 → va_S (fun q => s.heap.size ≤ q) s.heap H1 locs1 → W p l e room_1 s m #[Value.ref b] below meth c H1 locs1 54 1177 Q (F0 m 1308 ls [])) : W p l e room_1 s m #[Value.ref b] below meth c H locs 54 1177 Q (F0 m 318 ls []) := by
  obtain ⟨hx, hb, hr, hml, hown, hts, hX, hbl, hlocks, hgv⟩ := id C0
  have hown : s.vm.findClass RL = some m.cls := hown
  have hbA : ¬ (fun q : Nat => s.heap.size ≤ q) b := Nat.not_le.mpr hbl
  have S : CallFix p m c cL_law 4 s #[Value.ref b] wsL_law RL := ⟨hx, hb, hml, hown, fun w h => hts w (wsL_law_in w h)⟩
  obtain ⟨hKc, hKm, hTg, hds, hcA, hmA⟩ := hC
  obtain ⟨p0, p1, p2, ke, tb, t1, t2, t3, t4, t5, sb, ss, sw, fd, sr, kS, ot, asd, stt, ik, tp, td, fr, tt, vl, wr, bo, so, nu, mv, hPc, hPm, hRel⟩ := hLS
  obtain ⟨N, h8, hN, hA, hR⟩ := hRel.1
  obtain ⟨N2, k8, kN, kk2⟩ := hRel.2.1
  obtain ⟨T, hT2, rfl, rfl⟩ := hRel.2.2.2.2.1
  have hNs : sr 0 = nI N := (hA 0 (by omega)).symm.trans hN
  have hz : ∀ t, t < 4 → ∃ z : Nat, z ≤ 40 ∧ ss t = nI z := fun t ht => (hRel.2.2.2.2.2.2.1 t ht).2.2
  have hzs : ∀ t, t < 4 → ∃ z : Nat, z ≤ 40 ∧ so t = nI z := fun t ht => by
    obtain ⟨-, e1, z, e2, e3⟩ := hRel.2.2.2.2.2.2.1 t ht
    exact ⟨z, e2, e1.symm.trans e3⟩
  refine lv_aload_n hx hb dL_law_318 rfl (lv_at hl 2 rfl) ?_
  refine lv_aload_n hx hb dL_law_319 rfl (lv_at hl 1 rfl) ?_
  refine lv_iload_n hx hb dL_law_320 rfl (lv_at hl 0 rfl) ?_
  refine lv_iconst (v := nI 1) hx hb dL_law_321 (by decide) ?_
  refine lvn_iadd hx hb dL_law_322 ?_
  refine lq_sld hx hb hX hbl hbA hS (show i + 1 < L by omega) (by omega) dL_law_323 ?_
  refine lv_aload_n hx hb dL_law_324 rfl (lv_at hl 1 rfl) ?_
  refine lv_iload_n hx hb dL_law_325 rfl (lv_at hl 0 rfl) ?_
  refine lv_iconst (v := nI 2) hx hb dL_law_326 (by decide) ?_
  refine lvn_iadd hx hb dL_law_327 ?_
  refine lq_sld hx hb hX hbl hbA hS (show i + 2 < L by omega) (by omega) dL_law_328 ?_
  refine lv_aload_n hx hb dL_law_329 rfl (lv_at hl 1 rfl) ?_
  refine lv_iload_n hx hb dL_law_330 rfl (lv_at hl 0 rfl) ?_
  refine lv_iconst (v := nI 3) hx hb dL_law_331 (by decide) ?_
  refine lvn_iadd hx hb dL_law_332 ?_
  refine lq_sld hx hb hX hbl hbA hS (show i + 3 < L by omega) (by omega) dL_law_333 ?_
  refine lq_C S hKc hPc hS hcA (c_X4_set hN h8) gL_law_X4_set i_X4_set rfl ⟨Nat.le_of_ble_eq_true rfl, Nat.le_of_ble_eq_true rfl⟩ rfl hl.1 (As := [.int (xs (i + 1)), .int (xs (i + 2)), .int (xs (i + 3))]) (rest := []) rfl (Nat.le_of_ble_eq_true rfl) ⟨Nat.le_of_ble_eq_true rfl, Nat.le_of_ble_eq_true rfl⟩ dL_law_334 (fun p1q t2q t3q t4q t5q H1 locs1 hPc hk hS => ?_)
  have hPm := keepM hds hPm hk
  refine lv_aload_n hx hb dL_law_337 rfl (lv_at hl 3 rfl) ?_
  refine lv_aload_n hx hb dL_law_338 rfl (lv_at hl 1 rfl) ?_
  refine lv_iload_n hx hb dL_law_339 rfl (lv_at hl 0 rfl) ?_
  refine lv_iconst (v := nI 1) hx hb dL_law_340 (by decide) ?_
  refine lvn_iadd hx hb dL_law_341 ?_
  refine lq_sld hx hb hX hbl hbA hS (show i + 1 < L by omega) (by omega) dL_law_342 ?_
  refine lv_aload_n hx hb dL_law_343 rfl (lv_at hl 1 rfl) ?_
  refine lv_iload_n hx hb dL_law_344 rfl (lv_at hl 0 rfl) ?_
  refine lv_iconst (v := nI 2) hx hb dL_law_345 (by decide) ?_
  refine lvn_iadd hx hb dL_law_346 ?_
  refine lq_sld hx hb hX hbl hbA hS (show i + 2 < L by omega) (by omega) dL_law_347 ?_
  refine lv_aload_n hx hb dL_law_348 rfl (lv_at hl 1 rfl) ?_
  refine lv_iload_n hx hb dL_law_349 rfl (lv_at hl 0 rfl) ?_
  refine lv_iconst (v := nI 3) hx hb dL_law_350 (by decide) ?_
  refine lvn_iadd hx hb dL_law_351 ?_
  refine lq_sld hx hb hX hbl hbA hS (show i + 3 < L by omega) (by omega) dL_law_352 ?_
  refine lq_M S hKm hPm hS hmA (c_X5_set hNs h8) gL_law_X5_set i_X5_set rfl ⟨Nat.le_of_ble_eq_true rfl, Nat.le_of_ble_eq_true rfl⟩ rfl hl.1 (As := [.int (xs (i + 1)), .int (xs (i + 2)), .int (xs (i + 3))]) rfl (Nat.le_of_ble_eq_true rfl) ⟨Nat.le_of_ble_eq_true rfl, Nat.le_of_ble_eq_true rfl⟩ dL_law_353 (fun otq asdq frq ttq vlq wrq mvq H2 locs2 hPm hk hS => ?_)
  have hPc := keepC hds hPc hk
  have hs := sim_set hRel h8 hN hA hR (q := xs (i + 1)) (o := xs (i + 2)) (v := xs (i + 3))
  refine lv_icmp_eq (tgt := 1308) hx hb dL_law_356 (by decide) (fun _ => kk _ _ ⟨_, _, _, _, _, _, _, _, _, _, _, _, _, _, _, _, _, _, _, _, _, _, _, _, _, _, _, _, _, _, hPc, hPm, hs.2⟩ hS) (fun q => absurd (Value.int.inj (Option.some.inj hs.1)) q)
set_option maxHeartbeats 1000000 in
set_option maxRecDepth 100000 in
theorem law_turn {p : Program} {l : Launch} {e : Env} {s : State} {m : MethodId} {below : List Frame} {meth : Method} {c : Code} {b L : Nat} {xs : Nat → Int32} {D : va_G} {cy : Nat → ClassId} {ad am kq vq : Nat → Nat} {Q : State → Prop} {i : Nat} {H : Heap} {locs : List Loc} {ls : Array Slot} (hL : L ≤ 3072) (hi : i + 6 ≤ L) (C0 : lw_At p s m meth c b L xs) (hC : LCx D cy ad am kq vq s) (hS : va_S (fun q => s.heap.size ≤ q) s.heap H locs) (hl : lv_has ls 4 [(3, .int (nI i)), (0, .ref b), (1, .ref (ad 0)), (2, .ref (am 0))]) (hLS : LSt D cy ad am H) (kk : ∀ (H1 : Heap) (locs1 : List Loc), LSt D cy ad am H1 → va_S (fun q => s.heap.size ≤ q) s.heap H1 locs1 → W p l e room_1 s m #[Value.ref b] below meth c H1 locs1 54 1177 Q (F0 m 1308 ls [])) : W p l e room_1 s m #[Value.ref b] below meth c H locs 54 1177 Q (F0 m 361 ls []) := by
  obtain ⟨hx, hb, hr, hml, hown, hts, hX, hbl, hlocks, hgv⟩ := id C0
  have hown : s.vm.findClass RL = some m.cls := hown
  have hbA : ¬ (fun q : Nat => s.heap.size ≤ q) b := Nat.not_le.mpr hbl
  have S : CallFix p m c cL_law 4 s #[Value.ref b] wsL_law RL := ⟨hx, hb, hml, hown, fun w h => hts w (wsL_law_in w h)⟩
  obtain ⟨hKc, hKm, hTg, hds, hcA, hmA⟩ := hC
  obtain ⟨p0, p1, p2, ke, tb, t1, t2, t3, t4, t5, sb, ss, sw, fd, sr, kS, ot, asd, stt, ik, tp, td, fr, tt, vl, wr, bo, so, nu, mv, hPc, hPm, hRel⟩ := hLS
  obtain ⟨N, h8, hN, hA, hR⟩ := hRel.1
  obtain ⟨N2, k8, kN, kk2⟩ := hRel.2.1
  obtain ⟨T, hT2, rfl, rfl⟩ := hRel.2.2.2.2.1
  have hNs : sr 0 = nI N := (hA 0 (by omega)).symm.trans hN
  have hz : ∀ t, t < 4 → ∃ z : Nat, z ≤ 40 ∧ ss t = nI z := fun t ht => (hRel.2.2.2.2.2.2.1 t ht).2.2
  have hzs : ∀ t, t < 4 → ∃ z : Nat, z ≤ 40 ∧ so t = nI z := fun t ht => by
    obtain ⟨-, e1, z, e2, e3⟩ := hRel.2.2.2.2.2.2.1 t ht
    exact ⟨z, e2, e1.symm.trans e3⟩
  refine lv_aload_n hx hb dL_law_361 rfl (lv_at hl 2 rfl) ?_
  refine lv_aload_n hx hb dL_law_362 rfl (lv_at hl 1 rfl) ?_
  refine lv_iload_n hx hb dL_law_363 rfl (lv_at hl 0 rfl) ?_
  refine lv_iconst (v := nI 1) hx hb dL_law_364 (by decide) ?_
  refine lvn_iadd hx hb dL_law_365 ?_
  refine lq_sld hx hb hX hbl hbA hS (show i + 1 < L by omega) (by omega) dL_law_366 ?_
  refine lv_aload_n hx hb dL_law_367 rfl (lv_at hl 1 rfl) ?_
  refine lv_iload_n hx hb dL_law_368 rfl (lv_at hl 0 rfl) ?_
  refine lv_iconst (v := nI 2) hx hb dL_law_369 (by decide) ?_
  refine lvn_iadd hx hb dL_law_370 ?_
  refine lq_sld hx hb hX hbl hbA hS (show i + 2 < L by omega) (by omega) dL_law_371 ?_
  refine lq_C S hKc hPc hS hcA (c_X4_turn hN h8) gL_law_X4_turn i_X4_turn rfl ⟨Nat.le_of_ble_eq_true rfl, Nat.le_of_ble_eq_true rfl⟩ rfl hl.1 (As := [.int (xs (i + 1)), .int (xs (i + 2))]) (rest := []) rfl (Nat.le_of_ble_eq_true rfl) ⟨Nat.le_of_ble_eq_true rfl, Nat.le_of_ble_eq_true rfl⟩ dL_law_372 (fun p1q t2q t3q t4q t5q H1 locs1 hPc hk hS => ?_)
  have hPm := keepM hds hPm hk
  refine lv_aload_n hx hb dL_law_375 rfl (lv_at hl 3 rfl) ?_
  refine lv_aload_n hx hb dL_law_376 rfl (lv_at hl 1 rfl) ?_
  refine lv_iload_n hx hb dL_law_377 rfl (lv_at hl 0 rfl) ?_
  refine lv_iconst (v := nI 1) hx hb dL_law_378 (by decide) ?_
  refine lvn_iadd hx hb dL_law_379 ?_
  refine lq_sld hx hb hX hbl hbA hS (show i + 1 < L by omega) (by omega) dL_law_380 ?_
  refine lv_aload_n hx hb dL_law_381 rfl (lv_at hl 1 rfl) ?_
  refine lv_iload_n hx hb dL_law_382 rfl (lv_at hl 0 rfl) ?_
  refine lv_iconst (v := nI 2) hx hb dL_law_383 (by decide) ?_
  refine lvn_iadd hx hb dL_law_384 ?_
  refine lq_sld hx hb hX hbl hbA hS (show i + 2 < L by omega) (by omega) dL_law_385 ?_
  refine lq_M S hKm hPm hS hmA (c_X5_turn hNs h8) gL_law_X5_turn i_X5_turn rfl ⟨Nat.le_of_ble_eq_true rfl, Nat.le_of_ble_eq_true rfl⟩ rfl hl.1 (As := [.int (xs (i + 1)), .int (xs (i + 2))]) rfl (Nat.le_of_ble_eq_true rfl) ⟨Nat.le_of_ble_eq_true rfl, Nat.le_of_ble_eq_true rfl⟩ dL_law_386 (fun otq asdq frq ttq vlq wrq mvq H2 locs2 hPm hk hS => ?_)
  have hPc := keepC hds hPc hk
  have hs := sim_turn hRel h8 hN hA hR (q := xs (i + 1)) (o := xs (i + 2))
  refine lv_icmp_eq (tgt := 1308) hx hb dL_law_389 (by decide) (fun _ => kk _ _ ⟨_, _, _, _, _, _, _, _, _, _, _, _, _, _, _, _, _, _, _, _, _, _, _, _, _, _, _, _, _, _, hPc, hPm, hs.2⟩ hS) (fun q => absurd (Value.int.inj (Option.some.inj hs.1)) q)
set_option maxHeartbeats 1000000 in
set_option maxRecDepth 100000 in
theorem law_as {p : Program} {l : Launch} {e : Env} {s : State} {m : MethodId} {below : List Frame} {meth : Method} {c : Code} {b L : Nat} {xs : Nat → Int32} {D : va_G} {cy : Nat → ClassId} {ad am kq vq : Nat → Nat} {Q : State → Prop} {i : Nat} {H : Heap} {locs : List Loc} {ls : Array Slot} (hL : L ≤ 3072) (hi : i + 6 ≤ L) (C0 : lw_At p s m meth c b L xs) (hC : LCx D cy ad am kq vq s) (hS : va_S (fun q => s.heap.size ≤ q) s.heap H locs) (hl : lv_has ls 4 [(3, .int (nI i)), (0, .ref b), (1, .ref (ad 0)), (2, .ref (am 0))]) (hLS : LSt D cy ad am H) (kk : ∀ (H1 : Heap) (locs1 : List Loc), LSt D cy ad am H1 → va_S (fun q => s.heap.size ≤ q) s.heap H1 locs1 → W p l e room_1 s m #[Value.ref b] below meth c H1 locs1 54 1177 Q (F0 m 1308 ls [])) : W p l e room_1 s m #[Value.ref b] below meth c H locs 54 1177 Q (F0 m 394 ls []) := by
  obtain ⟨hx, hb, hr, hml, hown, hts, hX, hbl, hlocks, hgv⟩ := id C0
  have hown : s.vm.findClass RL = some m.cls := hown
  have hbA : ¬ (fun q : Nat => s.heap.size ≤ q) b := Nat.not_le.mpr hbl
  have S : CallFix p m c cL_law 4 s #[Value.ref b] wsL_law RL := ⟨hx, hb, hml, hown, fun w h => hts w (wsL_law_in w h)⟩
  obtain ⟨hKc, hKm, hTg, hds, hcA, hmA⟩ := hC
  obtain ⟨p0, p1, p2, ke, tb, t1, t2, t3, t4, t5, sb, ss, sw, fd, sr, kS, ot, asd, stt, ik, tp, td, fr, tt, vl, wr, bo, so, nu, mv, hPc, hPm, hRel⟩ := hLS
  obtain ⟨N, h8, hN, hA, hR⟩ := hRel.1
  obtain ⟨N2, k8, kN, kk2⟩ := hRel.2.1
  obtain ⟨T, hT2, rfl, rfl⟩ := hRel.2.2.2.2.1
  have hNs : sr 0 = nI N := (hA 0 (by omega)).symm.trans hN
  have hz : ∀ t, t < 4 → ∃ z : Nat, z ≤ 40 ∧ ss t = nI z := fun t ht => (hRel.2.2.2.2.2.2.1 t ht).2.2
  have hzs : ∀ t, t < 4 → ∃ z : Nat, z ≤ 40 ∧ so t = nI z := fun t ht => by
    obtain ⟨-, e1, z, e2, e3⟩ := hRel.2.2.2.2.2.2.1 t ht
    exact ⟨z, e2, e1.symm.trans e3⟩
  refine lv_aload_n hx hb dL_law_394 rfl (lv_at hl 2 rfl) ?_
  refine lv_aload_n hx hb dL_law_395 rfl (lv_at hl 1 rfl) ?_
  refine lv_iload_n hx hb dL_law_396 rfl (lv_at hl 0 rfl) ?_
  refine lv_iconst (v := nI 1) hx hb dL_law_397 (by decide) ?_
  refine lvn_iadd hx hb dL_law_398 ?_
  refine lq_sld hx hb hX hbl hbA hS (show i + 1 < L by omega) (by omega) dL_law_399 ?_
  refine lv_aload_n hx hb dL_law_400 rfl (lv_at hl 1 rfl) ?_
  refine lv_iload_n hx hb dL_law_401 rfl (lv_at hl 0 rfl) ?_
  refine lv_iconst (v := nI 2) hx hb dL_law_402 (by decide) ?_
  refine lvn_iadd hx hb dL_law_403 ?_
  refine lq_sld hx hb hX hbl hbA hS (show i + 2 < L by omega) (by omega) dL_law_404 ?_
  refine lq_C S hKc hPc hS hcA (c_X4_as hN h8) gL_law_X4_as i_X4_as rfl ⟨Nat.le_of_ble_eq_true rfl, Nat.le_of_ble_eq_true rfl⟩ rfl hl.1 (As := [.int (xs (i + 1)), .int (xs (i + 2))]) (rest := []) rfl (Nat.le_of_ble_eq_true rfl) ⟨Nat.le_of_ble_eq_true rfl, Nat.le_of_ble_eq_true rfl⟩ dL_law_405 (fun p1q t2q t3q t4q t5q H1 locs1 hPc hk hS => ?_)
  have hPm := keepM hds hPm hk
  refine lv_aload_n hx hb dL_law_408 rfl (lv_at hl 3 rfl) ?_
  refine lv_aload_n hx hb dL_law_409 rfl (lv_at hl 1 rfl) ?_
  refine lv_iload_n hx hb dL_law_410 rfl (lv_at hl 0 rfl) ?_
  refine lv_iconst (v := nI 1) hx hb dL_law_411 (by decide) ?_
  refine lvn_iadd hx hb dL_law_412 ?_
  refine lq_sld hx hb hX hbl hbA hS (show i + 1 < L by omega) (by omega) dL_law_413 ?_
  refine lv_aload_n hx hb dL_law_414 rfl (lv_at hl 1 rfl) ?_
  refine lv_iload_n hx hb dL_law_415 rfl (lv_at hl 0 rfl) ?_
  refine lv_iconst (v := nI 2) hx hb dL_law_416 (by decide) ?_
  refine lvn_iadd hx hb dL_law_417 ?_
  refine lq_sld hx hb hX hbl hbA hS (show i + 2 < L by omega) (by omega) dL_law_418 ?_
  refine lq_M S hKm hPm hS hmA (c_X5_as hNs h8) gL_law_X5_as i_X5_as rfl ⟨Nat.le_of_ble_eq_true rfl, Nat.le_of_ble_eq_true rfl⟩ rfl hl.1 (As := [.int (xs (i + 1)), .int (xs (i + 2))]) rfl (Nat.le_of_ble_eq_true rfl) ⟨Nat.le_of_ble_eq_true rfl, Nat.le_of_ble_eq_true rfl⟩ dL_law_419 (fun otq asdq frq ttq vlq wrq mvq H2 locs2 hPm hk hS => ?_)
  have hPc := keepC hds hPc hk
  have hs := sim_as hRel h8 hN hA hR (q := xs (i + 1)) (o := xs (i + 2))
  refine lv_icmp_eq (tgt := 1308) hx hb dL_law_422 (by decide) (fun _ => kk _ _ ⟨_, _, _, _, _, _, _, _, _, _, _, _, _, _, _, _, _, _, _, _, _, _, _, _, _, _, _, _, _, _, hPc, hPm, hs.2⟩ hS) (fun q => absurd (Value.int.inj (Option.some.inj hs.1)) q)
set_option maxHeartbeats 1000000 in
set_option maxRecDepth 100000 in
theorem law_hours {p : Program} {l : Launch} {e : Env} {s : State} {m : MethodId} {below : List Frame} {meth : Method} {c : Code} {b L : Nat} {xs : Nat → Int32} {D : va_G} {cy : Nat → ClassId} {ad am kq vq : Nat → Nat} {Q : State → Prop} {i : Nat} {H : Heap} {locs : List Loc} {ls : Array Slot} (hL : L ≤ 3072) (hi : i + 6 ≤ L) (C0 : lw_At p s m meth c b L xs) (hC : LCx D cy ad am kq vq s) (hS : va_S (fun q => s.heap.size ≤ q) s.heap H locs) (hl : lv_has ls 4 [(3, .int (nI i)), (0, .ref b), (1, .ref (ad 0)), (2, .ref (am 0))]) (hLS : LSt D cy ad am H) (kk : ∀ (H1 : Heap) (locs1 : List Loc), LSt D cy ad am H1 → va_S (fun q => s.heap.size ≤ q) s.heap H1 locs1 → W p l e room_1 s m #[Value.ref b] below meth c H1 locs1 54 1177 Q (F0 m 1308 ls [])) : W p l e room_1 s m #[Value.ref b] below meth c H locs 54 1177 Q (F0 m 427 ls []) := by
  obtain ⟨hx, hb, hr, hml, hown, hts, hX, hbl, hlocks, hgv⟩ := id C0
  have hown : s.vm.findClass RL = some m.cls := hown
  have hbA : ¬ (fun q : Nat => s.heap.size ≤ q) b := Nat.not_le.mpr hbl
  have S : CallFix p m c cL_law 4 s #[Value.ref b] wsL_law RL := ⟨hx, hb, hml, hown, fun w h => hts w (wsL_law_in w h)⟩
  obtain ⟨hKc, hKm, hTg, hds, hcA, hmA⟩ := hC
  obtain ⟨p0, p1, p2, ke, tb, t1, t2, t3, t4, t5, sb, ss, sw, fd, sr, kS, ot, asd, stt, ik, tp, td, fr, tt, vl, wr, bo, so, nu, mv, hPc, hPm, hRel⟩ := hLS
  obtain ⟨N, h8, hN, hA, hR⟩ := hRel.1
  obtain ⟨N2, k8, kN, kk2⟩ := hRel.2.1
  obtain ⟨T, hT2, rfl, rfl⟩ := hRel.2.2.2.2.1
  have hNs : sr 0 = nI N := (hA 0 (by omega)).symm.trans hN
  have hz : ∀ t, t < 4 → ∃ z : Nat, z ≤ 40 ∧ ss t = nI z := fun t ht => (hRel.2.2.2.2.2.2.1 t ht).2.2
  have hzs : ∀ t, t < 4 → ∃ z : Nat, z ≤ 40 ∧ so t = nI z := fun t ht => by
    obtain ⟨-, e1, z, e2, e3⟩ := hRel.2.2.2.2.2.2.1 t ht
    exact ⟨z, e2, e1.symm.trans e3⟩
  refine lv_aload_n hx hb dL_law_427 rfl (lv_at hl 2 rfl) ?_
  refine lv_aload_n hx hb dL_law_428 rfl (lv_at hl 1 rfl) ?_
  refine lv_iload_n hx hb dL_law_429 rfl (lv_at hl 0 rfl) ?_
  refine lv_iconst (v := nI 1) hx hb dL_law_430 (by decide) ?_
  refine lvn_iadd hx hb dL_law_431 ?_
  refine lq_sld hx hb hX hbl hbA hS (show i + 1 < L by omega) (by omega) dL_law_432 ?_
  refine lq_C S hKc hPc hS hcA (c_X4_hours hN h8) gL_law_X4_hours i_X4_hours rfl ⟨Nat.le_of_ble_eq_true rfl, Nat.le_of_ble_eq_true rfl⟩ rfl hl.1 (As := [.int (xs (i + 1))]) (rest := []) rfl (Nat.le_of_ble_eq_true rfl) ⟨Nat.le_of_ble_eq_true rfl, Nat.le_of_ble_eq_true rfl⟩ dL_law_433 (fun p1q t2q t3q t4q t5q H1 locs1 hPc hk hS => ?_)
  have hPm := keepM hds hPm hk
  refine lv_aload_n hx hb dL_law_436 rfl (lv_at hl 3 rfl) ?_
  refine lv_aload_n hx hb dL_law_437 rfl (lv_at hl 1 rfl) ?_
  refine lv_iload_n hx hb dL_law_438 rfl (lv_at hl 0 rfl) ?_
  refine lv_iconst (v := nI 1) hx hb dL_law_439 (by decide) ?_
  refine lvn_iadd hx hb dL_law_440 ?_
  refine lq_sld hx hb hX hbl hbA hS (show i + 1 < L by omega) (by omega) dL_law_441 ?_
  refine lq_M S hKm hPm hS hmA (c_X5_hours hNs h8) gL_law_X5_hours i_X5_hours rfl ⟨Nat.le_of_ble_eq_true rfl, Nat.le_of_ble_eq_true rfl⟩ rfl hl.1 (As := [.int (xs (i + 1))]) rfl (Nat.le_of_ble_eq_true rfl) ⟨Nat.le_of_ble_eq_true rfl, Nat.le_of_ble_eq_true rfl⟩ dL_law_442 (fun otq asdq frq ttq vlq wrq mvq H2 locs2 hPm hk hS => ?_)
  have hPc := keepC hds hPc hk
  have hs := sim_hours hRel h8 hN hA hR (q := xs (i + 1))
  refine lv_icmp_eq (tgt := 1308) hx hb dL_law_445 (by decide) (fun _ => kk _ _ ⟨_, _, _, _, _, _, _, _, _, _, _, _, _, _, _, _, _, _, _, _, _, _, _, _, _, _, _, _, _, _, hPc, hPm, hs.2⟩ hS) (fun q => absurd (Value.int.inj (Option.some.inj hs.1)) q)
set_option maxHeartbeats 1000000 in
set_option maxRecDepth 100000 in
theorem law_now {p : Program} {l : Launch} {e : Env} {s : State} {m : MethodId} {below : List Frame} {meth : Method} {c : Code} {b L : Nat} {xs : Nat → Int32} {D : va_G} {cy : Nat → ClassId} {ad am kq vq : Nat → Nat} {Q : State → Prop} {i : Nat} {H : Heap} {locs : List Loc} {ls : Array Slot} (hL : L ≤ 3072) (hi : i + 6 ≤ L) (C0 : lw_At p s m meth c b L xs) (hC : LCx D cy ad am kq vq s) (hS : va_S (fun q => s.heap.size ≤ q) s.heap H locs) (hl : lv_has ls 4 [(3, .int (nI i)), (0, .ref b), (1, .ref (ad 0)), (2, .ref (am 0))]) (hLS : LSt D cy ad am H) (kk : ∀ (H1 : Heap) (locs1 : List Loc), LSt D cy ad am H1 → va_S (fun q => s.heap.size ≤ q) s.heap H1 locs1 → W p l e room_1 s m #[Value.ref b] below meth c H1 locs1 54 1177 Q (F0 m 1308 ls [])) : W p l e room_1 s m #[Value.ref b] below meth c H locs 54 1177 Q (F0 m 450 ls []) := by
  obtain ⟨hx, hb, hr, hml, hown, hts, hX, hbl, hlocks, hgv⟩ := id C0
  have hown : s.vm.findClass RL = some m.cls := hown
  have hbA : ¬ (fun q : Nat => s.heap.size ≤ q) b := Nat.not_le.mpr hbl
  have S : CallFix p m c cL_law 4 s #[Value.ref b] wsL_law RL := ⟨hx, hb, hml, hown, fun w h => hts w (wsL_law_in w h)⟩
  obtain ⟨hKc, hKm, hTg, hds, hcA, hmA⟩ := hC
  obtain ⟨p0, p1, p2, ke, tb, t1, t2, t3, t4, t5, sb, ss, sw, fd, sr, kS, ot, asd, stt, ik, tp, td, fr, tt, vl, wr, bo, so, nu, mv, hPc, hPm, hRel⟩ := hLS
  obtain ⟨N, h8, hN, hA, hR⟩ := hRel.1
  obtain ⟨N2, k8, kN, kk2⟩ := hRel.2.1
  obtain ⟨T, hT2, rfl, rfl⟩ := hRel.2.2.2.2.1
  have hNs : sr 0 = nI N := (hA 0 (by omega)).symm.trans hN
  have hz : ∀ t, t < 4 → ∃ z : Nat, z ≤ 40 ∧ ss t = nI z := fun t ht => (hRel.2.2.2.2.2.2.1 t ht).2.2
  have hzs : ∀ t, t < 4 → ∃ z : Nat, z ≤ 40 ∧ so t = nI z := fun t ht => by
    obtain ⟨-, e1, z, e2, e3⟩ := hRel.2.2.2.2.2.2.1 t ht
    exact ⟨z, e2, e1.symm.trans e3⟩
  refine lv_aload_n hx hb dL_law_450 rfl (lv_at hl 2 rfl) ?_
  refine lv_aload_n hx hb dL_law_451 rfl (lv_at hl 1 rfl) ?_
  refine lv_iload_n hx hb dL_law_452 rfl (lv_at hl 0 rfl) ?_
  refine lv_iconst (v := nI 1) hx hb dL_law_453 (by decide) ?_
  refine lvn_iadd hx hb dL_law_454 ?_
  refine lq_sld hx hb hX hbl hbA hS (show i + 1 < L by omega) (by omega) dL_law_455 ?_
  refine lq_C S hKc hPc hS hcA (c_X4_now hN h8) gL_law_X4_now i_X4_now rfl ⟨Nat.le_of_ble_eq_true rfl, Nat.le_of_ble_eq_true rfl⟩ rfl hl.1 (As := [.int (xs (i + 1))]) (rest := []) rfl (Nat.le_of_ble_eq_true rfl) ⟨Nat.le_of_ble_eq_true rfl, Nat.le_of_ble_eq_true rfl⟩ dL_law_456 (fun p1q t2q t3q t4q t5q H1 locs1 hPc hk hS => ?_)
  have hPm := keepM hds hPm hk
  refine lv_aload_n hx hb dL_law_459 rfl (lv_at hl 3 rfl) ?_
  refine lv_aload_n hx hb dL_law_460 rfl (lv_at hl 1 rfl) ?_
  refine lv_iload_n hx hb dL_law_461 rfl (lv_at hl 0 rfl) ?_
  refine lv_iconst (v := nI 1) hx hb dL_law_462 (by decide) ?_
  refine lvn_iadd hx hb dL_law_463 ?_
  refine lq_sld hx hb hX hbl hbA hS (show i + 1 < L by omega) (by omega) dL_law_464 ?_
  refine lq_M S hKm hPm hS hmA (c_X5_now hNs h8) gL_law_X5_now i_X5_now rfl ⟨Nat.le_of_ble_eq_true rfl, Nat.le_of_ble_eq_true rfl⟩ rfl hl.1 (As := [.int (xs (i + 1))]) rfl (Nat.le_of_ble_eq_true rfl) ⟨Nat.le_of_ble_eq_true rfl, Nat.le_of_ble_eq_true rfl⟩ dL_law_465 (fun otq asdq frq ttq vlq wrq mvq H2 locs2 hPm hk hS => ?_)
  have hPc := keepC hds hPc hk
  have hs := sim_now hRel h8 hN hA hR (q := xs (i + 1))
  refine lv_icmp_eq (tgt := 1308) hx hb dL_law_468 (by decide) (fun _ => kk _ _ ⟨_, _, _, _, _, _, _, _, _, _, _, _, _, _, _, _, _, _, _, _, _, _, _, _, _, _, _, _, _, _, hPc, hPm, hs.2⟩ hS) (fun q => absurd (Value.int.inj (Option.some.inj hs.1)) q)
set_option maxHeartbeats 1000000 in
set_option maxRecDepth 100000 in
theorem law_on {p : Program} {l : Launch} {e : Env} {s : State} {m : MethodId} {below : List Frame} {meth : Method} {c : Code} {b L : Nat} {xs : Nat → Int32} {D : va_G} {cy : Nat → ClassId} {ad am kq vq : Nat → Nat} {Q : State → Prop} {i : Nat} {H : Heap} {locs : List Loc} {ls : Array Slot} (hL : L ≤ 3072) (hi : i + 6 ≤ L) (C0 : lw_At p s m meth c b L xs) (hC : LCx D cy ad am kq vq s) (hS : va_S (fun q => s.heap.size ≤ q) s.heap H locs) (hl : lv_has ls 4 [(3, .int (nI i)), (0, .ref b), (1, .ref (ad 0)), (2, .ref (am 0))]) (hLS : LSt D cy ad am H) (kk : ∀ (H1 : Heap) (locs1 : List Loc), LSt D cy ad am H1 → va_S (fun q => s.heap.size ≤ q) s.heap H1 locs1 → W p l e room_1 s m #[Value.ref b] below meth c H1 locs1 54 1177 Q (F0 m 1308 ls [])) : W p l e room_1 s m #[Value.ref b] below meth c H locs 54 1177 Q (F0 m 473 ls []) := by
  obtain ⟨hx, hb, hr, hml, hown, hts, hX, hbl, hlocks, hgv⟩ := id C0
  have hown : s.vm.findClass RL = some m.cls := hown
  have hbA : ¬ (fun q : Nat => s.heap.size ≤ q) b := Nat.not_le.mpr hbl
  have S : CallFix p m c cL_law 4 s #[Value.ref b] wsL_law RL := ⟨hx, hb, hml, hown, fun w h => hts w (wsL_law_in w h)⟩
  obtain ⟨hKc, hKm, hTg, hds, hcA, hmA⟩ := hC
  obtain ⟨p0, p1, p2, ke, tb, t1, t2, t3, t4, t5, sb, ss, sw, fd, sr, kS, ot, asd, stt, ik, tp, td, fr, tt, vl, wr, bo, so, nu, mv, hPc, hPm, hRel⟩ := hLS
  obtain ⟨N, h8, hN, hA, hR⟩ := hRel.1
  obtain ⟨N2, k8, kN, kk2⟩ := hRel.2.1
  obtain ⟨T, hT2, rfl, rfl⟩ := hRel.2.2.2.2.1
  have hNs : sr 0 = nI N := (hA 0 (by omega)).symm.trans hN
  have hz : ∀ t, t < 4 → ∃ z : Nat, z ≤ 40 ∧ ss t = nI z := fun t ht => (hRel.2.2.2.2.2.2.1 t ht).2.2
  have hzs : ∀ t, t < 4 → ∃ z : Nat, z ≤ 40 ∧ so t = nI z := fun t ht => by
    obtain ⟨-, e1, z, e2, e3⟩ := hRel.2.2.2.2.2.2.1 t ht
    exact ⟨z, e2, e1.symm.trans e3⟩
  refine lv_aload_n hx hb dL_law_473 rfl (lv_at hl 2 rfl) ?_
  refine lv_aload_n hx hb dL_law_474 rfl (lv_at hl 1 rfl) ?_
  refine lv_iload_n hx hb dL_law_475 rfl (lv_at hl 0 rfl) ?_
  refine lv_iconst (v := nI 1) hx hb dL_law_476 (by decide) ?_
  refine lvn_iadd hx hb dL_law_477 ?_
  refine lq_sld hx hb hX hbl hbA hS (show i + 1 < L by omega) (by omega) dL_law_478 ?_
  refine lv_aload_n hx hb dL_law_479 rfl (lv_at hl 1 rfl) ?_
  refine lv_iload_n hx hb dL_law_480 rfl (lv_at hl 0 rfl) ?_
  refine lv_iconst (v := nI 2) hx hb dL_law_481 (by decide) ?_
  refine lvn_iadd hx hb dL_law_482 ?_
  refine lq_sld hx hb hX hbl hbA hS (show i + 2 < L by omega) (by omega) dL_law_483 ?_
  refine lv_aload_n hx hb dL_law_484 rfl (lv_at hl 1 rfl) ?_
  refine lv_iload_n hx hb dL_law_485 rfl (lv_at hl 0 rfl) ?_
  refine lv_iconst (v := nI 3) hx hb dL_law_486 (by decide) ?_
  refine lvn_iadd hx hb dL_law_487 ?_
  refine lq_sld hx hb hX hbl hbA hS (show i + 3 < L by omega) (by omega) dL_law_488 ?_
  refine lq_C S hKc hPc hS hcA (c_X4_on hN h8) gL_law_X4_on i_X4_on rfl ⟨Nat.le_of_ble_eq_true rfl, Nat.le_of_ble_eq_true rfl⟩ rfl hl.1 (As := [.int (xs (i + 1)), .int (xs (i + 2)), .int (xs (i + 3))]) (rest := []) rfl (Nat.le_of_ble_eq_true rfl) ⟨Nat.le_of_ble_eq_true rfl, Nat.le_of_ble_eq_true rfl⟩ dL_law_489 (fun p1q t2q t3q t4q t5q H1 locs1 hPc hk hS => ?_)
  have hPm := keepM hds hPm hk
  refine lv_aload_n hx hb dL_law_492 rfl (lv_at hl 3 rfl) ?_
  refine lv_aload_n hx hb dL_law_493 rfl (lv_at hl 1 rfl) ?_
  refine lv_iload_n hx hb dL_law_494 rfl (lv_at hl 0 rfl) ?_
  refine lv_iconst (v := nI 1) hx hb dL_law_495 (by decide) ?_
  refine lvn_iadd hx hb dL_law_496 ?_
  refine lq_sld hx hb hX hbl hbA hS (show i + 1 < L by omega) (by omega) dL_law_497 ?_
  refine lv_aload_n hx hb dL_law_498 rfl (lv_at hl 1 rfl) ?_
  refine lv_iload_n hx hb dL_law_499 rfl (lv_at hl 0 rfl) ?_
  refine lv_iconst (v := nI 2) hx hb dL_law_500 (by decide) ?_
  refine lvn_iadd hx hb dL_law_501 ?_
  refine lq_sld hx hb hX hbl hbA hS (show i + 2 < L by omega) (by omega) dL_law_502 ?_
  refine lv_aload_n hx hb dL_law_503 rfl (lv_at hl 1 rfl) ?_
  refine lv_iload_n hx hb dL_law_504 rfl (lv_at hl 0 rfl) ?_
  refine lv_iconst (v := nI 3) hx hb dL_law_505 (by decide) ?_
  refine lvn_iadd hx hb dL_law_506 ?_
  refine lq_sld hx hb hX hbl hbA hS (show i + 3 < L by omega) (by omega) dL_law_507 ?_
  refine lq_M S hKm hPm hS hmA (c_X5_on hNs h8) gL_law_X5_on i_X5_on rfl ⟨Nat.le_of_ble_eq_true rfl, Nat.le_of_ble_eq_true rfl⟩ rfl hl.1 (As := [.int (xs (i + 1)), .int (xs (i + 2)), .int (xs (i + 3))]) rfl (Nat.le_of_ble_eq_true rfl) ⟨Nat.le_of_ble_eq_true rfl, Nat.le_of_ble_eq_true rfl⟩ dL_law_508 (fun otq asdq frq ttq vlq wrq mvq H2 locs2 hPm hk hS => ?_)
  have hPc := keepC hds hPc hk
  have hs := sim_on hRel h8 hN hA hR (q := xs (i + 1)) (n := xs (i + 2)) (o := xs (i + 3))
  refine lv_icmp_eq (tgt := 1308) hx hb dL_law_511 (by decide) (fun _ => kk _ _ ⟨_, _, _, _, _, _, _, _, _, _, _, _, _, _, _, _, _, _, _, _, _, _, _, _, _, _, _, _, _, _, hPc, hPm, hs.2⟩ hS) (fun q => absurd (Value.int.inj (Option.some.inj hs.1)) q)
set_option maxHeartbeats 1000000 in
set_option maxRecDepth 100000 in
theorem law_fund {p : Program} {l : Launch} {e : Env} {s : State} {m : MethodId} {below : List Frame} {meth : Method} {c : Code} {b L : Nat} {xs : Nat → Int32} {D : va_G} {cy : Nat → ClassId} {ad am kq vq : Nat → Nat} {Q : State → Prop} {i : Nat} {H : Heap} {locs : List Loc} {ls : Array Slot} (hL : L ≤ 3072) (hi : i + 6 ≤ L) (C0 : lw_At p s m meth c b L xs) (hC : LCx D cy ad am kq vq s) (hS : va_S (fun q => s.heap.size ≤ q) s.heap H locs) (hl : lv_has ls 4 [(3, .int (nI i)), (0, .ref b), (1, .ref (ad 0)), (2, .ref (am 0))]) (hLS : LSt D cy ad am H) (kk : ∀ (H1 : Heap) (locs1 : List Loc), LSt D cy ad am H1 → va_S (fun q => s.heap.size ≤ q) s.heap H1 locs1 → W p l e room_1 s m #[Value.ref b] below meth c H1 locs1 54 1177 Q (F0 m 1308 ls [])) : W p l e room_1 s m #[Value.ref b] below meth c H locs 54 1177 Q (F0 m 516 ls []) := by
  obtain ⟨hx, hb, hr, hml, hown, hts, hX, hbl, hlocks, hgv⟩ := id C0
  have hown : s.vm.findClass RL = some m.cls := hown
  have hbA : ¬ (fun q : Nat => s.heap.size ≤ q) b := Nat.not_le.mpr hbl
  have S : CallFix p m c cL_law 4 s #[Value.ref b] wsL_law RL := ⟨hx, hb, hml, hown, fun w h => hts w (wsL_law_in w h)⟩
  obtain ⟨hKc, hKm, hTg, hds, hcA, hmA⟩ := hC
  obtain ⟨p0, p1, p2, ke, tb, t1, t2, t3, t4, t5, sb, ss, sw, fd, sr, kS, ot, asd, stt, ik, tp, td, fr, tt, vl, wr, bo, so, nu, mv, hPc, hPm, hRel⟩ := hLS
  obtain ⟨N, h8, hN, hA, hR⟩ := hRel.1
  obtain ⟨N2, k8, kN, kk2⟩ := hRel.2.1
  obtain ⟨T, hT2, rfl, rfl⟩ := hRel.2.2.2.2.1
  have hNs : sr 0 = nI N := (hA 0 (by omega)).symm.trans hN
  have hz : ∀ t, t < 4 → ∃ z : Nat, z ≤ 40 ∧ ss t = nI z := fun t ht => (hRel.2.2.2.2.2.2.1 t ht).2.2
  have hzs : ∀ t, t < 4 → ∃ z : Nat, z ≤ 40 ∧ so t = nI z := fun t ht => by
    obtain ⟨-, e1, z, e2, e3⟩ := hRel.2.2.2.2.2.2.1 t ht
    exact ⟨z, e2, e1.symm.trans e3⟩
  refine lv_aload_n hx hb dL_law_516 rfl (lv_at hl 2 rfl) ?_
  refine lv_aload_n hx hb dL_law_517 rfl (lv_at hl 1 rfl) ?_
  refine lv_iload_n hx hb dL_law_518 rfl (lv_at hl 0 rfl) ?_
  refine lv_iconst (v := nI 1) hx hb dL_law_519 (by decide) ?_
  refine lvn_iadd hx hb dL_law_520 ?_
  refine lq_sld hx hb hX hbl hbA hS (show i + 1 < L by omega) (by omega) dL_law_521 ?_
  refine lq_C S hKc hPc hS hcA (c_X4_fund hN h8) gL_law_X4_fund i_X4_fund rfl ⟨Nat.le_of_ble_eq_true rfl, Nat.le_of_ble_eq_true rfl⟩ rfl hl.1 (As := [.int (xs (i + 1))]) (rest := []) rfl (Nat.le_of_ble_eq_true rfl) ⟨Nat.le_of_ble_eq_true rfl, Nat.le_of_ble_eq_true rfl⟩ dL_law_522 (fun p1q t2q t3q t4q t5q H1 locs1 hPc hk hS => ?_)
  have hPm := keepM hds hPm hk
  refine lv_aload_n hx hb dL_law_525 rfl (lv_at hl 3 rfl) ?_
  refine lv_aload_n hx hb dL_law_526 rfl (lv_at hl 1 rfl) ?_
  refine lv_iload_n hx hb dL_law_527 rfl (lv_at hl 0 rfl) ?_
  refine lv_iconst (v := nI 1) hx hb dL_law_528 (by decide) ?_
  refine lvn_iadd hx hb dL_law_529 ?_
  refine lq_sld hx hb hX hbl hbA hS (show i + 1 < L by omega) (by omega) dL_law_530 ?_
  refine lq_M S hKm hPm hS hmA (c_X5_fund hNs h8) gL_law_X5_fund i_X5_fund rfl ⟨Nat.le_of_ble_eq_true rfl, Nat.le_of_ble_eq_true rfl⟩ rfl hl.1 (As := [.int (xs (i + 1))]) rfl (Nat.le_of_ble_eq_true rfl) ⟨Nat.le_of_ble_eq_true rfl, Nat.le_of_ble_eq_true rfl⟩ dL_law_531 (fun otq asdq frq ttq vlq wrq mvq H2 locs2 hPm hk hS => ?_)
  have hPc := keepC hds hPc hk
  have hs := sim_fund hRel h8 hN hA hR (q := xs (i + 1))
  refine lv_icmp_eq (tgt := 1308) hx hb dL_law_534 (by decide) (fun _ => kk _ _ ⟨_, _, _, _, _, _, _, _, _, _, _, _, _, _, _, _, _, _, _, _, _, _, _, _, _, _, _, _, _, _, hPc, hPm, hs.2⟩ hS) (fun q => absurd (Value.int.inj (Option.some.inj hs.1)) q)
set_option maxHeartbeats 1000000 in
set_option maxRecDepth 100000 in
theorem law_empty {p : Program} {l : Launch} {e : Env} {s : State} {m : MethodId} {below : List Frame} {meth : Method} {c : Code} {b L : Nat} {xs : Nat → Int32} {D : va_G} {cy : Nat → ClassId} {ad am kq vq : Nat → Nat} {Q : State → Prop} {i : Nat} {H : Heap} {locs : List Loc} {ls : Array Slot} (hL : L ≤ 3072) (hi : i + 6 ≤ L) (C0 : lw_At p s m meth c b L xs) (hC : LCx D cy ad am kq vq s) (hS : va_S (fun q => s.heap.size ≤ q) s.heap H locs) (hl : lv_has ls 4 [(3, .int (nI i)), (0, .ref b), (1, .ref (ad 0)), (2, .ref (am 0))]) (hLS : LSt D cy ad am H) (kk : ∀ (H1 : Heap) (locs1 : List Loc), LSt D cy ad am H1 → va_S (fun q => s.heap.size ≤ q) s.heap H1 locs1 → W p l e room_1 s m #[Value.ref b] below meth c H1 locs1 54 1177 Q (F0 m 1308 ls [])) : W p l e room_1 s m #[Value.ref b] below meth c H locs 54 1177 Q (F0 m 539 ls []) := by
  obtain ⟨hx, hb, hr, hml, hown, hts, hX, hbl, hlocks, hgv⟩ := id C0
  have hown : s.vm.findClass RL = some m.cls := hown
  have hbA : ¬ (fun q : Nat => s.heap.size ≤ q) b := Nat.not_le.mpr hbl
  have S : CallFix p m c cL_law 4 s #[Value.ref b] wsL_law RL := ⟨hx, hb, hml, hown, fun w h => hts w (wsL_law_in w h)⟩
  obtain ⟨hKc, hKm, hTg, hds, hcA, hmA⟩ := hC
  obtain ⟨p0, p1, p2, ke, tb, t1, t2, t3, t4, t5, sb, ss, sw, fd, sr, kS, ot, asd, stt, ik, tp, td, fr, tt, vl, wr, bo, so, nu, mv, hPc, hPm, hRel⟩ := hLS
  obtain ⟨N, h8, hN, hA, hR⟩ := hRel.1
  obtain ⟨N2, k8, kN, kk2⟩ := hRel.2.1
  obtain ⟨T, hT2, rfl, rfl⟩ := hRel.2.2.2.2.1
  have hNs : sr 0 = nI N := (hA 0 (by omega)).symm.trans hN
  have hz : ∀ t, t < 4 → ∃ z : Nat, z ≤ 40 ∧ ss t = nI z := fun t ht => (hRel.2.2.2.2.2.2.1 t ht).2.2
  have hzs : ∀ t, t < 4 → ∃ z : Nat, z ≤ 40 ∧ so t = nI z := fun t ht => by
    obtain ⟨-, e1, z, e2, e3⟩ := hRel.2.2.2.2.2.2.1 t ht
    exact ⟨z, e2, e1.symm.trans e3⟩
  refine lv_aload_n hx hb dL_law_539 rfl (lv_at hl 2 rfl) ?_
  refine lq_C S hKc hPc hS hcA (c_X4_empty hN h8) gL_law_X4_empty i_X4_empty rfl ⟨Nat.le_of_ble_eq_true rfl, Nat.le_of_ble_eq_true rfl⟩ rfl hl.1 (As := []) (rest := []) rfl (Nat.le_of_ble_eq_true rfl) ⟨Nat.le_of_ble_eq_true rfl, Nat.le_of_ble_eq_true rfl⟩ dL_law_540 (fun p1q t2q t3q t4q t5q H1 locs1 hPc hk hS => ?_)
  have hPm := keepM hds hPm hk
  refine lv_aload_n hx hb dL_law_543 rfl (lv_at hl 3 rfl) ?_
  refine lq_M S hKm hPm hS hmA (c_X5_empty hNs h8) gL_law_X5_empty i_X5_empty rfl ⟨Nat.le_of_ble_eq_true rfl, Nat.le_of_ble_eq_true rfl⟩ rfl hl.1 (As := []) rfl (Nat.le_of_ble_eq_true rfl) ⟨Nat.le_of_ble_eq_true rfl, Nat.le_of_ble_eq_true rfl⟩ dL_law_544 (fun otq asdq frq ttq vlq wrq mvq H2 locs2 hPm hk hS => ?_)
  have hPc := keepC hds hPc hk
  have hs := sim_empty hRel h8 hN hA hR 
  refine lv_icmp_eq (tgt := 1308) hx hb dL_law_547 (by decide) (fun _ => kk _ _ ⟨_, _, _, _, _, _, _, _, _, _, _, _, _, _, _, _, _, _, _, _, _, _, _, _, _, _, _, _, _, _, hPc, hPm, hs.2⟩ hS) (fun q => absurd (Value.int.inj (Option.some.inj hs.1)) q)
set_option maxHeartbeats 1000000 in
set_option maxRecDepth 100000 in
theorem law_comes {p : Program} {l : Launch} {e : Env} {s : State} {m : MethodId} {below : List Frame} {meth : Method} {c : Code} {b L : Nat} {xs : Nat → Int32} {D : va_G} {cy : Nat → ClassId} {ad am kq vq : Nat → Nat} {Q : State → Prop} {i : Nat} {H : Heap} {locs : List Loc} {ls : Array Slot} (hL : L ≤ 3072) (hi : i + 6 ≤ L) (C0 : lw_At p s m meth c b L xs) (hC : LCx D cy ad am kq vq s) (hS : va_S (fun q => s.heap.size ≤ q) s.heap H locs) (hl : lv_has ls 4 [(3, .int (nI i)), (0, .ref b), (1, .ref (ad 0)), (2, .ref (am 0))]) (hLS : LSt D cy ad am H) (kk : ∀ (H1 : Heap) (locs1 : List Loc), LSt D cy ad am H1 → va_S (fun q => s.heap.size ≤ q) s.heap H1 locs1 → W p l e room_1 s m #[Value.ref b] below meth c H1 locs1 54 1177 Q (F0 m 1308 ls [])) : W p l e room_1 s m #[Value.ref b] below meth c H locs 54 1177 Q (F0 m 552 ls []) := by
  obtain ⟨hx, hb, hr, hml, hown, hts, hX, hbl, hlocks, hgv⟩ := id C0
  have hown : s.vm.findClass RL = some m.cls := hown
  have hbA : ¬ (fun q : Nat => s.heap.size ≤ q) b := Nat.not_le.mpr hbl
  have S : CallFix p m c cL_law 4 s #[Value.ref b] wsL_law RL := ⟨hx, hb, hml, hown, fun w h => hts w (wsL_law_in w h)⟩
  obtain ⟨hKc, hKm, hTg, hds, hcA, hmA⟩ := hC
  obtain ⟨p0, p1, p2, ke, tb, t1, t2, t3, t4, t5, sb, ss, sw, fd, sr, kS, ot, asd, stt, ik, tp, td, fr, tt, vl, wr, bo, so, nu, mv, hPc, hPm, hRel⟩ := hLS
  obtain ⟨N, h8, hN, hA, hR⟩ := hRel.1
  obtain ⟨N2, k8, kN, kk2⟩ := hRel.2.1
  obtain ⟨T, hT2, rfl, rfl⟩ := hRel.2.2.2.2.1
  have hNs : sr 0 = nI N := (hA 0 (by omega)).symm.trans hN
  have hz : ∀ t, t < 4 → ∃ z : Nat, z ≤ 40 ∧ ss t = nI z := fun t ht => (hRel.2.2.2.2.2.2.1 t ht).2.2
  have hzs : ∀ t, t < 4 → ∃ z : Nat, z ≤ 40 ∧ so t = nI z := fun t ht => by
    obtain ⟨-, e1, z, e2, e3⟩ := hRel.2.2.2.2.2.2.1 t ht
    exact ⟨z, e2, e1.symm.trans e3⟩
  refine lv_aload_n hx hb dL_law_552 rfl (lv_at hl 2 rfl) ?_
  refine lv_aload_n hx hb dL_law_553 rfl (lv_at hl 1 rfl) ?_
  refine lv_iload_n hx hb dL_law_554 rfl (lv_at hl 0 rfl) ?_
  refine lv_iconst (v := nI 1) hx hb dL_law_555 (by decide) ?_
  refine lvn_iadd hx hb dL_law_556 ?_
  refine lq_sld hx hb hX hbl hbA hS (show i + 1 < L by omega) (by omega) dL_law_557 ?_
  refine lv_aload_n hx hb dL_law_558 rfl (lv_at hl 1 rfl) ?_
  refine lv_iload_n hx hb dL_law_559 rfl (lv_at hl 0 rfl) ?_
  refine lv_iconst (v := nI 2) hx hb dL_law_560 (by decide) ?_
  refine lvn_iadd hx hb dL_law_561 ?_
  refine lq_sld hx hb hX hbl hbA hS (show i + 2 < L by omega) (by omega) dL_law_562 ?_
  refine lq_C S hKc hPc hS hcA (c_X4_comes hN h8) gL_law_X4_comes i_X4_comes rfl ⟨Nat.le_of_ble_eq_true rfl, Nat.le_of_ble_eq_true rfl⟩ rfl hl.1 (As := [.int (xs (i + 1)), .int (xs (i + 2))]) (rest := []) rfl (Nat.le_of_ble_eq_true rfl) ⟨Nat.le_of_ble_eq_true rfl, Nat.le_of_ble_eq_true rfl⟩ dL_law_563 (fun p1q t2q t3q t4q t5q H1 locs1 hPc hk hS => ?_)
  have hPm := keepM hds hPm hk
  refine lv_aload_n hx hb dL_law_566 rfl (lv_at hl 3 rfl) ?_
  refine lv_aload_n hx hb dL_law_567 rfl (lv_at hl 1 rfl) ?_
  refine lv_iload_n hx hb dL_law_568 rfl (lv_at hl 0 rfl) ?_
  refine lv_iconst (v := nI 1) hx hb dL_law_569 (by decide) ?_
  refine lvn_iadd hx hb dL_law_570 ?_
  refine lq_sld hx hb hX hbl hbA hS (show i + 1 < L by omega) (by omega) dL_law_571 ?_
  refine lv_aload_n hx hb dL_law_572 rfl (lv_at hl 1 rfl) ?_
  refine lv_iload_n hx hb dL_law_573 rfl (lv_at hl 0 rfl) ?_
  refine lv_iconst (v := nI 2) hx hb dL_law_574 (by decide) ?_
  refine lvn_iadd hx hb dL_law_575 ?_
  refine lq_sld hx hb hX hbl hbA hS (show i + 2 < L by omega) (by omega) dL_law_576 ?_
  refine lq_M S hKm hPm hS hmA (c_X5_comes hNs h8) gL_law_X5_comes i_X5_comes rfl ⟨Nat.le_of_ble_eq_true rfl, Nat.le_of_ble_eq_true rfl⟩ rfl hl.1 (As := [.int (xs (i + 1)), .int (xs (i + 2))]) rfl (Nat.le_of_ble_eq_true rfl) ⟨Nat.le_of_ble_eq_true rfl, Nat.le_of_ble_eq_true rfl⟩ dL_law_577 (fun otq asdq frq ttq vlq wrq mvq H2 locs2 hPm hk hS => ?_)
  have hPc := keepC hds hPc hk
  have hs := sim_comes hRel h8 hN hA hR (q := xs (i + 1)) (o := xs (i + 2))
  refine lv_icmp_eq (tgt := 1308) hx hb dL_law_580 (by decide) (fun _ => kk _ _ ⟨_, _, _, _, _, _, _, _, _, _, _, _, _, _, _, _, _, _, _, _, _, _, _, _, _, _, _, _, _, _, hPc, hPm, hs.2⟩ hS) (fun q => absurd (Value.int.inj (Option.some.inj hs.1)) q)
set_option maxHeartbeats 1000000 in
set_option maxRecDepth 100000 in
theorem law_meet {p : Program} {l : Launch} {e : Env} {s : State} {m : MethodId} {below : List Frame} {meth : Method} {c : Code} {b L : Nat} {xs : Nat → Int32} {D : va_G} {cy : Nat → ClassId} {ad am kq vq : Nat → Nat} {Q : State → Prop} {i : Nat} {H : Heap} {locs : List Loc} {ls : Array Slot} (hL : L ≤ 3072) (hi : i + 6 ≤ L) (C0 : lw_At p s m meth c b L xs) (hC : LCx D cy ad am kq vq s) (hS : va_S (fun q => s.heap.size ≤ q) s.heap H locs) (hl : lv_has ls 4 [(3, .int (nI i)), (0, .ref b), (1, .ref (ad 0)), (2, .ref (am 0))]) (hLS : LSt D cy ad am H) (kk : ∀ (H1 : Heap) (locs1 : List Loc), LSt D cy ad am H1 → va_S (fun q => s.heap.size ≤ q) s.heap H1 locs1 → W p l e room_1 s m #[Value.ref b] below meth c H1 locs1 54 1177 Q (F0 m 1308 ls [])) : W p l e room_1 s m #[Value.ref b] below meth c H locs 54 1177 Q (F0 m 585 ls []) := by
  obtain ⟨hx, hb, hr, hml, hown, hts, hX, hbl, hlocks, hgv⟩ := id C0
  have hown : s.vm.findClass RL = some m.cls := hown
  have hbA : ¬ (fun q : Nat => s.heap.size ≤ q) b := Nat.not_le.mpr hbl
  have S : CallFix p m c cL_law 4 s #[Value.ref b] wsL_law RL := ⟨hx, hb, hml, hown, fun w h => hts w (wsL_law_in w h)⟩
  obtain ⟨hKc, hKm, hTg, hds, hcA, hmA⟩ := hC
  obtain ⟨p0, p1, p2, ke, tb, t1, t2, t3, t4, t5, sb, ss, sw, fd, sr, kS, ot, asd, stt, ik, tp, td, fr, tt, vl, wr, bo, so, nu, mv, hPc, hPm, hRel⟩ := hLS
  obtain ⟨N, h8, hN, hA, hR⟩ := hRel.1
  obtain ⟨N2, k8, kN, kk2⟩ := hRel.2.1
  obtain ⟨T, hT2, rfl, rfl⟩ := hRel.2.2.2.2.1
  have hNs : sr 0 = nI N := (hA 0 (by omega)).symm.trans hN
  have hz : ∀ t, t < 4 → ∃ z : Nat, z ≤ 40 ∧ ss t = nI z := fun t ht => (hRel.2.2.2.2.2.2.1 t ht).2.2
  have hzs : ∀ t, t < 4 → ∃ z : Nat, z ≤ 40 ∧ so t = nI z := fun t ht => by
    obtain ⟨-, e1, z, e2, e3⟩ := hRel.2.2.2.2.2.2.1 t ht
    exact ⟨z, e2, e1.symm.trans e3⟩
  refine lv_aload_n hx hb dL_law_585 rfl (lv_at hl 2 rfl) ?_
  refine lv_aload_n hx hb dL_law_586 rfl (lv_at hl 1 rfl) ?_
  refine lv_iload_n hx hb dL_law_587 rfl (lv_at hl 0 rfl) ?_
  refine lv_iconst (v := nI 1) hx hb dL_law_588 (by decide) ?_
  refine lvn_iadd hx hb dL_law_589 ?_
  refine lq_sld hx hb hX hbl hbA hS (show i + 1 < L by omega) (by omega) dL_law_590 ?_
  refine lv_aload_n hx hb dL_law_591 rfl (lv_at hl 1 rfl) ?_
  refine lv_iload_n hx hb dL_law_592 rfl (lv_at hl 0 rfl) ?_
  refine lv_iconst (v := nI 2) hx hb dL_law_593 (by decide) ?_
  refine lvn_iadd hx hb dL_law_594 ?_
  refine lq_sld hx hb hX hbl hbA hS (show i + 2 < L by omega) (by omega) dL_law_595 ?_
  refine lq_C S hKc hPc hS hcA (c_X4_meet hN h8) gL_law_X4_meet i_X4_meet rfl ⟨Nat.le_of_ble_eq_true rfl, Nat.le_of_ble_eq_true rfl⟩ rfl hl.1 (As := [.int (xs (i + 1)), .int (xs (i + 2))]) (rest := []) rfl (Nat.le_of_ble_eq_true rfl) ⟨Nat.le_of_ble_eq_true rfl, Nat.le_of_ble_eq_true rfl⟩ dL_law_596 (fun p1q t2q t3q t4q t5q H1 locs1 hPc hk hS => ?_)
  have hPm := keepM hds hPm hk
  refine lv_aload_n hx hb dL_law_599 rfl (lv_at hl 3 rfl) ?_
  refine lv_aload_n hx hb dL_law_600 rfl (lv_at hl 1 rfl) ?_
  refine lv_iload_n hx hb dL_law_601 rfl (lv_at hl 0 rfl) ?_
  refine lv_iconst (v := nI 1) hx hb dL_law_602 (by decide) ?_
  refine lvn_iadd hx hb dL_law_603 ?_
  refine lq_sld hx hb hX hbl hbA hS (show i + 1 < L by omega) (by omega) dL_law_604 ?_
  refine lv_aload_n hx hb dL_law_605 rfl (lv_at hl 1 rfl) ?_
  refine lv_iload_n hx hb dL_law_606 rfl (lv_at hl 0 rfl) ?_
  refine lv_iconst (v := nI 2) hx hb dL_law_607 (by decide) ?_
  refine lvn_iadd hx hb dL_law_608 ?_
  refine lq_sld hx hb hX hbl hbA hS (show i + 2 < L by omega) (by omega) dL_law_609 ?_
  refine lq_M S hKm hPm hS hmA (c_X5_meet hNs h8) gL_law_X5_meet i_X5_meet rfl ⟨Nat.le_of_ble_eq_true rfl, Nat.le_of_ble_eq_true rfl⟩ rfl hl.1 (As := [.int (xs (i + 1)), .int (xs (i + 2))]) rfl (Nat.le_of_ble_eq_true rfl) ⟨Nat.le_of_ble_eq_true rfl, Nat.le_of_ble_eq_true rfl⟩ dL_law_610 (fun otq asdq frq ttq vlq wrq mvq H2 locs2 hPm hk hS => ?_)
  have hPc := keepC hds hPc hk
  have hs := sim_meet hRel h8 hN hA hR (q := xs (i + 1)) (o := xs (i + 2))
  refine lv_icmp_eq (tgt := 1308) hx hb dL_law_613 (by decide) (fun _ => kk _ _ ⟨_, _, _, _, _, _, _, _, _, _, _, _, _, _, _, _, _, _, _, _, _, _, _, _, _, _, _, _, _, _, hPc, hPm, hs.2⟩ hS) (fun q => absurd (Value.int.inj (Option.some.inj hs.1)) q)
set_option maxHeartbeats 1000000 in
set_option maxRecDepth 100000 in
theorem law_worn {p : Program} {l : Launch} {e : Env} {s : State} {m : MethodId} {below : List Frame} {meth : Method} {c : Code} {b L : Nat} {xs : Nat → Int32} {D : va_G} {cy : Nat → ClassId} {ad am kq vq : Nat → Nat} {Q : State → Prop} {i : Nat} {H : Heap} {locs : List Loc} {ls : Array Slot} (hL : L ≤ 3072) (hi : i + 6 ≤ L) (C0 : lw_At p s m meth c b L xs) (hC : LCx D cy ad am kq vq s) (hS : va_S (fun q => s.heap.size ≤ q) s.heap H locs) (hl : lv_has ls 4 [(3, .int (nI i)), (0, .ref b), (1, .ref (ad 0)), (2, .ref (am 0))]) (hLS : LSt D cy ad am H) (kk : ∀ (H1 : Heap) (locs1 : List Loc), LSt D cy ad am H1 → va_S (fun q => s.heap.size ≤ q) s.heap H1 locs1 → W p l e room_1 s m #[Value.ref b] below meth c H1 locs1 54 1177 Q (F0 m 1308 ls [])) : W p l e room_1 s m #[Value.ref b] below meth c H locs 54 1177 Q (F0 m 618 ls []) := by
  obtain ⟨hx, hb, hr, hml, hown, hts, hX, hbl, hlocks, hgv⟩ := id C0
  have hown : s.vm.findClass RL = some m.cls := hown
  have hbA : ¬ (fun q : Nat => s.heap.size ≤ q) b := Nat.not_le.mpr hbl
  have S : CallFix p m c cL_law 4 s #[Value.ref b] wsL_law RL := ⟨hx, hb, hml, hown, fun w h => hts w (wsL_law_in w h)⟩
  obtain ⟨hKc, hKm, hTg, hds, hcA, hmA⟩ := hC
  obtain ⟨p0, p1, p2, ke, tb, t1, t2, t3, t4, t5, sb, ss, sw, fd, sr, kS, ot, asd, stt, ik, tp, td, fr, tt, vl, wr, bo, so, nu, mv, hPc, hPm, hRel⟩ := hLS
  obtain ⟨N, h8, hN, hA, hR⟩ := hRel.1
  obtain ⟨N2, k8, kN, kk2⟩ := hRel.2.1
  obtain ⟨T, hT2, rfl, rfl⟩ := hRel.2.2.2.2.1
  have hNs : sr 0 = nI N := (hA 0 (by omega)).symm.trans hN
  have hz : ∀ t, t < 4 → ∃ z : Nat, z ≤ 40 ∧ ss t = nI z := fun t ht => (hRel.2.2.2.2.2.2.1 t ht).2.2
  have hzs : ∀ t, t < 4 → ∃ z : Nat, z ≤ 40 ∧ so t = nI z := fun t ht => by
    obtain ⟨-, e1, z, e2, e3⟩ := hRel.2.2.2.2.2.2.1 t ht
    exact ⟨z, e2, e1.symm.trans e3⟩
  refine lv_aload_n hx hb dL_law_618 rfl (lv_at hl 2 rfl) ?_
  refine lv_aload_n hx hb dL_law_619 rfl (lv_at hl 1 rfl) ?_
  refine lv_iload_n hx hb dL_law_620 rfl (lv_at hl 0 rfl) ?_
  refine lv_iconst (v := nI 1) hx hb dL_law_621 (by decide) ?_
  refine lvn_iadd hx hb dL_law_622 ?_
  refine lq_sld hx hb hX hbl hbA hS (show i + 1 < L by omega) (by omega) dL_law_623 ?_
  refine lq_C S hKc hPc hS hcA (c_X4_worn hN h8) gL_law_X4_worn i_X4_worn rfl ⟨Nat.le_of_ble_eq_true rfl, Nat.le_of_ble_eq_true rfl⟩ rfl hl.1 (As := [.int (xs (i + 1))]) (rest := []) rfl (Nat.le_of_ble_eq_true rfl) ⟨Nat.le_of_ble_eq_true rfl, Nat.le_of_ble_eq_true rfl⟩ dL_law_624 (fun p1q t2q t3q t4q t5q H1 locs1 hPc hk hS => ?_)
  have hPm := keepM hds hPm hk
  refine lv_aload_n hx hb dL_law_627 rfl (lv_at hl 3 rfl) ?_
  refine lv_aload_n hx hb dL_law_628 rfl (lv_at hl 1 rfl) ?_
  refine lv_iload_n hx hb dL_law_629 rfl (lv_at hl 0 rfl) ?_
  refine lv_iconst (v := nI 1) hx hb dL_law_630 (by decide) ?_
  refine lvn_iadd hx hb dL_law_631 ?_
  refine lq_sld hx hb hX hbl hbA hS (show i + 1 < L by omega) (by omega) dL_law_632 ?_
  refine lq_M S hKm hPm hS hmA (c_X5_worn hNs h8) gL_law_X5_worn i_X5_worn rfl ⟨Nat.le_of_ble_eq_true rfl, Nat.le_of_ble_eq_true rfl⟩ rfl hl.1 (As := [.int (xs (i + 1))]) rfl (Nat.le_of_ble_eq_true rfl) ⟨Nat.le_of_ble_eq_true rfl, Nat.le_of_ble_eq_true rfl⟩ dL_law_633 (fun otq asdq frq ttq vlq wrq mvq H2 locs2 hPm hk hS => ?_)
  have hPc := keepC hds hPc hk
  have hs := sim_worn hRel h8 hN hA hR (q := xs (i + 1))
  refine lv_icmp_eq (tgt := 1308) hx hb dL_law_636 (by decide) (fun _ => kk _ _ ⟨_, _, _, _, _, _, _, _, _, _, _, _, _, _, _, _, _, _, _, _, _, _, _, _, _, _, _, _, _, _, hPc, hPm, hs.2⟩ hS) (fun q => absurd (Value.int.inj (Option.some.inj hs.1)) q)
set_option maxHeartbeats 1000000 in
set_option maxRecDepth 100000 in
theorem law_stop {p : Program} {l : Launch} {e : Env} {s : State} {m : MethodId} {below : List Frame} {meth : Method} {c : Code} {b L : Nat} {xs : Nat → Int32} {D : va_G} {cy : Nat → ClassId} {ad am kq vq : Nat → Nat} {Q : State → Prop} {i : Nat} {H : Heap} {locs : List Loc} {ls : Array Slot} (hL : L ≤ 3072) (hi : i + 6 ≤ L) (C0 : lw_At p s m meth c b L xs) (hC : LCx D cy ad am kq vq s) (hS : va_S (fun q => s.heap.size ≤ q) s.heap H locs) (hl : lv_has ls 4 [(3, .int (nI i)), (0, .ref b), (1, .ref (ad 0)), (2, .ref (am 0))]) (hLS : LSt D cy ad am H) (kk : ∀ (H1 : Heap) (locs1 : List Loc), LSt D cy ad am H1 → va_S (fun q => s.heap.size ≤ q) s.heap H1 locs1 → W p l e room_1 s m #[Value.ref b] below meth c H1 locs1 54 1177 Q (F0 m 1308 ls [])) : W p l e room_1 s m #[Value.ref b] below meth c H locs 54 1177 Q (F0 m 641 ls []) := by
  obtain ⟨hx, hb, hr, hml, hown, hts, hX, hbl, hlocks, hgv⟩ := id C0
  have hown : s.vm.findClass RL = some m.cls := hown
  have hbA : ¬ (fun q : Nat => s.heap.size ≤ q) b := Nat.not_le.mpr hbl
  have S : CallFix p m c cL_law 4 s #[Value.ref b] wsL_law RL := ⟨hx, hb, hml, hown, fun w h => hts w (wsL_law_in w h)⟩
  obtain ⟨hKc, hKm, hTg, hds, hcA, hmA⟩ := hC
  obtain ⟨p0, p1, p2, ke, tb, t1, t2, t3, t4, t5, sb, ss, sw, fd, sr, kS, ot, asd, stt, ik, tp, td, fr, tt, vl, wr, bo, so, nu, mv, hPc, hPm, hRel⟩ := hLS
  obtain ⟨N, h8, hN, hA, hR⟩ := hRel.1
  obtain ⟨N2, k8, kN, kk2⟩ := hRel.2.1
  obtain ⟨T, hT2, rfl, rfl⟩ := hRel.2.2.2.2.1
  have hNs : sr 0 = nI N := (hA 0 (by omega)).symm.trans hN
  have hz : ∀ t, t < 4 → ∃ z : Nat, z ≤ 40 ∧ ss t = nI z := fun t ht => (hRel.2.2.2.2.2.2.1 t ht).2.2
  have hzs : ∀ t, t < 4 → ∃ z : Nat, z ≤ 40 ∧ so t = nI z := fun t ht => by
    obtain ⟨-, e1, z, e2, e3⟩ := hRel.2.2.2.2.2.2.1 t ht
    exact ⟨z, e2, e1.symm.trans e3⟩
  refine lv_aload_n hx hb dL_law_641 rfl (lv_at hl 2 rfl) ?_
  refine lv_aload_n hx hb dL_law_642 rfl (lv_at hl 1 rfl) ?_
  refine lv_iload_n hx hb dL_law_643 rfl (lv_at hl 0 rfl) ?_
  refine lv_iconst (v := nI 1) hx hb dL_law_644 (by decide) ?_
  refine lvn_iadd hx hb dL_law_645 ?_
  refine lq_sld hx hb hX hbl hbA hS (show i + 1 < L by omega) (by omega) dL_law_646 ?_
  refine lq_C S hKc hPc hS hcA (c_X4_stop hN h8) gL_law_X4_stop i_X4_stop rfl ⟨Nat.le_of_ble_eq_true rfl, Nat.le_of_ble_eq_true rfl⟩ rfl hl.1 (As := [.int (xs (i + 1))]) (rest := []) rfl (Nat.le_of_ble_eq_true rfl) ⟨Nat.le_of_ble_eq_true rfl, Nat.le_of_ble_eq_true rfl⟩ dL_law_647 (fun p1q t2q t3q t4q t5q H1 locs1 hPc hk hS => ?_)
  have hPm := keepM hds hPm hk
  refine lv_aload_n hx hb dL_law_650 rfl (lv_at hl 3 rfl) ?_
  refine lv_aload_n hx hb dL_law_651 rfl (lv_at hl 1 rfl) ?_
  refine lv_iload_n hx hb dL_law_652 rfl (lv_at hl 0 rfl) ?_
  refine lv_iconst (v := nI 1) hx hb dL_law_653 (by decide) ?_
  refine lvn_iadd hx hb dL_law_654 ?_
  refine lq_sld hx hb hX hbl hbA hS (show i + 1 < L by omega) (by omega) dL_law_655 ?_
  refine lq_M S hKm hPm hS hmA (c_X5_stop hNs h8) gL_law_X5_stop i_X5_stop rfl ⟨Nat.le_of_ble_eq_true rfl, Nat.le_of_ble_eq_true rfl⟩ rfl hl.1 (As := [.int (xs (i + 1))]) rfl (Nat.le_of_ble_eq_true rfl) ⟨Nat.le_of_ble_eq_true rfl, Nat.le_of_ble_eq_true rfl⟩ dL_law_656 (fun otq asdq frq ttq vlq wrq mvq H2 locs2 hPm hk hS => ?_)
  have hPc := keepC hds hPc hk
  have hs := sim_stop hRel h8 hN hA hR (q := xs (i + 1))
  refine lv_icmp_eq (tgt := 1308) hx hb dL_law_659 (by decide) (fun _ => kk _ _ ⟨_, _, _, _, _, _, _, _, _, _, _, _, _, _, _, _, _, _, _, _, _, _, _, _, _, _, _, _, _, _, hPc, hPm, hs.2⟩ hS) (fun q => absurd (Value.int.inj (Option.some.inj hs.1)) q)
set_option maxHeartbeats 1000000 in
set_option maxRecDepth 100000 in
theorem law_penny {p : Program} {l : Launch} {e : Env} {s : State} {m : MethodId} {below : List Frame} {meth : Method} {c : Code} {b L : Nat} {xs : Nat → Int32} {D : va_G} {cy : Nat → ClassId} {ad am kq vq : Nat → Nat} {Q : State → Prop} {i : Nat} {H : Heap} {locs : List Loc} {ls : Array Slot} (hL : L ≤ 3072) (hi : i + 6 ≤ L) (C0 : lw_At p s m meth c b L xs) (hC : LCx D cy ad am kq vq s) (hS : va_S (fun q => s.heap.size ≤ q) s.heap H locs) (hl : lv_has ls 4 [(3, .int (nI i)), (0, .ref b), (1, .ref (ad 0)), (2, .ref (am 0))]) (hLS : LSt D cy ad am H) (kk : ∀ (H1 : Heap) (locs1 : List Loc), LSt D cy ad am H1 → va_S (fun q => s.heap.size ≤ q) s.heap H1 locs1 → W p l e room_1 s m #[Value.ref b] below meth c H1 locs1 54 1177 Q (F0 m 1308 ls [])) : W p l e room_1 s m #[Value.ref b] below meth c H locs 54 1177 Q (F0 m 664 ls []) := by
  obtain ⟨hx, hb, hr, hml, hown, hts, hX, hbl, hlocks, hgv⟩ := id C0
  have hown : s.vm.findClass RL = some m.cls := hown
  have hbA : ¬ (fun q : Nat => s.heap.size ≤ q) b := Nat.not_le.mpr hbl
  have S : CallFix p m c cL_law 4 s #[Value.ref b] wsL_law RL := ⟨hx, hb, hml, hown, fun w h => hts w (wsL_law_in w h)⟩
  obtain ⟨hKc, hKm, hTg, hds, hcA, hmA⟩ := hC
  obtain ⟨p0, p1, p2, ke, tb, t1, t2, t3, t4, t5, sb, ss, sw, fd, sr, kS, ot, asd, stt, ik, tp, td, fr, tt, vl, wr, bo, so, nu, mv, hPc, hPm, hRel⟩ := hLS
  obtain ⟨N, h8, hN, hA, hR⟩ := hRel.1
  obtain ⟨N2, k8, kN, kk2⟩ := hRel.2.1
  obtain ⟨T, hT2, rfl, rfl⟩ := hRel.2.2.2.2.1
  have hNs : sr 0 = nI N := (hA 0 (by omega)).symm.trans hN
  have hz : ∀ t, t < 4 → ∃ z : Nat, z ≤ 40 ∧ ss t = nI z := fun t ht => (hRel.2.2.2.2.2.2.1 t ht).2.2
  have hzs : ∀ t, t < 4 → ∃ z : Nat, z ≤ 40 ∧ so t = nI z := fun t ht => by
    obtain ⟨-, e1, z, e2, e3⟩ := hRel.2.2.2.2.2.2.1 t ht
    exact ⟨z, e2, e1.symm.trans e3⟩
  refine lv_aload_n hx hb dL_law_664 rfl (lv_at hl 2 rfl) ?_
  refine lv_aload_n hx hb dL_law_665 rfl (lv_at hl 1 rfl) ?_
  refine lv_iload_n hx hb dL_law_666 rfl (lv_at hl 0 rfl) ?_
  refine lv_iconst (v := nI 1) hx hb dL_law_667 (by decide) ?_
  refine lvn_iadd hx hb dL_law_668 ?_
  refine lq_sld hx hb hX hbl hbA hS (show i + 1 < L by omega) (by omega) dL_law_669 ?_
  refine lv_aload_n hx hb dL_law_670 rfl (lv_at hl 1 rfl) ?_
  refine lv_iload_n hx hb dL_law_671 rfl (lv_at hl 0 rfl) ?_
  refine lv_iconst (v := nI 2) hx hb dL_law_672 (by decide) ?_
  refine lvn_iadd hx hb dL_law_673 ?_
  refine lq_sld hx hb hX hbl hbA hS (show i + 2 < L by omega) (by omega) dL_law_674 ?_
  refine lq_C S hKc hPc hS hcA (c_X4_penny hN h8) gL_law_X4_penny i_X4_penny rfl ⟨Nat.le_of_ble_eq_true rfl, Nat.le_of_ble_eq_true rfl⟩ rfl hl.1 (As := [.int (xs (i + 1)), .int (xs (i + 2))]) (rest := []) rfl (Nat.le_of_ble_eq_true rfl) ⟨Nat.le_of_ble_eq_true rfl, Nat.le_of_ble_eq_true rfl⟩ dL_law_675 (fun p1q t2q t3q t4q t5q H1 locs1 hPc hk hS => ?_)
  have hPm := keepM hds hPm hk
  refine lv_aload_n hx hb dL_law_678 rfl (lv_at hl 3 rfl) ?_
  refine lv_aload_n hx hb dL_law_679 rfl (lv_at hl 1 rfl) ?_
  refine lv_iload_n hx hb dL_law_680 rfl (lv_at hl 0 rfl) ?_
  refine lv_iconst (v := nI 1) hx hb dL_law_681 (by decide) ?_
  refine lvn_iadd hx hb dL_law_682 ?_
  refine lq_sld hx hb hX hbl hbA hS (show i + 1 < L by omega) (by omega) dL_law_683 ?_
  refine lv_aload_n hx hb dL_law_684 rfl (lv_at hl 1 rfl) ?_
  refine lv_iload_n hx hb dL_law_685 rfl (lv_at hl 0 rfl) ?_
  refine lv_iconst (v := nI 2) hx hb dL_law_686 (by decide) ?_
  refine lvn_iadd hx hb dL_law_687 ?_
  refine lq_sld hx hb hX hbl hbA hS (show i + 2 < L by omega) (by omega) dL_law_688 ?_
  refine lq_M S hKm hPm hS hmA (c_X5_penny hNs h8) gL_law_X5_penny i_X5_penny rfl ⟨Nat.le_of_ble_eq_true rfl, Nat.le_of_ble_eq_true rfl⟩ rfl hl.1 (As := [.int (xs (i + 1)), .int (xs (i + 2))]) rfl (Nat.le_of_ble_eq_true rfl) ⟨Nat.le_of_ble_eq_true rfl, Nat.le_of_ble_eq_true rfl⟩ dL_law_689 (fun otq asdq frq ttq vlq wrq mvq H2 locs2 hPm hk hS => ?_)
  have hPc := keepC hds hPc hk
  have hs := sim_penny hRel h8 hN hA hR (q := xs (i + 1)) (v := xs (i + 2))
  refine lv_icmp_eq (tgt := 1308) hx hb dL_law_692 (by decide) (fun _ => kk _ _ ⟨_, _, _, _, _, _, _, _, _, _, _, _, _, _, _, _, _, _, _, _, _, _, _, _, _, _, _, _, _, _, hPc, hPm, hs.2⟩ hS) (fun q => absurd (Value.int.inj (Option.some.inj hs.1)) q)
set_option maxHeartbeats 1000000 in
set_option maxRecDepth 100000 in
theorem law_reason {p : Program} {l : Launch} {e : Env} {s : State} {m : MethodId} {below : List Frame} {meth : Method} {c : Code} {b L : Nat} {xs : Nat → Int32} {D : va_G} {cy : Nat → ClassId} {ad am kq vq : Nat → Nat} {Q : State → Prop} {i : Nat} {H : Heap} {locs : List Loc} {ls : Array Slot} (hL : L ≤ 3072) (hi : i + 6 ≤ L) (C0 : lw_At p s m meth c b L xs) (hC : LCx D cy ad am kq vq s) (hS : va_S (fun q => s.heap.size ≤ q) s.heap H locs) (hl : lv_has ls 4 [(3, .int (nI i)), (0, .ref b), (1, .ref (ad 0)), (2, .ref (am 0))]) (hLS : LSt D cy ad am H) (kk : ∀ (H1 : Heap) (locs1 : List Loc), LSt D cy ad am H1 → va_S (fun q => s.heap.size ≤ q) s.heap H1 locs1 → W p l e room_1 s m #[Value.ref b] below meth c H1 locs1 54 1177 Q (F0 m 1308 ls [])) : W p l e room_1 s m #[Value.ref b] below meth c H locs 54 1177 Q (F0 m 697 ls []) := by
  obtain ⟨hx, hb, hr, hml, hown, hts, hX, hbl, hlocks, hgv⟩ := id C0
  have hown : s.vm.findClass RL = some m.cls := hown
  have hbA : ¬ (fun q : Nat => s.heap.size ≤ q) b := Nat.not_le.mpr hbl
  have S : CallFix p m c cL_law 4 s #[Value.ref b] wsL_law RL := ⟨hx, hb, hml, hown, fun w h => hts w (wsL_law_in w h)⟩
  obtain ⟨hKc, hKm, hTg, hds, hcA, hmA⟩ := hC
  obtain ⟨p0, p1, p2, ke, tb, t1, t2, t3, t4, t5, sb, ss, sw, fd, sr, kS, ot, asd, stt, ik, tp, td, fr, tt, vl, wr, bo, so, nu, mv, hPc, hPm, hRel⟩ := hLS
  obtain ⟨N, h8, hN, hA, hR⟩ := hRel.1
  obtain ⟨N2, k8, kN, kk2⟩ := hRel.2.1
  obtain ⟨T, hT2, rfl, rfl⟩ := hRel.2.2.2.2.1
  have hNs : sr 0 = nI N := (hA 0 (by omega)).symm.trans hN
  have hz : ∀ t, t < 4 → ∃ z : Nat, z ≤ 40 ∧ ss t = nI z := fun t ht => (hRel.2.2.2.2.2.2.1 t ht).2.2
  have hzs : ∀ t, t < 4 → ∃ z : Nat, z ≤ 40 ∧ so t = nI z := fun t ht => by
    obtain ⟨-, e1, z, e2, e3⟩ := hRel.2.2.2.2.2.2.1 t ht
    exact ⟨z, e2, e1.symm.trans e3⟩
  refine lv_aload_n hx hb dL_law_697 rfl (lv_at hl 2 rfl) ?_
  refine lv_aload_n hx hb dL_law_698 rfl (lv_at hl 1 rfl) ?_
  refine lv_iload_n hx hb dL_law_699 rfl (lv_at hl 0 rfl) ?_
  refine lv_iconst (v := nI 1) hx hb dL_law_700 (by decide) ?_
  refine lvn_iadd hx hb dL_law_701 ?_
  refine lq_sld hx hb hX hbl hbA hS (show i + 1 < L by omega) (by omega) dL_law_702 ?_
  refine lv_aload_n hx hb dL_law_703 rfl (lv_at hl 1 rfl) ?_
  refine lv_iload_n hx hb dL_law_704 rfl (lv_at hl 0 rfl) ?_
  refine lv_iconst (v := nI 2) hx hb dL_law_705 (by decide) ?_
  refine lvn_iadd hx hb dL_law_706 ?_
  refine lq_sld hx hb hX hbl hbA hS (show i + 2 < L by omega) (by omega) dL_law_707 ?_
  refine lv_aload_n hx hb dL_law_708 rfl (lv_at hl 1 rfl) ?_
  refine lv_iload_n hx hb dL_law_709 rfl (lv_at hl 0 rfl) ?_
  refine lv_iconst (v := nI 3) hx hb dL_law_710 (by decide) ?_
  refine lvn_iadd hx hb dL_law_711 ?_
  refine lq_sld hx hb hX hbl hbA hS (show i + 3 < L by omega) (by omega) dL_law_712 ?_
  refine lq_C S hKc hPc hS hcA (c_X4_reason hN h8) gL_law_X4_reason i_X4_reason rfl ⟨Nat.le_of_ble_eq_true rfl, Nat.le_of_ble_eq_true rfl⟩ rfl hl.1 (As := [.int (xs (i + 1)), .int (xs (i + 2)), .int (xs (i + 3))]) (rest := []) rfl (Nat.le_of_ble_eq_true rfl) ⟨Nat.le_of_ble_eq_true rfl, Nat.le_of_ble_eq_true rfl⟩ dL_law_713 (fun p1q t2q t3q t4q t5q H1 locs1 hPc hk hS => ?_)
  have hPm := keepM hds hPm hk
  refine lv_aload_n hx hb dL_law_716 rfl (lv_at hl 3 rfl) ?_
  refine lv_aload_n hx hb dL_law_717 rfl (lv_at hl 1 rfl) ?_
  refine lv_iload_n hx hb dL_law_718 rfl (lv_at hl 0 rfl) ?_
  refine lv_iconst (v := nI 1) hx hb dL_law_719 (by decide) ?_
  refine lvn_iadd hx hb dL_law_720 ?_
  refine lq_sld hx hb hX hbl hbA hS (show i + 1 < L by omega) (by omega) dL_law_721 ?_
  refine lv_aload_n hx hb dL_law_722 rfl (lv_at hl 1 rfl) ?_
  refine lv_iload_n hx hb dL_law_723 rfl (lv_at hl 0 rfl) ?_
  refine lv_iconst (v := nI 2) hx hb dL_law_724 (by decide) ?_
  refine lvn_iadd hx hb dL_law_725 ?_
  refine lq_sld hx hb hX hbl hbA hS (show i + 2 < L by omega) (by omega) dL_law_726 ?_
  refine lv_aload_n hx hb dL_law_727 rfl (lv_at hl 1 rfl) ?_
  refine lv_iload_n hx hb dL_law_728 rfl (lv_at hl 0 rfl) ?_
  refine lv_iconst (v := nI 3) hx hb dL_law_729 (by decide) ?_
  refine lvn_iadd hx hb dL_law_730 ?_
  refine lq_sld hx hb hX hbl hbA hS (show i + 3 < L by omega) (by omega) dL_law_731 ?_
  refine lq_M S hKm hPm hS hmA (c_X5_reason hNs h8) gL_law_X5_reason i_X5_reason rfl ⟨Nat.le_of_ble_eq_true rfl, Nat.le_of_ble_eq_true rfl⟩ rfl hl.1 (As := [.int (xs (i + 1)), .int (xs (i + 2)), .int (xs (i + 3))]) rfl (Nat.le_of_ble_eq_true rfl) ⟨Nat.le_of_ble_eq_true rfl, Nat.le_of_ble_eq_true rfl⟩ dL_law_732 (fun otq asdq frq ttq vlq wrq mvq H2 locs2 hPm hk hS => ?_)
  have hPc := keepC hds hPc hk
  have hs := sim_reason hRel h8 hN hA hR (q := xs (i + 1)) (n := xs (i + 2)) (v := xs (i + 3))
  refine lv_icmp_eq (tgt := 1308) hx hb dL_law_735 (by decide) (fun _ => kk _ _ ⟨_, _, _, _, _, _, _, _, _, _, _, _, _, _, _, _, _, _, _, _, _, _, _, _, _, _, _, _, _, _, hPc, hPm, hs.2⟩ hS) (fun q => absurd (Value.int.inj (Option.some.inj hs.1)) q)
set_option maxHeartbeats 1000000 in
set_option maxRecDepth 100000 in
theorem law_kind {p : Program} {l : Launch} {e : Env} {s : State} {m : MethodId} {below : List Frame} {meth : Method} {c : Code} {b L : Nat} {xs : Nat → Int32} {D : va_G} {cy : Nat → ClassId} {ad am kq vq : Nat → Nat} {Q : State → Prop} {i : Nat} {H : Heap} {locs : List Loc} {ls : Array Slot} (hL : L ≤ 3072) (hi : i + 6 ≤ L) (C0 : lw_At p s m meth c b L xs) (hC : LCx D cy ad am kq vq s) (hS : va_S (fun q => s.heap.size ≤ q) s.heap H locs) (hl : lv_has ls 4 [(3, .int (nI i)), (0, .ref b), (1, .ref (ad 0)), (2, .ref (am 0))]) (hLS : LSt D cy ad am H) (kk : ∀ (H1 : Heap) (locs1 : List Loc), LSt D cy ad am H1 → va_S (fun q => s.heap.size ≤ q) s.heap H1 locs1 → W p l e room_1 s m #[Value.ref b] below meth c H1 locs1 54 1177 Q (F0 m 1308 ls [])) : W p l e room_1 s m #[Value.ref b] below meth c H locs 54 1177 Q (F0 m 740 ls []) := by
  obtain ⟨hx, hb, hr, hml, hown, hts, hX, hbl, hlocks, hgv⟩ := id C0
  have hown : s.vm.findClass RL = some m.cls := hown
  have hbA : ¬ (fun q : Nat => s.heap.size ≤ q) b := Nat.not_le.mpr hbl
  have S : CallFix p m c cL_law 4 s #[Value.ref b] wsL_law RL := ⟨hx, hb, hml, hown, fun w h => hts w (wsL_law_in w h)⟩
  obtain ⟨hKc, hKm, hTg, hds, hcA, hmA⟩ := hC
  obtain ⟨p0, p1, p2, ke, tb, t1, t2, t3, t4, t5, sb, ss, sw, fd, sr, kS, ot, asd, stt, ik, tp, td, fr, tt, vl, wr, bo, so, nu, mv, hPc, hPm, hRel⟩ := hLS
  obtain ⟨N, h8, hN, hA, hR⟩ := hRel.1
  obtain ⟨N2, k8, kN, kk2⟩ := hRel.2.1
  obtain ⟨T, hT2, rfl, rfl⟩ := hRel.2.2.2.2.1
  have hNs : sr 0 = nI N := (hA 0 (by omega)).symm.trans hN
  have hz : ∀ t, t < 4 → ∃ z : Nat, z ≤ 40 ∧ ss t = nI z := fun t ht => (hRel.2.2.2.2.2.2.1 t ht).2.2
  have hzs : ∀ t, t < 4 → ∃ z : Nat, z ≤ 40 ∧ so t = nI z := fun t ht => by
    obtain ⟨-, e1, z, e2, e3⟩ := hRel.2.2.2.2.2.2.1 t ht
    exact ⟨z, e2, e1.symm.trans e3⟩
  refine lv_aload_n hx hb dL_law_740 rfl (lv_at hl 2 rfl) ?_
  refine lv_aload_n hx hb dL_law_741 rfl (lv_at hl 1 rfl) ?_
  refine lv_iload_n hx hb dL_law_742 rfl (lv_at hl 0 rfl) ?_
  refine lv_iconst (v := nI 1) hx hb dL_law_743 (by decide) ?_
  refine lvn_iadd hx hb dL_law_744 ?_
  refine lq_sld hx hb hX hbl hbA hS (show i + 1 < L by omega) (by omega) dL_law_745 ?_
  refine lv_aload_n hx hb dL_law_746 rfl (lv_at hl 1 rfl) ?_
  refine lv_iload_n hx hb dL_law_747 rfl (lv_at hl 0 rfl) ?_
  refine lv_iconst (v := nI 2) hx hb dL_law_748 (by decide) ?_
  refine lvn_iadd hx hb dL_law_749 ?_
  refine lq_sld hx hb hX hbl hbA hS (show i + 2 < L by omega) (by omega) dL_law_750 ?_
  refine lq_C S hKc hPc hS hcA (c_X4_kind hN h8) gL_law_X4_kind i_X4_kind rfl ⟨Nat.le_of_ble_eq_true rfl, Nat.le_of_ble_eq_true rfl⟩ rfl hl.1 (As := [.int (xs (i + 1)), .int (xs (i + 2))]) (rest := []) rfl (Nat.le_of_ble_eq_true rfl) ⟨Nat.le_of_ble_eq_true rfl, Nat.le_of_ble_eq_true rfl⟩ dL_law_751 (fun p1q t2q t3q t4q t5q H1 locs1 hPc hk hS => ?_)
  have hPm := keepM hds hPm hk
  refine lv_aload_n hx hb dL_law_754 rfl (lv_at hl 3 rfl) ?_
  refine lv_aload_n hx hb dL_law_755 rfl (lv_at hl 1 rfl) ?_
  refine lv_iload_n hx hb dL_law_756 rfl (lv_at hl 0 rfl) ?_
  refine lv_iconst (v := nI 1) hx hb dL_law_757 (by decide) ?_
  refine lvn_iadd hx hb dL_law_758 ?_
  refine lq_sld hx hb hX hbl hbA hS (show i + 1 < L by omega) (by omega) dL_law_759 ?_
  refine lv_aload_n hx hb dL_law_760 rfl (lv_at hl 1 rfl) ?_
  refine lv_iload_n hx hb dL_law_761 rfl (lv_at hl 0 rfl) ?_
  refine lv_iconst (v := nI 2) hx hb dL_law_762 (by decide) ?_
  refine lvn_iadd hx hb dL_law_763 ?_
  refine lq_sld hx hb hX hbl hbA hS (show i + 2 < L by omega) (by omega) dL_law_764 ?_
  refine lq_M S hKm hPm hS hmA (c_X5_kind hNs h8) gL_law_X5_kind i_X5_kind rfl ⟨Nat.le_of_ble_eq_true rfl, Nat.le_of_ble_eq_true rfl⟩ rfl hl.1 (As := [.int (xs (i + 1)), .int (xs (i + 2))]) rfl (Nat.le_of_ble_eq_true rfl) ⟨Nat.le_of_ble_eq_true rfl, Nat.le_of_ble_eq_true rfl⟩ dL_law_765 (fun otq asdq frq ttq vlq wrq mvq H2 locs2 hPm hk hS => ?_)
  have hPc := keepC hds hPc hk
  have hs := sim_kind hRel h8 hN hA hR (q := xs (i + 1)) (n := xs (i + 2))
  refine lv_icmp_eq (tgt := 1308) hx hb dL_law_768 (by decide) (fun _ => kk _ _ ⟨_, _, _, _, _, _, _, _, _, _, _, _, _, _, _, _, _, _, _, _, _, _, _, _, _, _, _, _, _, _, hPc, hPm, hs.2⟩ hS) (fun q => absurd (Value.int.inj (Option.some.inj hs.1)) q)
set_option maxHeartbeats 1000000 in
set_option maxRecDepth 100000 in
theorem law_begin {p : Program} {l : Launch} {e : Env} {s : State} {m : MethodId} {below : List Frame} {meth : Method} {c : Code} {b L : Nat} {xs : Nat → Int32} {D : va_G} {cy : Nat → ClassId} {ad am kq vq : Nat → Nat} {Q : State → Prop} {i : Nat} {H : Heap} {locs : List Loc} {ls : Array Slot} (hL : L ≤ 3072) (hi : i + 6 ≤ L) (C0 : lw_At p s m meth c b L xs) (hC : LCx D cy ad am kq vq s) (hS : va_S (fun q => s.heap.size ≤ q) s.heap H locs) (hl : lv_has ls 4 [(3, .int (nI i)), (0, .ref b), (1, .ref (ad 0)), (2, .ref (am 0))]) (hLS : LSt D cy ad am H) (kk : ∀ (H1 : Heap) (locs1 : List Loc), LSt D cy ad am H1 → va_S (fun q => s.heap.size ≤ q) s.heap H1 locs1 → W p l e room_1 s m #[Value.ref b] below meth c H1 locs1 54 1177 Q (F0 m 1308 ls [])) : W p l e room_1 s m #[Value.ref b] below meth c H locs 54 1177 Q (F0 m 773 ls []) := by
  obtain ⟨hx, hb, hr, hml, hown, hts, hX, hbl, hlocks, hgv⟩ := id C0
  have hown : s.vm.findClass RL = some m.cls := hown
  have hbA : ¬ (fun q : Nat => s.heap.size ≤ q) b := Nat.not_le.mpr hbl
  have S : CallFix p m c cL_law 4 s #[Value.ref b] wsL_law RL := ⟨hx, hb, hml, hown, fun w h => hts w (wsL_law_in w h)⟩
  obtain ⟨hKc, hKm, hTg, hds, hcA, hmA⟩ := hC
  obtain ⟨p0, p1, p2, ke, tb, t1, t2, t3, t4, t5, sb, ss, sw, fd, sr, kS, ot, asd, stt, ik, tp, td, fr, tt, vl, wr, bo, so, nu, mv, hPc, hPm, hRel⟩ := hLS
  obtain ⟨N, h8, hN, hA, hR⟩ := hRel.1
  obtain ⟨N2, k8, kN, kk2⟩ := hRel.2.1
  obtain ⟨T, hT2, rfl, rfl⟩ := hRel.2.2.2.2.1
  have hNs : sr 0 = nI N := (hA 0 (by omega)).symm.trans hN
  have hz : ∀ t, t < 4 → ∃ z : Nat, z ≤ 40 ∧ ss t = nI z := fun t ht => (hRel.2.2.2.2.2.2.1 t ht).2.2
  have hzs : ∀ t, t < 4 → ∃ z : Nat, z ≤ 40 ∧ so t = nI z := fun t ht => by
    obtain ⟨-, e1, z, e2, e3⟩ := hRel.2.2.2.2.2.2.1 t ht
    exact ⟨z, e2, e1.symm.trans e3⟩
  refine lv_aload_n hx hb dL_law_773 rfl (lv_at hl 2 rfl) ?_
  refine lv_aload_n hx hb dL_law_774 rfl (lv_at hl 1 rfl) ?_
  refine lv_iload_n hx hb dL_law_775 rfl (lv_at hl 0 rfl) ?_
  refine lv_iconst (v := nI 1) hx hb dL_law_776 (by decide) ?_
  refine lvn_iadd hx hb dL_law_777 ?_
  refine lq_sld hx hb hX hbl hbA hS (show i + 1 < L by omega) (by omega) dL_law_778 ?_
  refine lv_aload_n hx hb dL_law_779 rfl (lv_at hl 1 rfl) ?_
  refine lv_iload_n hx hb dL_law_780 rfl (lv_at hl 0 rfl) ?_
  refine lv_iconst (v := nI 2) hx hb dL_law_781 (by decide) ?_
  refine lvn_iadd hx hb dL_law_782 ?_
  refine lq_sld hx hb hX hbl hbA hS (show i + 2 < L by omega) (by omega) dL_law_783 ?_
  refine lq_C S hKc hPc hS hcA (c_X4_begin hN h8) gL_law_X4_begin i_X4_begin rfl ⟨Nat.le_of_ble_eq_true rfl, Nat.le_of_ble_eq_true rfl⟩ rfl hl.1 (As := [.int (xs (i + 1)), .int (xs (i + 2))]) (rest := []) rfl (Nat.le_of_ble_eq_true rfl) ⟨Nat.le_of_ble_eq_true rfl, Nat.le_of_ble_eq_true rfl⟩ dL_law_784 (fun p1q t2q t3q t4q t5q H1 locs1 hPc hk hS => ?_)
  have hPm := keepM hds hPm hk
  refine lv_aload_n hx hb dL_law_787 rfl (lv_at hl 3 rfl) ?_
  refine lv_aload_n hx hb dL_law_788 rfl (lv_at hl 1 rfl) ?_
  refine lv_iload_n hx hb dL_law_789 rfl (lv_at hl 0 rfl) ?_
  refine lv_iconst (v := nI 1) hx hb dL_law_790 (by decide) ?_
  refine lvn_iadd hx hb dL_law_791 ?_
  refine lq_sld hx hb hX hbl hbA hS (show i + 1 < L by omega) (by omega) dL_law_792 ?_
  refine lv_aload_n hx hb dL_law_793 rfl (lv_at hl 1 rfl) ?_
  refine lv_iload_n hx hb dL_law_794 rfl (lv_at hl 0 rfl) ?_
  refine lv_iconst (v := nI 2) hx hb dL_law_795 (by decide) ?_
  refine lvn_iadd hx hb dL_law_796 ?_
  refine lq_sld hx hb hX hbl hbA hS (show i + 2 < L by omega) (by omega) dL_law_797 ?_
  refine lq_M S hKm hPm hS hmA (c_X5_begin hNs h8) gL_law_X5_begin i_X5_begin rfl ⟨Nat.le_of_ble_eq_true rfl, Nat.le_of_ble_eq_true rfl⟩ rfl hl.1 (As := [.int (xs (i + 1)), .int (xs (i + 2))]) rfl (Nat.le_of_ble_eq_true rfl) ⟨Nat.le_of_ble_eq_true rfl, Nat.le_of_ble_eq_true rfl⟩ dL_law_798 (fun otq asdq frq ttq vlq wrq mvq H2 locs2 hPm hk hS => ?_)
  have hPc := keepC hds hPc hk
  have hs := sim_begin hRel h8 hN hA hR (q := xs (i + 1)) (n := xs (i + 2))
  refine lv_icmp_eq (tgt := 1308) hx hb dL_law_801 (by decide) (fun _ => kk _ _ ⟨_, _, _, _, _, _, _, _, _, _, _, _, _, _, _, _, _, _, _, _, _, _, _, _, _, _, _, _, _, _, hPc, hPm, hs.2⟩ hS) (fun q => absurd (Value.int.inj (Option.some.inj hs.1)) q)
set_option maxHeartbeats 1000000 in
set_option maxRecDepth 100000 in
theorem law_richest {p : Program} {l : Launch} {e : Env} {s : State} {m : MethodId} {below : List Frame} {meth : Method} {c : Code} {b L : Nat} {xs : Nat → Int32} {D : va_G} {cy : Nat → ClassId} {ad am kq vq : Nat → Nat} {Q : State → Prop} {i : Nat} {H : Heap} {locs : List Loc} {ls : Array Slot} (hL : L ≤ 3072) (hi : i + 6 ≤ L) (C0 : lw_At p s m meth c b L xs) (hC : LCx D cy ad am kq vq s) (hS : va_S (fun q => s.heap.size ≤ q) s.heap H locs) (hl : lv_has ls 4 [(3, .int (nI i)), (0, .ref b), (1, .ref (ad 0)), (2, .ref (am 0))]) (hLS : LSt D cy ad am H) (kk : ∀ (H1 : Heap) (locs1 : List Loc), LSt D cy ad am H1 → va_S (fun q => s.heap.size ≤ q) s.heap H1 locs1 → W p l e room_1 s m #[Value.ref b] below meth c H1 locs1 54 1177 Q (F0 m 1308 ls [])) : W p l e room_1 s m #[Value.ref b] below meth c H locs 54 1177 Q (F0 m 806 ls []) := by
  obtain ⟨hx, hb, hr, hml, hown, hts, hX, hbl, hlocks, hgv⟩ := id C0
  have hown : s.vm.findClass RL = some m.cls := hown
  have hbA : ¬ (fun q : Nat => s.heap.size ≤ q) b := Nat.not_le.mpr hbl
  have S : CallFix p m c cL_law 4 s #[Value.ref b] wsL_law RL := ⟨hx, hb, hml, hown, fun w h => hts w (wsL_law_in w h)⟩
  obtain ⟨hKc, hKm, hTg, hds, hcA, hmA⟩ := hC
  obtain ⟨p0, p1, p2, ke, tb, t1, t2, t3, t4, t5, sb, ss, sw, fd, sr, kS, ot, asd, stt, ik, tp, td, fr, tt, vl, wr, bo, so, nu, mv, hPc, hPm, hRel⟩ := hLS
  obtain ⟨N, h8, hN, hA, hR⟩ := hRel.1
  obtain ⟨N2, k8, kN, kk2⟩ := hRel.2.1
  obtain ⟨T, hT2, rfl, rfl⟩ := hRel.2.2.2.2.1
  have hNs : sr 0 = nI N := (hA 0 (by omega)).symm.trans hN
  have hz : ∀ t, t < 4 → ∃ z : Nat, z ≤ 40 ∧ ss t = nI z := fun t ht => (hRel.2.2.2.2.2.2.1 t ht).2.2
  have hzs : ∀ t, t < 4 → ∃ z : Nat, z ≤ 40 ∧ so t = nI z := fun t ht => by
    obtain ⟨-, e1, z, e2, e3⟩ := hRel.2.2.2.2.2.2.1 t ht
    exact ⟨z, e2, e1.symm.trans e3⟩
  refine lv_aload_n hx hb dL_law_806 rfl (lv_at hl 2 rfl) ?_
  refine lv_aload_n hx hb dL_law_807 rfl (lv_at hl 1 rfl) ?_
  refine lv_iload_n hx hb dL_law_808 rfl (lv_at hl 0 rfl) ?_
  refine lv_iconst (v := nI 1) hx hb dL_law_809 (by decide) ?_
  refine lvn_iadd hx hb dL_law_810 ?_
  refine lq_sld hx hb hX hbl hbA hS (show i + 1 < L by omega) (by omega) dL_law_811 ?_
  refine lq_C S hKc hPc hS hcA (c_X4_richest hN h8) gL_law_X4_richest i_X4_richest rfl ⟨Nat.le_of_ble_eq_true rfl, Nat.le_of_ble_eq_true rfl⟩ rfl hl.1 (As := [.int (xs (i + 1))]) (rest := []) rfl (Nat.le_of_ble_eq_true rfl) ⟨Nat.le_of_ble_eq_true rfl, Nat.le_of_ble_eq_true rfl⟩ dL_law_812 (fun p1q t2q t3q t4q t5q H1 locs1 hPc hk hS => ?_)
  have hPm := keepM hds hPm hk
  refine lv_aload_n hx hb dL_law_815 rfl (lv_at hl 3 rfl) ?_
  refine lv_aload_n hx hb dL_law_816 rfl (lv_at hl 1 rfl) ?_
  refine lv_iload_n hx hb dL_law_817 rfl (lv_at hl 0 rfl) ?_
  refine lv_iconst (v := nI 1) hx hb dL_law_818 (by decide) ?_
  refine lvn_iadd hx hb dL_law_819 ?_
  refine lq_sld hx hb hX hbl hbA hS (show i + 1 < L by omega) (by omega) dL_law_820 ?_
  refine lq_M S hKm hPm hS hmA (c_X5_richest hNs h8) gL_law_X5_richest i_X5_richest rfl ⟨Nat.le_of_ble_eq_true rfl, Nat.le_of_ble_eq_true rfl⟩ rfl hl.1 (As := [.int (xs (i + 1))]) rfl (Nat.le_of_ble_eq_true rfl) ⟨Nat.le_of_ble_eq_true rfl, Nat.le_of_ble_eq_true rfl⟩ dL_law_821 (fun otq asdq frq ttq vlq wrq mvq H2 locs2 hPm hk hS => ?_)
  have hPc := keepC hds hPc hk
  have hs := sim_richest hRel h8 hN hA hR (q := xs (i + 1))
  refine lv_icmp_eq (tgt := 1308) hx hb dL_law_824 (by decide) (fun _ => kk _ _ ⟨_, _, _, _, _, _, _, _, _, _, _, _, _, _, _, _, _, _, _, _, _, _, _, _, _, _, _, _, _, _, hPc, hPm, hs.2⟩ hS) (fun q => absurd (Value.int.inj (Option.some.inj hs.1)) q)
set_option maxHeartbeats 1000000 in
set_option maxRecDepth 100000 in
theorem law_rival {p : Program} {l : Launch} {e : Env} {s : State} {m : MethodId} {below : List Frame} {meth : Method} {c : Code} {b L : Nat} {xs : Nat → Int32} {D : va_G} {cy : Nat → ClassId} {ad am kq vq : Nat → Nat} {Q : State → Prop} {i : Nat} {H : Heap} {locs : List Loc} {ls : Array Slot} (hL : L ≤ 3072) (hi : i + 6 ≤ L) (C0 : lw_At p s m meth c b L xs) (hC : LCx D cy ad am kq vq s) (hS : va_S (fun q => s.heap.size ≤ q) s.heap H locs) (hl : lv_has ls 4 [(3, .int (nI i)), (0, .ref b), (1, .ref (ad 0)), (2, .ref (am 0))]) (hLS : LSt D cy ad am H) (kk : ∀ (H1 : Heap) (locs1 : List Loc), LSt D cy ad am H1 → va_S (fun q => s.heap.size ≤ q) s.heap H1 locs1 → W p l e room_1 s m #[Value.ref b] below meth c H1 locs1 54 1177 Q (F0 m 1308 ls [])) : W p l e room_1 s m #[Value.ref b] below meth c H locs 54 1177 Q (F0 m 829 ls []) := by
  obtain ⟨hx, hb, hr, hml, hown, hts, hX, hbl, hlocks, hgv⟩ := id C0
  have hown : s.vm.findClass RL = some m.cls := hown
  have hbA : ¬ (fun q : Nat => s.heap.size ≤ q) b := Nat.not_le.mpr hbl
  have S : CallFix p m c cL_law 4 s #[Value.ref b] wsL_law RL := ⟨hx, hb, hml, hown, fun w h => hts w (wsL_law_in w h)⟩
  obtain ⟨hKc, hKm, hTg, hds, hcA, hmA⟩ := hC
  obtain ⟨p0, p1, p2, ke, tb, t1, t2, t3, t4, t5, sb, ss, sw, fd, sr, kS, ot, asd, stt, ik, tp, td, fr, tt, vl, wr, bo, so, nu, mv, hPc, hPm, hRel⟩ := hLS
  obtain ⟨N, h8, hN, hA, hR⟩ := hRel.1
  obtain ⟨N2, k8, kN, kk2⟩ := hRel.2.1
  obtain ⟨T, hT2, rfl, rfl⟩ := hRel.2.2.2.2.1
  have hNs : sr 0 = nI N := (hA 0 (by omega)).symm.trans hN
  have hz : ∀ t, t < 4 → ∃ z : Nat, z ≤ 40 ∧ ss t = nI z := fun t ht => (hRel.2.2.2.2.2.2.1 t ht).2.2
  have hzs : ∀ t, t < 4 → ∃ z : Nat, z ≤ 40 ∧ so t = nI z := fun t ht => by
    obtain ⟨-, e1, z, e2, e3⟩ := hRel.2.2.2.2.2.2.1 t ht
    exact ⟨z, e2, e1.symm.trans e3⟩
  refine lv_aload_n hx hb dL_law_829 rfl (lv_at hl 2 rfl) ?_
  refine lv_aload_n hx hb dL_law_830 rfl (lv_at hl 1 rfl) ?_
  refine lv_iload_n hx hb dL_law_831 rfl (lv_at hl 0 rfl) ?_
  refine lv_iconst (v := nI 1) hx hb dL_law_832 (by decide) ?_
  refine lvn_iadd hx hb dL_law_833 ?_
  refine lq_sld hx hb hX hbl hbA hS (show i + 1 < L by omega) (by omega) dL_law_834 ?_
  refine lv_aload_n hx hb dL_law_835 rfl (lv_at hl 1 rfl) ?_
  refine lv_iload_n hx hb dL_law_836 rfl (lv_at hl 0 rfl) ?_
  refine lv_iconst (v := nI 2) hx hb dL_law_837 (by decide) ?_
  refine lvn_iadd hx hb dL_law_838 ?_
  refine lq_sld hx hb hX hbl hbA hS (show i + 2 < L by omega) (by omega) dL_law_839 ?_
  refine lv_aload_n hx hb dL_law_840 rfl (lv_at hl 1 rfl) ?_
  refine lv_iload_n hx hb dL_law_841 rfl (lv_at hl 0 rfl) ?_
  refine lv_iconst (v := nI 3) hx hb dL_law_842 (by decide) ?_
  refine lvn_iadd hx hb dL_law_843 ?_
  refine lq_sld hx hb hX hbl hbA hS (show i + 3 < L by omega) (by omega) dL_law_844 ?_
  refine lq_C S hKc hPc hS hcA (c_X4_rival hN h8) gL_law_X4_rival i_X4_rival rfl ⟨Nat.le_of_ble_eq_true rfl, Nat.le_of_ble_eq_true rfl⟩ rfl hl.1 (As := [.int (xs (i + 1)), .int (xs (i + 2)), .int (xs (i + 3))]) (rest := []) rfl (Nat.le_of_ble_eq_true rfl) ⟨Nat.le_of_ble_eq_true rfl, Nat.le_of_ble_eq_true rfl⟩ dL_law_845 (fun p1q t2q t3q t4q t5q H1 locs1 hPc hk hS => ?_)
  have hPm := keepM hds hPm hk
  refine lv_aload_n hx hb dL_law_848 rfl (lv_at hl 3 rfl) ?_
  refine lv_aload_n hx hb dL_law_849 rfl (lv_at hl 1 rfl) ?_
  refine lv_iload_n hx hb dL_law_850 rfl (lv_at hl 0 rfl) ?_
  refine lv_iconst (v := nI 1) hx hb dL_law_851 (by decide) ?_
  refine lvn_iadd hx hb dL_law_852 ?_
  refine lq_sld hx hb hX hbl hbA hS (show i + 1 < L by omega) (by omega) dL_law_853 ?_
  refine lv_aload_n hx hb dL_law_854 rfl (lv_at hl 1 rfl) ?_
  refine lv_iload_n hx hb dL_law_855 rfl (lv_at hl 0 rfl) ?_
  refine lv_iconst (v := nI 2) hx hb dL_law_856 (by decide) ?_
  refine lvn_iadd hx hb dL_law_857 ?_
  refine lq_sld hx hb hX hbl hbA hS (show i + 2 < L by omega) (by omega) dL_law_858 ?_
  refine lv_aload_n hx hb dL_law_859 rfl (lv_at hl 1 rfl) ?_
  refine lv_iload_n hx hb dL_law_860 rfl (lv_at hl 0 rfl) ?_
  refine lv_iconst (v := nI 3) hx hb dL_law_861 (by decide) ?_
  refine lvn_iadd hx hb dL_law_862 ?_
  refine lq_sld hx hb hX hbl hbA hS (show i + 3 < L by omega) (by omega) dL_law_863 ?_
  refine lq_M S hKm hPm hS hmA (c_X5_rival hNs h8) gL_law_X5_rival i_X5_rival rfl ⟨Nat.le_of_ble_eq_true rfl, Nat.le_of_ble_eq_true rfl⟩ rfl hl.1 (As := [.int (xs (i + 1)), .int (xs (i + 2)), .int (xs (i + 3))]) rfl (Nat.le_of_ble_eq_true rfl) ⟨Nat.le_of_ble_eq_true rfl, Nat.le_of_ble_eq_true rfl⟩ dL_law_864 (fun otq asdq frq ttq vlq wrq mvq H2 locs2 hPm hk hS => ?_)
  have hPc := keepC hds hPc hk
  have hs := sim_rival hRel h8 hN hA hR (q := xs (i + 1)) (o := xs (i + 2)) (n := xs (i + 3))
  refine lv_icmp_eq (tgt := 1308) hx hb dL_law_867 (by decide) (fun _ => kk _ _ ⟨_, _, _, _, _, _, _, _, _, _, _, _, _, _, _, _, _, _, _, _, _, _, _, _, _, _, _, _, _, _, hPc, hPm, hs.2⟩ hS) (fun q => absurd (Value.int.inj (Option.some.inj hs.1)) q)
set_option maxHeartbeats 1000000 in
set_option maxRecDepth 100000 in
theorem law_enough {p : Program} {l : Launch} {e : Env} {s : State} {m : MethodId} {below : List Frame} {meth : Method} {c : Code} {b L : Nat} {xs : Nat → Int32} {D : va_G} {cy : Nat → ClassId} {ad am kq vq : Nat → Nat} {Q : State → Prop} {i : Nat} {H : Heap} {locs : List Loc} {ls : Array Slot} (hL : L ≤ 3072) (hi : i + 6 ≤ L) (C0 : lw_At p s m meth c b L xs) (hC : LCx D cy ad am kq vq s) (hS : va_S (fun q => s.heap.size ≤ q) s.heap H locs) (hl : lv_has ls 4 [(3, .int (nI i)), (0, .ref b), (1, .ref (ad 0)), (2, .ref (am 0))]) (hLS : LSt D cy ad am H) (kk : ∀ (H1 : Heap) (locs1 : List Loc), LSt D cy ad am H1 → va_S (fun q => s.heap.size ≤ q) s.heap H1 locs1 → W p l e room_1 s m #[Value.ref b] below meth c H1 locs1 54 1177 Q (F0 m 1308 ls [])) : W p l e room_1 s m #[Value.ref b] below meth c H locs 54 1177 Q (F0 m 872 ls []) := by
  obtain ⟨hx, hb, hr, hml, hown, hts, hX, hbl, hlocks, hgv⟩ := id C0
  have hown : s.vm.findClass RL = some m.cls := hown
  have hbA : ¬ (fun q : Nat => s.heap.size ≤ q) b := Nat.not_le.mpr hbl
  have S : CallFix p m c cL_law 4 s #[Value.ref b] wsL_law RL := ⟨hx, hb, hml, hown, fun w h => hts w (wsL_law_in w h)⟩
  obtain ⟨hKc, hKm, hTg, hds, hcA, hmA⟩ := hC
  obtain ⟨p0, p1, p2, ke, tb, t1, t2, t3, t4, t5, sb, ss, sw, fd, sr, kS, ot, asd, stt, ik, tp, td, fr, tt, vl, wr, bo, so, nu, mv, hPc, hPm, hRel⟩ := hLS
  obtain ⟨N, h8, hN, hA, hR⟩ := hRel.1
  obtain ⟨N2, k8, kN, kk2⟩ := hRel.2.1
  obtain ⟨T, hT2, rfl, rfl⟩ := hRel.2.2.2.2.1
  have hNs : sr 0 = nI N := (hA 0 (by omega)).symm.trans hN
  have hz : ∀ t, t < 4 → ∃ z : Nat, z ≤ 40 ∧ ss t = nI z := fun t ht => (hRel.2.2.2.2.2.2.1 t ht).2.2
  have hzs : ∀ t, t < 4 → ∃ z : Nat, z ≤ 40 ∧ so t = nI z := fun t ht => by
    obtain ⟨-, e1, z, e2, e3⟩ := hRel.2.2.2.2.2.2.1 t ht
    exact ⟨z, e2, e1.symm.trans e3⟩
  refine lv_aload_n hx hb dL_law_872 rfl (lv_at hl 2 rfl) ?_
  refine lv_aload_n hx hb dL_law_873 rfl (lv_at hl 1 rfl) ?_
  refine lv_iload_n hx hb dL_law_874 rfl (lv_at hl 0 rfl) ?_
  refine lv_iconst (v := nI 1) hx hb dL_law_875 (by decide) ?_
  refine lvn_iadd hx hb dL_law_876 ?_
  refine lq_sld hx hb hX hbl hbA hS (show i + 1 < L by omega) (by omega) dL_law_877 ?_
  refine lq_C S hKc hPc hS hcA (c_X4_enough hN h8) gL_law_X4_enough i_X4_enough rfl ⟨Nat.le_of_ble_eq_true rfl, Nat.le_of_ble_eq_true rfl⟩ rfl hl.1 (As := [.int (xs (i + 1))]) (rest := []) rfl (Nat.le_of_ble_eq_true rfl) ⟨Nat.le_of_ble_eq_true rfl, Nat.le_of_ble_eq_true rfl⟩ dL_law_878 (fun p1q t2q t3q t4q t5q H1 locs1 hPc hk hS => ?_)
  have hPm := keepM hds hPm hk
  refine lv_aload_n hx hb dL_law_881 rfl (lv_at hl 3 rfl) ?_
  refine lv_aload_n hx hb dL_law_882 rfl (lv_at hl 1 rfl) ?_
  refine lv_iload_n hx hb dL_law_883 rfl (lv_at hl 0 rfl) ?_
  refine lv_iconst (v := nI 1) hx hb dL_law_884 (by decide) ?_
  refine lvn_iadd hx hb dL_law_885 ?_
  refine lq_sld hx hb hX hbl hbA hS (show i + 1 < L by omega) (by omega) dL_law_886 ?_
  refine lq_M S hKm hPm hS hmA (c_X5_enough hNs h8) gL_law_X5_enough i_X5_enough rfl ⟨Nat.le_of_ble_eq_true rfl, Nat.le_of_ble_eq_true rfl⟩ rfl hl.1 (As := [.int (xs (i + 1))]) rfl (Nat.le_of_ble_eq_true rfl) ⟨Nat.le_of_ble_eq_true rfl, Nat.le_of_ble_eq_true rfl⟩ dL_law_887 (fun otq asdq frq ttq vlq wrq mvq H2 locs2 hPm hk hS => ?_)
  have hPc := keepC hds hPc hk
  have hs := sim_enough hRel h8 hN hA hR (q := xs (i + 1))
  refine lv_icmp_eq (tgt := 1308) hx hb dL_law_890 (by decide) (fun _ => kk _ _ ⟨_, _, _, _, _, _, _, _, _, _, _, _, _, _, _, _, _, _, _, _, _, _, _, _, _, _, _, _, _, _, hPc, hPm, hs.2⟩ hS) (fun q => absurd (Value.int.inj (Option.some.inj hs.1)) q)
set_option maxHeartbeats 1000000 in
set_option maxRecDepth 100000 in
theorem law_feed {p : Program} {l : Launch} {e : Env} {s : State} {m : MethodId} {below : List Frame} {meth : Method} {c : Code} {b L : Nat} {xs : Nat → Int32} {D : va_G} {cy : Nat → ClassId} {ad am kq vq : Nat → Nat} {Q : State → Prop} {i : Nat} {H : Heap} {locs : List Loc} {ls : Array Slot} (hL : L ≤ 3072) (hi : i + 6 ≤ L) (C0 : lw_At p s m meth c b L xs) (hC : LCx D cy ad am kq vq s) (hS : va_S (fun q => s.heap.size ≤ q) s.heap H locs) (hl : lv_has ls 4 [(3, .int (nI i)), (0, .ref b), (1, .ref (ad 0)), (2, .ref (am 0))]) (hLS : LSt D cy ad am H) (kk : ∀ (H1 : Heap) (locs1 : List Loc), LSt D cy ad am H1 → va_S (fun q => s.heap.size ≤ q) s.heap H1 locs1 → W p l e room_1 s m #[Value.ref b] below meth c H1 locs1 54 1177 Q (F0 m 1308 ls [])) : W p l e room_1 s m #[Value.ref b] below meth c H locs 54 1177 Q (F0 m 895 ls []) := by
  obtain ⟨hx, hb, hr, hml, hown, hts, hX, hbl, hlocks, hgv⟩ := id C0
  have hown : s.vm.findClass RL = some m.cls := hown
  have hbA : ¬ (fun q : Nat => s.heap.size ≤ q) b := Nat.not_le.mpr hbl
  have S : CallFix p m c cL_law 4 s #[Value.ref b] wsL_law RL := ⟨hx, hb, hml, hown, fun w h => hts w (wsL_law_in w h)⟩
  obtain ⟨hKc, hKm, hTg, hds, hcA, hmA⟩ := hC
  obtain ⟨p0, p1, p2, ke, tb, t1, t2, t3, t4, t5, sb, ss, sw, fd, sr, kS, ot, asd, stt, ik, tp, td, fr, tt, vl, wr, bo, so, nu, mv, hPc, hPm, hRel⟩ := hLS
  obtain ⟨N, h8, hN, hA, hR⟩ := hRel.1
  obtain ⟨N2, k8, kN, kk2⟩ := hRel.2.1
  obtain ⟨T, hT2, rfl, rfl⟩ := hRel.2.2.2.2.1
  have hNs : sr 0 = nI N := (hA 0 (by omega)).symm.trans hN
  have hz : ∀ t, t < 4 → ∃ z : Nat, z ≤ 40 ∧ ss t = nI z := fun t ht => (hRel.2.2.2.2.2.2.1 t ht).2.2
  have hzs : ∀ t, t < 4 → ∃ z : Nat, z ≤ 40 ∧ so t = nI z := fun t ht => by
    obtain ⟨-, e1, z, e2, e3⟩ := hRel.2.2.2.2.2.2.1 t ht
    exact ⟨z, e2, e1.symm.trans e3⟩
  refine lv_aload_n hx hb dL_law_895 rfl (lv_at hl 2 rfl) ?_
  refine lv_aload_n hx hb dL_law_896 rfl (lv_at hl 1 rfl) ?_
  refine lv_iload_n hx hb dL_law_897 rfl (lv_at hl 0 rfl) ?_
  refine lv_iconst (v := nI 1) hx hb dL_law_898 (by decide) ?_
  refine lvn_iadd hx hb dL_law_899 ?_
  refine lq_sld hx hb hX hbl hbA hS (show i + 1 < L by omega) (by omega) dL_law_900 ?_
  refine lv_aload_n hx hb dL_law_901 rfl (lv_at hl 1 rfl) ?_
  refine lv_iload_n hx hb dL_law_902 rfl (lv_at hl 0 rfl) ?_
  refine lv_iconst (v := nI 2) hx hb dL_law_903 (by decide) ?_
  refine lvn_iadd hx hb dL_law_904 ?_
  refine lq_sld hx hb hX hbl hbA hS (show i + 2 < L by omega) (by omega) dL_law_905 ?_
  refine lq_C S hKc hPc hS hcA (c_X4_feed hT2) gL_law_X4_feed i_X4_feed rfl ⟨Nat.le_of_ble_eq_true rfl, Nat.le_of_ble_eq_true rfl⟩ rfl hl.1 (As := [.int (xs (i + 1)), .int (xs (i + 2))]) (rest := []) rfl (Nat.le_of_ble_eq_true rfl) ⟨Nat.le_of_ble_eq_true rfl, Nat.le_of_ble_eq_true rfl⟩ dL_law_906 (fun p1q t2q t3q t4q t5q H1 locs1 hPc hk hS => ?_)
  have hPm := keepM hds hPm hk
  refine lv_aload_n hx hb dL_law_909 rfl (lv_at hl 3 rfl) ?_
  refine lv_aload_n hx hb dL_law_910 rfl (lv_at hl 1 rfl) ?_
  refine lv_iload_n hx hb dL_law_911 rfl (lv_at hl 0 rfl) ?_
  refine lv_iconst (v := nI 1) hx hb dL_law_912 (by decide) ?_
  refine lvn_iadd hx hb dL_law_913 ?_
  refine lq_sld hx hb hX hbl hbA hS (show i + 1 < L by omega) (by omega) dL_law_914 ?_
  refine lv_aload_n hx hb dL_law_915 rfl (lv_at hl 1 rfl) ?_
  refine lv_iload_n hx hb dL_law_916 rfl (lv_at hl 0 rfl) ?_
  refine lv_iconst (v := nI 2) hx hb dL_law_917 (by decide) ?_
  refine lvn_iadd hx hb dL_law_918 ?_
  refine lq_sld hx hb hX hbl hbA hS (show i + 2 < L by omega) (by omega) dL_law_919 ?_
  refine lq_M S hKm hPm hS hmA (c_X5_feed rfl hT2) gL_law_X5_feed i_X5_feed rfl ⟨Nat.le_of_ble_eq_true rfl, Nat.le_of_ble_eq_true rfl⟩ rfl hl.1 (As := [.int (xs (i + 1)), .int (xs (i + 2))]) rfl (Nat.le_of_ble_eq_true rfl) ⟨Nat.le_of_ble_eq_true rfl, Nat.le_of_ble_eq_true rfl⟩ dL_law_920 (fun otq asdq frq ttq vlq wrq mvq H2 locs2 hPm hk hS => ?_)
  have hPc := keepC hds hPc hk
  have hs := sim_feed hT2 hRel h8 hN hA hR (q := xs (i + 1)) (o := xs (i + 2))
  refine lv_icmp_eq (tgt := 1308) hx hb dL_law_923 (by decide) (fun _ => kk _ _ ⟨_, _, _, _, _, _, _, _, _, _, _, _, _, _, _, _, _, _, _, _, _, _, _, _, _, _, _, _, _, _, hPc, hPm, hs.2⟩ hS) (fun q => absurd (Value.int.inj (Option.some.inj hs.1)) q)
set_option maxHeartbeats 1000000 in
set_option maxRecDepth 100000 in
theorem law_wipe {p : Program} {l : Launch} {e : Env} {s : State} {m : MethodId} {below : List Frame} {meth : Method} {c : Code} {b L : Nat} {xs : Nat → Int32} {D : va_G} {cy : Nat → ClassId} {ad am kq vq : Nat → Nat} {Q : State → Prop} {i : Nat} {H : Heap} {locs : List Loc} {ls : Array Slot} (hL : L ≤ 3072) (hi : i + 6 ≤ L) (C0 : lw_At p s m meth c b L xs) (hC : LCx D cy ad am kq vq s) (hS : va_S (fun q => s.heap.size ≤ q) s.heap H locs) (hl : lv_has ls 4 [(3, .int (nI i)), (0, .ref b), (1, .ref (ad 0)), (2, .ref (am 0))]) (hLS : LSt D cy ad am H) (kk : ∀ (H1 : Heap) (locs1 : List Loc), LSt D cy ad am H1 → va_S (fun q => s.heap.size ≤ q) s.heap H1 locs1 → W p l e room_1 s m #[Value.ref b] below meth c H1 locs1 54 1177 Q (F0 m 1308 ls [])) : W p l e room_1 s m #[Value.ref b] below meth c H locs 54 1177 Q (F0 m 928 ls []) := by
  obtain ⟨hx, hb, hr, hml, hown, hts, hX, hbl, hlocks, hgv⟩ := id C0
  have hown : s.vm.findClass RL = some m.cls := hown
  have hbA : ¬ (fun q : Nat => s.heap.size ≤ q) b := Nat.not_le.mpr hbl
  have S : CallFix p m c cL_law 4 s #[Value.ref b] wsL_law RL := ⟨hx, hb, hml, hown, fun w h => hts w (wsL_law_in w h)⟩
  obtain ⟨hKc, hKm, hTg, hds, hcA, hmA⟩ := hC
  obtain ⟨p0, p1, p2, ke, tb, t1, t2, t3, t4, t5, sb, ss, sw, fd, sr, kS, ot, asd, stt, ik, tp, td, fr, tt, vl, wr, bo, so, nu, mv, hPc, hPm, hRel⟩ := hLS
  obtain ⟨N, h8, hN, hA, hR⟩ := hRel.1
  obtain ⟨N2, k8, kN, kk2⟩ := hRel.2.1
  obtain ⟨T, hT2, rfl, rfl⟩ := hRel.2.2.2.2.1
  have hNs : sr 0 = nI N := (hA 0 (by omega)).symm.trans hN
  have hz : ∀ t, t < 4 → ∃ z : Nat, z ≤ 40 ∧ ss t = nI z := fun t ht => (hRel.2.2.2.2.2.2.1 t ht).2.2
  have hzs : ∀ t, t < 4 → ∃ z : Nat, z ≤ 40 ∧ so t = nI z := fun t ht => by
    obtain ⟨-, e1, z, e2, e3⟩ := hRel.2.2.2.2.2.2.1 t ht
    exact ⟨z, e2, e1.symm.trans e3⟩
  refine lv_aload_n hx hb dL_law_928 rfl (lv_at hl 2 rfl) ?_
  refine lq_C S hKc hPc hS hcA (c_X4_wipe) gL_law_X4_wipe i_X4_wipe rfl ⟨Nat.le_of_ble_eq_true rfl, Nat.le_of_ble_eq_true rfl⟩ rfl hl.1 (As := []) (rest := []) rfl (Nat.le_of_ble_eq_true rfl) ⟨Nat.le_of_ble_eq_true rfl, Nat.le_of_ble_eq_true rfl⟩ dL_law_929 (fun p1q t2q t3q t4q t5q H1 locs1 hPc hk hS => ?_)
  have hPm := keepM hds hPm hk
  refine lv_aload_n hx hb dL_law_932 rfl (lv_at hl 3 rfl) ?_
  refine lq_M S hKm hPm hS hmA (c_X5_wipe) gL_law_X5_wipe i_X5_wipe rfl ⟨Nat.le_of_ble_eq_true rfl, Nat.le_of_ble_eq_true rfl⟩ rfl hl.1 (As := []) rfl (Nat.le_of_ble_eq_true rfl) ⟨Nat.le_of_ble_eq_true rfl, Nat.le_of_ble_eq_true rfl⟩ dL_law_933 (fun otq asdq frq ttq vlq wrq mvq H2 locs2 hPm hk hS => ?_)
  have hPc := keepC hds hPc hk
  have hs := sim_wipe hT2 hRel h8 hN hA hR 
  refine lv_icmp_eq (tgt := 1308) hx hb dL_law_936 (by decide) (fun _ => kk _ _ ⟨_, _, _, _, _, _, _, _, _, _, _, _, _, _, _, _, _, _, _, _, _, _, _, _, _, _, _, _, _, _, hPc, hPm, hs.2⟩ hS) (fun q => absurd (Value.int.inj (Option.some.inj hs.1)) q)
set_option maxHeartbeats 1000000 in
set_option maxRecDepth 100000 in
theorem law_text {p : Program} {l : Launch} {e : Env} {s : State} {m : MethodId} {below : List Frame} {meth : Method} {c : Code} {b L : Nat} {xs : Nat → Int32} {D : va_G} {cy : Nat → ClassId} {ad am kq vq : Nat → Nat} {Q : State → Prop} {i : Nat} {H : Heap} {locs : List Loc} {ls : Array Slot} (hL : L ≤ 3072) (hi : i + 6 ≤ L) (C0 : lw_At p s m meth c b L xs) (hC : LCx D cy ad am kq vq s) (hS : va_S (fun q => s.heap.size ≤ q) s.heap H locs) (hl : lv_has ls 4 [(3, .int (nI i)), (0, .ref b), (1, .ref (ad 0)), (2, .ref (am 0))]) (hLS : LSt D cy ad am H) (kk : ∀ (H1 : Heap) (locs1 : List Loc), LSt D cy ad am H1 → va_S (fun q => s.heap.size ≤ q) s.heap H1 locs1 → W p l e room_1 s m #[Value.ref b] below meth c H1 locs1 54 1177 Q (F0 m 1308 ls [])) : W p l e room_1 s m #[Value.ref b] below meth c H locs 54 1177 Q (F0 m 941 ls []) := by
  obtain ⟨hx, hb, hr, hml, hown, hts, hX, hbl, hlocks, hgv⟩ := id C0
  have hown : s.vm.findClass RL = some m.cls := hown
  have hbA : ¬ (fun q : Nat => s.heap.size ≤ q) b := Nat.not_le.mpr hbl
  have S : CallFix p m c cL_law 4 s #[Value.ref b] wsL_law RL := ⟨hx, hb, hml, hown, fun w h => hts w (wsL_law_in w h)⟩
  obtain ⟨hKc, hKm, hTg, hds, hcA, hmA⟩ := hC
  obtain ⟨p0, p1, p2, ke, tb, t1, t2, t3, t4, t5, sb, ss, sw, fd, sr, kS, ot, asd, stt, ik, tp, td, fr, tt, vl, wr, bo, so, nu, mv, hPc, hPm, hRel⟩ := hLS
  obtain ⟨N, h8, hN, hA, hR⟩ := hRel.1
  obtain ⟨N2, k8, kN, kk2⟩ := hRel.2.1
  obtain ⟨T, hT2, rfl, rfl⟩ := hRel.2.2.2.2.1
  have hNs : sr 0 = nI N := (hA 0 (by omega)).symm.trans hN
  have hz : ∀ t, t < 4 → ∃ z : Nat, z ≤ 40 ∧ ss t = nI z := fun t ht => (hRel.2.2.2.2.2.2.1 t ht).2.2
  have hzs : ∀ t, t < 4 → ∃ z : Nat, z ≤ 40 ∧ so t = nI z := fun t ht => by
    obtain ⟨-, e1, z, e2, e3⟩ := hRel.2.2.2.2.2.2.1 t ht
    exact ⟨z, e2, e1.symm.trans e3⟩
  refine lv_aload_n hx hb dL_law_941 rfl (lv_at hl 2 rfl) ?_
  refine lq_CT S hKc hTg hPc hS hcA (c_X4_text hT2 hN h8) gL_law_X4_text i_X4_text rfl ⟨Nat.le_of_ble_eq_true rfl, Nat.le_of_ble_eq_true rfl⟩ rfl hl.1 (As := []) (rest := []) rfl (Nat.le_of_ble_eq_true rfl) ⟨Nat.le_of_ble_eq_true rfl, Nat.le_of_ble_eq_true rfl⟩ dL_law_942 (fun p1q t2q t3q t4q t5q H1 locs1 hPc hk hS => ?_)
  have hPm := keepM hds hPm hk
  refine lv_aload_n hx hb dL_law_945 rfl (lv_at hl 3 rfl) ?_
  refine lq_M S hKm hPm hS hmA (c_X5_text hT2 hNs h8) gL_law_X5_text i_X5_text rfl ⟨Nat.le_of_ble_eq_true rfl, Nat.le_of_ble_eq_true rfl⟩ rfl hl.1 (As := []) rfl (Nat.le_of_ble_eq_true rfl) ⟨Nat.le_of_ble_eq_true rfl, Nat.le_of_ble_eq_true rfl⟩ dL_law_946 (fun otq asdq frq ttq vlq wrq mvq H2 locs2 hPm hk hS => ?_)
  have hPc := keepC hds hPc hk
  have hs := sim_text hT2 hRel h8 hN hA hR (p1 := p1) (t5 := t5) (vl := vl)
  refine lv_icmp_eq (tgt := 1308) hx hb dL_law_949 (by decide) (fun _ => kk _ _ ⟨_, _, _, _, _, _, _, _, _, _, _, _, _, _, _, _, _, _, _, _, _, _, _, _, _, _, _, _, _, _, hPc, hPm, hs.2⟩ hS) (fun q => absurd (Value.int.inj (Option.some.inj hs.1)) q)
set_option maxHeartbeats 1000000 in
set_option maxRecDepth 100000 in
theorem law_sheet {p : Program} {l : Launch} {e : Env} {s : State} {m : MethodId} {below : List Frame} {meth : Method} {c : Code} {b L : Nat} {xs : Nat → Int32} {D : va_G} {cy : Nat → ClassId} {ad am kq vq : Nat → Nat} {Q : State → Prop} {i : Nat} {H : Heap} {locs : List Loc} {ls : Array Slot} (hL : L ≤ 3072) (hi : i + 6 ≤ L) (C0 : lw_At p s m meth c b L xs) (hC : LCx D cy ad am kq vq s) (hS : va_S (fun q => s.heap.size ≤ q) s.heap H locs) (hl : lv_has ls 4 [(3, .int (nI i)), (0, .ref b), (1, .ref (ad 0)), (2, .ref (am 0))]) (hLS : LSt D cy ad am H) (kk : ∀ (H1 : Heap) (locs1 : List Loc), LSt D cy ad am H1 → va_S (fun q => s.heap.size ≤ q) s.heap H1 locs1 → W p l e room_1 s m #[Value.ref b] below meth c H1 locs1 54 1177 Q (F0 m 1308 ls [])) : W p l e room_1 s m #[Value.ref b] below meth c H locs 54 1177 Q (F0 m 954 ls []) := by
  obtain ⟨hx, hb, hr, hml, hown, hts, hX, hbl, hlocks, hgv⟩ := id C0
  have hown : s.vm.findClass RL = some m.cls := hown
  have hbA : ¬ (fun q : Nat => s.heap.size ≤ q) b := Nat.not_le.mpr hbl
  have S : CallFix p m c cL_law 4 s #[Value.ref b] wsL_law RL := ⟨hx, hb, hml, hown, fun w h => hts w (wsL_law_in w h)⟩
  obtain ⟨hKc, hKm, hTg, hds, hcA, hmA⟩ := hC
  obtain ⟨p0, p1, p2, ke, tb, t1, t2, t3, t4, t5, sb, ss, sw, fd, sr, kS, ot, asd, stt, ik, tp, td, fr, tt, vl, wr, bo, so, nu, mv, hPc, hPm, hRel⟩ := hLS
  obtain ⟨N, h8, hN, hA, hR⟩ := hRel.1
  obtain ⟨N2, k8, kN, kk2⟩ := hRel.2.1
  obtain ⟨T, hT2, rfl, rfl⟩ := hRel.2.2.2.2.1
  have hNs : sr 0 = nI N := (hA 0 (by omega)).symm.trans hN
  have hz : ∀ t, t < 4 → ∃ z : Nat, z ≤ 40 ∧ ss t = nI z := fun t ht => (hRel.2.2.2.2.2.2.1 t ht).2.2
  have hzs : ∀ t, t < 4 → ∃ z : Nat, z ≤ 40 ∧ so t = nI z := fun t ht => by
    obtain ⟨-, e1, z, e2, e3⟩ := hRel.2.2.2.2.2.2.1 t ht
    exact ⟨z, e2, e1.symm.trans e3⟩
  refine lv_aload_n hx hb dL_law_954 rfl (lv_at hl 2 rfl) ?_
  refine lv_aload_n hx hb dL_law_955 rfl (lv_at hl 1 rfl) ?_
  refine lv_iload_n hx hb dL_law_956 rfl (lv_at hl 0 rfl) ?_
  refine lv_iconst (v := nI 1) hx hb dL_law_957 (by decide) ?_
  refine lvn_iadd hx hb dL_law_958 ?_
  refine lq_sld hx hb hX hbl hbA hS (show i + 1 < L by omega) (by omega) dL_law_959 ?_
  refine lv_aload_n hx hb dL_law_960 rfl (lv_at hl 1 rfl) ?_
  refine lv_iload_n hx hb dL_law_961 rfl (lv_at hl 0 rfl) ?_
  refine lv_iconst (v := nI 2) hx hb dL_law_962 (by decide) ?_
  refine lvn_iadd hx hb dL_law_963 ?_
  refine lq_sld hx hb hX hbl hbA hS (show i + 2 < L by omega) (by omega) dL_law_964 ?_
  refine lv_aload_n hx hb dL_law_965 rfl (lv_at hl 1 rfl) ?_
  refine lv_iload_n hx hb dL_law_966 rfl (lv_at hl 0 rfl) ?_
  refine lv_iconst (v := nI 3) hx hb dL_law_967 (by decide) ?_
  refine lvn_iadd hx hb dL_law_968 ?_
  refine lq_sld hx hb hX hbl hbA hS (show i + 3 < L by omega) (by omega) dL_law_969 ?_
  refine lq_C S hKc hPc hS hcA (c_X4_sheet) gL_law_X4_sheet i_X4_sheet rfl ⟨Nat.le_of_ble_eq_true rfl, Nat.le_of_ble_eq_true rfl⟩ rfl hl.1 (As := [.int (xs (i + 1)), .int (xs (i + 2)), .int (xs (i + 3))]) (rest := []) rfl (Nat.le_of_ble_eq_true rfl) ⟨Nat.le_of_ble_eq_true rfl, Nat.le_of_ble_eq_true rfl⟩ dL_law_970 (fun p1q t2q t3q t4q t5q H1 locs1 hPc hk hS => ?_)
  have hPm := keepM hds hPm hk
  refine lv_aload_n hx hb dL_law_973 rfl (lv_at hl 3 rfl) ?_
  refine lv_aload_n hx hb dL_law_974 rfl (lv_at hl 1 rfl) ?_
  refine lv_iload_n hx hb dL_law_975 rfl (lv_at hl 0 rfl) ?_
  refine lv_iconst (v := nI 1) hx hb dL_law_976 (by decide) ?_
  refine lvn_iadd hx hb dL_law_977 ?_
  refine lq_sld hx hb hX hbl hbA hS (show i + 1 < L by omega) (by omega) dL_law_978 ?_
  refine lv_aload_n hx hb dL_law_979 rfl (lv_at hl 1 rfl) ?_
  refine lv_iload_n hx hb dL_law_980 rfl (lv_at hl 0 rfl) ?_
  refine lv_iconst (v := nI 2) hx hb dL_law_981 (by decide) ?_
  refine lvn_iadd hx hb dL_law_982 ?_
  refine lq_sld hx hb hX hbl hbA hS (show i + 2 < L by omega) (by omega) dL_law_983 ?_
  refine lv_aload_n hx hb dL_law_984 rfl (lv_at hl 1 rfl) ?_
  refine lv_iload_n hx hb dL_law_985 rfl (lv_at hl 0 rfl) ?_
  refine lv_iconst (v := nI 3) hx hb dL_law_986 (by decide) ?_
  refine lvn_iadd hx hb dL_law_987 ?_
  refine lq_sld hx hb hX hbl hbA hS (show i + 3 < L by omega) (by omega) dL_law_988 ?_
  refine lq_M S hKm hPm hS hmA (c_X5_sheet) gL_law_X5_sheet i_X5_sheet rfl ⟨Nat.le_of_ble_eq_true rfl, Nat.le_of_ble_eq_true rfl⟩ rfl hl.1 (As := [.int (xs (i + 1)), .int (xs (i + 2)), .int (xs (i + 3))]) rfl (Nat.le_of_ble_eq_true rfl) ⟨Nat.le_of_ble_eq_true rfl, Nat.le_of_ble_eq_true rfl⟩ dL_law_989 (fun otq asdq frq ttq vlq wrq mvq H2 locs2 hPm hk hS => ?_)
  have hPc := keepC hds hPc hk
  have hs := sim_sheet hRel h8 hN hA hR (q := xs (i + 1)) (o := xs (i + 2)) (v := xs (i + 3))
  refine lv_icmp_eq (tgt := 1308) hx hb dL_law_992 (by decide) (fun _ => kk _ _ ⟨_, _, _, _, _, _, _, _, _, _, _, _, _, _, _, _, _, _, _, _, _, _, _, _, _, _, _, _, _, _, hPc, hPm, hs.2⟩ hS) (fun q => absurd (Value.int.inj (Option.some.inj hs.1)) q)
set_option maxHeartbeats 1000000 in
set_option maxRecDepth 100000 in
theorem law_write {p : Program} {l : Launch} {e : Env} {s : State} {m : MethodId} {below : List Frame} {meth : Method} {c : Code} {b L : Nat} {xs : Nat → Int32} {D : va_G} {cy : Nat → ClassId} {ad am kq vq : Nat → Nat} {Q : State → Prop} {i : Nat} {H : Heap} {locs : List Loc} {ls : Array Slot} (hL : L ≤ 3072) (hi : i + 6 ≤ L) (C0 : lw_At p s m meth c b L xs) (hC : LCx D cy ad am kq vq s) (hS : va_S (fun q => s.heap.size ≤ q) s.heap H locs) (hl : lv_has ls 4 [(3, .int (nI i)), (0, .ref b), (1, .ref (ad 0)), (2, .ref (am 0))]) (hLS : LSt D cy ad am H) (kk : ∀ (H1 : Heap) (locs1 : List Loc), LSt D cy ad am H1 → va_S (fun q => s.heap.size ≤ q) s.heap H1 locs1 → W p l e room_1 s m #[Value.ref b] below meth c H1 locs1 54 1177 Q (F0 m 1308 ls [])) : W p l e room_1 s m #[Value.ref b] below meth c H locs 54 1177 Q (F0 m 997 ls []) := by
  obtain ⟨hx, hb, hr, hml, hown, hts, hX, hbl, hlocks, hgv⟩ := id C0
  have hown : s.vm.findClass RL = some m.cls := hown
  have hbA : ¬ (fun q : Nat => s.heap.size ≤ q) b := Nat.not_le.mpr hbl
  have S : CallFix p m c cL_law 4 s #[Value.ref b] wsL_law RL := ⟨hx, hb, hml, hown, fun w h => hts w (wsL_law_in w h)⟩
  obtain ⟨hKc, hKm, hTg, hds, hcA, hmA⟩ := hC
  obtain ⟨p0, p1, p2, ke, tb, t1, t2, t3, t4, t5, sb, ss, sw, fd, sr, kS, ot, asd, stt, ik, tp, td, fr, tt, vl, wr, bo, so, nu, mv, hPc, hPm, hRel⟩ := hLS
  obtain ⟨N, h8, hN, hA, hR⟩ := hRel.1
  obtain ⟨N2, k8, kN, kk2⟩ := hRel.2.1
  obtain ⟨T, hT2, rfl, rfl⟩ := hRel.2.2.2.2.1
  have hNs : sr 0 = nI N := (hA 0 (by omega)).symm.trans hN
  have hz : ∀ t, t < 4 → ∃ z : Nat, z ≤ 40 ∧ ss t = nI z := fun t ht => (hRel.2.2.2.2.2.2.1 t ht).2.2
  have hzs : ∀ t, t < 4 → ∃ z : Nat, z ≤ 40 ∧ so t = nI z := fun t ht => by
    obtain ⟨-, e1, z, e2, e3⟩ := hRel.2.2.2.2.2.2.1 t ht
    exact ⟨z, e2, e1.symm.trans e3⟩
  refine lv_aload_n hx hb dL_law_997 rfl (lv_at hl 2 rfl) ?_
  refine lv_aload_n hx hb dL_law_998 rfl (lv_at hl 1 rfl) ?_
  refine lv_iload_n hx hb dL_law_999 rfl (lv_at hl 0 rfl) ?_
  refine lv_iconst (v := nI 1) hx hb dL_law_1000 (by decide) ?_
  refine lvn_iadd hx hb dL_law_1001 ?_
  refine lq_sld hx hb hX hbl hbA hS (show i + 1 < L by omega) (by omega) dL_law_1002 ?_
  refine lv_aload_n hx hb dL_law_1003 rfl (lv_at hl 1 rfl) ?_
  refine lv_iload_n hx hb dL_law_1004 rfl (lv_at hl 0 rfl) ?_
  refine lv_iconst (v := nI 2) hx hb dL_law_1005 (by decide) ?_
  refine lvn_iadd hx hb dL_law_1006 ?_
  refine lq_sld hx hb hX hbl hbA hS (show i + 2 < L by omega) (by omega) dL_law_1007 ?_
  refine lv_aload_n hx hb dL_law_1008 rfl (lv_at hl 1 rfl) ?_
  refine lv_iload_n hx hb dL_law_1009 rfl (lv_at hl 0 rfl) ?_
  refine lv_iconst (v := nI 3) hx hb dL_law_1010 (by decide) ?_
  refine lvn_iadd hx hb dL_law_1011 ?_
  refine lq_sld hx hb hX hbl hbA hS (show i + 3 < L by omega) (by omega) dL_law_1012 ?_
  refine lv_i2l (v := (xs (i + 3)).toInt64) hx hb dL_law_1013 rfl ?_
  refine lv_bipush (v := nI 32) hx hb dL_law_1014 (by decide) ?_
  refine lv_lshl (v := ((xs (i + 3)).toInt64) <<< ((nI 32).toInt64 &&& 63)) hx hb dL_law_1016 rfl ?_
  refine lv_aload_n hx hb dL_law_1017 rfl (lv_at hl 1 rfl) ?_
  refine lv_iload_n hx hb dL_law_1018 rfl (lv_at hl 0 rfl) ?_
  refine lv_iconst (v := nI 4) hx hb dL_law_1019 (by decide) ?_
  refine lvn_iadd hx hb dL_law_1020 ?_
  refine lq_sld hx hb hX hbl hbA hS (show i + 4 < L by omega) (by omega) dL_law_1021 ?_
  refine lv_i2l (v := (xs (i + 4)).toInt64) hx hb dL_law_1022 rfl ?_
  refine lv_ldc2 (v := 4294967295) hx hb hown (hts (.constantLong RL 125 (4294967295)) (wsL_in_1 _ (by decide +kernel))) dL_law_1023 ?_
  refine lv_land hx hb dL_law_1026 ?_
  refine lv_lor hx hb dL_law_1027 ?_
  refine lq_C S hKc hPc hS hcA (c_X4_write hz) gL_law_X4_write i_X4_write rfl ⟨Nat.le_of_ble_eq_true rfl, Nat.le_of_ble_eq_true rfl⟩ rfl hl.1 (As := [.int (xs (i + 1)), .int (xs (i + 2)), .long ((((xs (i + 3)).toInt64) <<< ((nI 32).toInt64 &&& 63)) ||| (((xs (i + 4)).toInt64) &&& 4294967295))]) (rest := []) rfl (Nat.le_of_ble_eq_true rfl) ⟨Nat.le_of_ble_eq_true rfl, Nat.le_of_ble_eq_true rfl⟩ dL_law_1028 (fun p1q t2q t3q t4q t5q H1 locs1 hPc hk hS => ?_)
  have hPm := keepM hds hPm hk
  refine lv_aload_n hx hb dL_law_1031 rfl (lv_at hl 3 rfl) ?_
  refine lv_aload_n hx hb dL_law_1032 rfl (lv_at hl 1 rfl) ?_
  refine lv_iload_n hx hb dL_law_1033 rfl (lv_at hl 0 rfl) ?_
  refine lv_iconst (v := nI 1) hx hb dL_law_1034 (by decide) ?_
  refine lvn_iadd hx hb dL_law_1035 ?_
  refine lq_sld hx hb hX hbl hbA hS (show i + 1 < L by omega) (by omega) dL_law_1036 ?_
  refine lv_aload_n hx hb dL_law_1037 rfl (lv_at hl 1 rfl) ?_
  refine lv_iload_n hx hb dL_law_1038 rfl (lv_at hl 0 rfl) ?_
  refine lv_iconst (v := nI 2) hx hb dL_law_1039 (by decide) ?_
  refine lvn_iadd hx hb dL_law_1040 ?_
  refine lq_sld hx hb hX hbl hbA hS (show i + 2 < L by omega) (by omega) dL_law_1041 ?_
  refine lv_aload_n hx hb dL_law_1042 rfl (lv_at hl 1 rfl) ?_
  refine lv_iload_n hx hb dL_law_1043 rfl (lv_at hl 0 rfl) ?_
  refine lv_iconst (v := nI 3) hx hb dL_law_1044 (by decide) ?_
  refine lvn_iadd hx hb dL_law_1045 ?_
  refine lq_sld hx hb hX hbl hbA hS (show i + 3 < L by omega) (by omega) dL_law_1046 ?_
  refine lv_i2l (v := (xs (i + 3)).toInt64) hx hb dL_law_1047 rfl ?_
  refine lv_bipush (v := nI 32) hx hb dL_law_1048 (by decide) ?_
  refine lv_lshl (v := ((xs (i + 3)).toInt64) <<< ((nI 32).toInt64 &&& 63)) hx hb dL_law_1050 rfl ?_
  refine lv_aload_n hx hb dL_law_1051 rfl (lv_at hl 1 rfl) ?_
  refine lv_iload_n hx hb dL_law_1052 rfl (lv_at hl 0 rfl) ?_
  refine lv_iconst (v := nI 4) hx hb dL_law_1053 (by decide) ?_
  refine lvn_iadd hx hb dL_law_1054 ?_
  refine lq_sld hx hb hX hbl hbA hS (show i + 4 < L by omega) (by omega) dL_law_1055 ?_
  refine lv_i2l (v := (xs (i + 4)).toInt64) hx hb dL_law_1056 rfl ?_
  refine lv_ldc2 (v := 4294967295) hx hb hown (hts (.constantLong RL 125 (4294967295)) (wsL_in_1 _ (by decide +kernel))) dL_law_1057 ?_
  refine lv_land hx hb dL_law_1060 ?_
  refine lv_lor hx hb dL_law_1061 ?_
  refine lq_M S hKm hPm hS hmA (c_X5_write hzs) gL_law_X5_write i_X5_write rfl ⟨Nat.le_of_ble_eq_true rfl, Nat.le_of_ble_eq_true rfl⟩ rfl hl.1 (As := [.int (xs (i + 1)), .int (xs (i + 2)), .long ((((xs (i + 3)).toInt64) <<< ((nI 32).toInt64 &&& 63)) ||| (((xs (i + 4)).toInt64) &&& 4294967295))]) rfl (Nat.le_of_ble_eq_true rfl) ⟨Nat.le_of_ble_eq_true rfl, Nat.le_of_ble_eq_true rfl⟩ dL_law_1062 (fun otq asdq frq ttq vlq wrq mvq H2 locs2 hPm hk hS => ?_)
  have hPc := keepC hds hPc hk
  have hs := sim_write hRel h8 hN hA hR (q := xs (i + 1)) (o := xs (i + 2)) (x := (((xs (i + 3)).toInt64) <<< ((nI 32).toInt64 &&& 63)) ||| (((xs (i + 4)).toInt64) &&& 4294967295))
  refine W.lcmp hx hb dL_law_1065 ?_
  refine lv_if_eq (tgt := 1308) hx hb dL_law_1066 (by decide) (fun _ => kk _ _ ⟨_, _, _, _, _, _, _, _, _, _, _, _, _, _, _, _, _, _, _, _, _, _, _, _, _, _, _, _, _, _, hPc, hPm, hs.2⟩ hS) (fun q => absurd (by rw [lg_cmp_eq]; exact Value.long.inj (Option.some.inj hs.1)) q)
set_option maxHeartbeats 1000000 in
set_option maxRecDepth 100000 in
theorem law_copy {p : Program} {l : Launch} {e : Env} {s : State} {m : MethodId} {below : List Frame} {meth : Method} {c : Code} {b L : Nat} {xs : Nat → Int32} {D : va_G} {cy : Nat → ClassId} {ad am kq vq : Nat → Nat} {Q : State → Prop} {i : Nat} {H : Heap} {locs : List Loc} {ls : Array Slot} (hL : L ≤ 3072) (hi : i + 6 ≤ L) (C0 : lw_At p s m meth c b L xs) (hC : LCx D cy ad am kq vq s) (hS : va_S (fun q => s.heap.size ≤ q) s.heap H locs) (hl : lv_has ls 4 [(3, .int (nI i)), (0, .ref b), (1, .ref (ad 0)), (2, .ref (am 0))]) (hLS : LSt D cy ad am H) (kk : ∀ (H1 : Heap) (locs1 : List Loc), LSt D cy ad am H1 → va_S (fun q => s.heap.size ≤ q) s.heap H1 locs1 → W p l e room_1 s m #[Value.ref b] below meth c H1 locs1 54 1177 Q (F0 m 1308 ls [])) : W p l e room_1 s m #[Value.ref b] below meth c H locs 54 1177 Q (F0 m 1071 ls []) := by
  obtain ⟨hx, hb, hr, hml, hown, hts, hX, hbl, hlocks, hgv⟩ := id C0
  have hown : s.vm.findClass RL = some m.cls := hown
  have hbA : ¬ (fun q : Nat => s.heap.size ≤ q) b := Nat.not_le.mpr hbl
  have S : CallFix p m c cL_law 4 s #[Value.ref b] wsL_law RL := ⟨hx, hb, hml, hown, fun w h => hts w (wsL_law_in w h)⟩
  obtain ⟨hKc, hKm, hTg, hds, hcA, hmA⟩ := hC
  obtain ⟨p0, p1, p2, ke, tb, t1, t2, t3, t4, t5, sb, ss, sw, fd, sr, kS, ot, asd, stt, ik, tp, td, fr, tt, vl, wr, bo, so, nu, mv, hPc, hPm, hRel⟩ := hLS
  obtain ⟨N, h8, hN, hA, hR⟩ := hRel.1
  obtain ⟨N2, k8, kN, kk2⟩ := hRel.2.1
  obtain ⟨T, hT2, rfl, rfl⟩ := hRel.2.2.2.2.1
  have hNs : sr 0 = nI N := (hA 0 (by omega)).symm.trans hN
  have hz : ∀ t, t < 4 → ∃ z : Nat, z ≤ 40 ∧ ss t = nI z := fun t ht => (hRel.2.2.2.2.2.2.1 t ht).2.2
  have hzs : ∀ t, t < 4 → ∃ z : Nat, z ≤ 40 ∧ so t = nI z := fun t ht => by
    obtain ⟨-, e1, z, e2, e3⟩ := hRel.2.2.2.2.2.2.1 t ht
    exact ⟨z, e2, e1.symm.trans e3⟩
  refine lv_aload_n hx hb dL_law_1071 rfl (lv_at hl 2 rfl) ?_
  refine lv_aload_n hx hb dL_law_1072 rfl (lv_at hl 1 rfl) ?_
  refine lv_iload_n hx hb dL_law_1073 rfl (lv_at hl 0 rfl) ?_
  refine lv_iconst (v := nI 1) hx hb dL_law_1074 (by decide) ?_
  refine lvn_iadd hx hb dL_law_1075 ?_
  refine lq_sld hx hb hX hbl hbA hS (show i + 1 < L by omega) (by omega) dL_law_1076 ?_
  refine lv_aload_n hx hb dL_law_1077 rfl (lv_at hl 1 rfl) ?_
  refine lv_iload_n hx hb dL_law_1078 rfl (lv_at hl 0 rfl) ?_
  refine lv_iconst (v := nI 2) hx hb dL_law_1079 (by decide) ?_
  refine lvn_iadd hx hb dL_law_1080 ?_
  refine lq_sld hx hb hX hbl hbA hS (show i + 2 < L by omega) (by omega) dL_law_1081 ?_
  refine lv_aload_n hx hb dL_law_1082 rfl (lv_at hl 1 rfl) ?_
  refine lv_iload_n hx hb dL_law_1083 rfl (lv_at hl 0 rfl) ?_
  refine lv_iconst (v := nI 3) hx hb dL_law_1084 (by decide) ?_
  refine lvn_iadd hx hb dL_law_1085 ?_
  refine lq_sld hx hb hX hbl hbA hS (show i + 3 < L by omega) (by omega) dL_law_1086 ?_
  refine lv_aload_n hx hb dL_law_1087 rfl (lv_at hl 1 rfl) ?_
  refine lv_iload_n hx hb dL_law_1088 rfl (lv_at hl 0 rfl) ?_
  refine lv_iconst (v := nI 4) hx hb dL_law_1089 (by decide) ?_
  refine lvn_iadd hx hb dL_law_1090 ?_
  refine lq_sld hx hb hX hbl hbA hS (show i + 4 < L by omega) (by omega) dL_law_1091 ?_
  refine lv_aload_n hx hb dL_law_1092 rfl (lv_at hl 1 rfl) ?_
  refine lv_iload_n hx hb dL_law_1093 rfl (lv_at hl 0 rfl) ?_
  refine lv_iconst (v := nI 5) hx hb dL_law_1094 (by decide) ?_
  refine lvn_iadd hx hb dL_law_1095 ?_
  refine lq_sld hx hb hX hbl hbA hS (show i + 5 < L by omega) (by omega) dL_law_1096 ?_
  refine lq_C S hKc hPc hS hcA (c_X4_copy hz) gL_law_X4_copy i_X4_copy rfl ⟨Nat.le_of_ble_eq_true rfl, Nat.le_of_ble_eq_true rfl⟩ rfl hl.1 (As := [.int (xs (i + 1)), .int (xs (i + 2)), .int (xs (i + 3)), .int (xs (i + 4)), .int (xs (i + 5))]) (rest := []) rfl (Nat.le_of_ble_eq_true rfl) ⟨Nat.le_of_ble_eq_true rfl, Nat.le_of_ble_eq_true rfl⟩ dL_law_1097 (fun p1q t2q t3q t4q t5q H1 locs1 hPc hk hS => ?_)
  have hPm := keepM hds hPm hk
  refine lv_aload_n hx hb dL_law_1100 rfl (lv_at hl 3 rfl) ?_
  refine lv_aload_n hx hb dL_law_1101 rfl (lv_at hl 1 rfl) ?_
  refine lv_iload_n hx hb dL_law_1102 rfl (lv_at hl 0 rfl) ?_
  refine lv_iconst (v := nI 1) hx hb dL_law_1103 (by decide) ?_
  refine lvn_iadd hx hb dL_law_1104 ?_
  refine lq_sld hx hb hX hbl hbA hS (show i + 1 < L by omega) (by omega) dL_law_1105 ?_
  refine lv_aload_n hx hb dL_law_1106 rfl (lv_at hl 1 rfl) ?_
  refine lv_iload_n hx hb dL_law_1107 rfl (lv_at hl 0 rfl) ?_
  refine lv_iconst (v := nI 2) hx hb dL_law_1108 (by decide) ?_
  refine lvn_iadd hx hb dL_law_1109 ?_
  refine lq_sld hx hb hX hbl hbA hS (show i + 2 < L by omega) (by omega) dL_law_1110 ?_
  refine lv_aload_n hx hb dL_law_1111 rfl (lv_at hl 1 rfl) ?_
  refine lv_iload_n hx hb dL_law_1112 rfl (lv_at hl 0 rfl) ?_
  refine lv_iconst (v := nI 3) hx hb dL_law_1113 (by decide) ?_
  refine lvn_iadd hx hb dL_law_1114 ?_
  refine lq_sld hx hb hX hbl hbA hS (show i + 3 < L by omega) (by omega) dL_law_1115 ?_
  refine lv_aload_n hx hb dL_law_1116 rfl (lv_at hl 1 rfl) ?_
  refine lv_iload_n hx hb dL_law_1117 rfl (lv_at hl 0 rfl) ?_
  refine lv_iconst (v := nI 4) hx hb dL_law_1118 (by decide) ?_
  refine lvn_iadd hx hb dL_law_1119 ?_
  refine lq_sld hx hb hX hbl hbA hS (show i + 4 < L by omega) (by omega) dL_law_1120 ?_
  refine lv_aload_n hx hb dL_law_1121 rfl (lv_at hl 1 rfl) ?_
  refine lv_iload_n hx hb dL_law_1122 rfl (lv_at hl 0 rfl) ?_
  refine lv_iconst (v := nI 5) hx hb dL_law_1123 (by decide) ?_
  refine lvn_iadd hx hb dL_law_1124 ?_
  refine lq_sld hx hb hX hbl hbA hS (show i + 5 < L by omega) (by omega) dL_law_1125 ?_
  refine lq_M S hKm hPm hS hmA (c_X5_copy hzs) gL_law_X5_copy i_X5_copy rfl ⟨Nat.le_of_ble_eq_true rfl, Nat.le_of_ble_eq_true rfl⟩ rfl hl.1 (As := [.int (xs (i + 1)), .int (xs (i + 2)), .int (xs (i + 3)), .int (xs (i + 4)), .int (xs (i + 5))]) rfl (Nat.le_of_ble_eq_true rfl) ⟨Nat.le_of_ble_eq_true rfl, Nat.le_of_ble_eq_true rfl⟩ dL_law_1126 (fun otq asdq frq ttq vlq wrq mvq H2 locs2 hPm hk hS => ?_)
  have hPc := keepC hds hPc hk
  have hs := sim_copy hRel h8 hN hA hR (q := xs (i + 1)) (b := xs (i + 2)) (o := xs (i + 3)) (d := xs (i + 4)) (n := xs (i + 5))
  refine lv_icmp_eq (tgt := 1308) hx hb dL_law_1129 (by decide) (fun _ => kk _ _ ⟨_, _, _, _, _, _, _, _, _, _, _, _, _, _, _, _, _, _, _, _, _, _, _, _, _, _, _, _, _, _, hPc, hPm, hs.2⟩ hS) (fun q => absurd (Value.int.inj (Option.some.inj hs.1)) q)
set_option maxHeartbeats 1000000 in
set_option maxRecDepth 100000 in
theorem law_lays {p : Program} {l : Launch} {e : Env} {s : State} {m : MethodId} {below : List Frame} {meth : Method} {c : Code} {b L : Nat} {xs : Nat → Int32} {D : va_G} {cy : Nat → ClassId} {ad am kq vq : Nat → Nat} {Q : State → Prop} {i : Nat} {H : Heap} {locs : List Loc} {ls : Array Slot} (hL : L ≤ 3072) (hi : i + 6 ≤ L) (C0 : lw_At p s m meth c b L xs) (hC : LCx D cy ad am kq vq s) (hS : va_S (fun q => s.heap.size ≤ q) s.heap H locs) (hl : lv_has ls 4 [(3, .int (nI i)), (0, .ref b), (1, .ref (ad 0)), (2, .ref (am 0))]) (hLS : LSt D cy ad am H) (kk : ∀ (H1 : Heap) (locs1 : List Loc), LSt D cy ad am H1 → va_S (fun q => s.heap.size ≤ q) s.heap H1 locs1 → W p l e room_1 s m #[Value.ref b] below meth c H1 locs1 54 1177 Q (F0 m 1308 ls [])) : W p l e room_1 s m #[Value.ref b] below meth c H locs 54 1177 Q (F0 m 1134 ls []) := by
  obtain ⟨hx, hb, hr, hml, hown, hts, hX, hbl, hlocks, hgv⟩ := id C0
  have hown : s.vm.findClass RL = some m.cls := hown
  have hbA : ¬ (fun q : Nat => s.heap.size ≤ q) b := Nat.not_le.mpr hbl
  have S : CallFix p m c cL_law 4 s #[Value.ref b] wsL_law RL := ⟨hx, hb, hml, hown, fun w h => hts w (wsL_law_in w h)⟩
  obtain ⟨hKc, hKm, hTg, hds, hcA, hmA⟩ := hC
  obtain ⟨p0, p1, p2, ke, tb, t1, t2, t3, t4, t5, sb, ss, sw, fd, sr, kS, ot, asd, stt, ik, tp, td, fr, tt, vl, wr, bo, so, nu, mv, hPc, hPm, hRel⟩ := hLS
  obtain ⟨N, h8, hN, hA, hR⟩ := hRel.1
  obtain ⟨N2, k8, kN, kk2⟩ := hRel.2.1
  obtain ⟨T, hT2, rfl, rfl⟩ := hRel.2.2.2.2.1
  have hNs : sr 0 = nI N := (hA 0 (by omega)).symm.trans hN
  have hz : ∀ t, t < 4 → ∃ z : Nat, z ≤ 40 ∧ ss t = nI z := fun t ht => (hRel.2.2.2.2.2.2.1 t ht).2.2
  have hzs : ∀ t, t < 4 → ∃ z : Nat, z ≤ 40 ∧ so t = nI z := fun t ht => by
    obtain ⟨-, e1, z, e2, e3⟩ := hRel.2.2.2.2.2.2.1 t ht
    exact ⟨z, e2, e1.symm.trans e3⟩
  refine lv_aload_n hx hb dL_law_1134 rfl (lv_at hl 2 rfl) ?_
  refine lv_aload_n hx hb dL_law_1135 rfl (lv_at hl 1 rfl) ?_
  refine lv_iload_n hx hb dL_law_1136 rfl (lv_at hl 0 rfl) ?_
  refine lv_iconst (v := nI 1) hx hb dL_law_1137 (by decide) ?_
  refine lvn_iadd hx hb dL_law_1138 ?_
  refine lq_sld hx hb hX hbl hbA hS (show i + 1 < L by omega) (by omega) dL_law_1139 ?_
  refine lq_C S hKc hPc hS hcA (c_X4_lays hN h8 hz) gL_law_X4_lays i_X4_lays rfl ⟨Nat.le_of_ble_eq_true rfl, Nat.le_of_ble_eq_true rfl⟩ rfl hl.1 (As := [.int (xs (i + 1))]) (rest := []) rfl (Nat.le_of_ble_eq_true rfl) ⟨Nat.le_of_ble_eq_true rfl, Nat.le_of_ble_eq_true rfl⟩ dL_law_1140 (fun p1q t2q t3q t4q t5q H1 locs1 hPc hk hS => ?_)
  have hPm := keepM hds hPm hk
  refine lv_aload_n hx hb dL_law_1143 rfl (lv_at hl 3 rfl) ?_
  refine lv_aload_n hx hb dL_law_1144 rfl (lv_at hl 1 rfl) ?_
  refine lv_iload_n hx hb dL_law_1145 rfl (lv_at hl 0 rfl) ?_
  refine lv_iconst (v := nI 1) hx hb dL_law_1146 (by decide) ?_
  refine lvn_iadd hx hb dL_law_1147 ?_
  refine lq_sld hx hb hX hbl hbA hS (show i + 1 < L by omega) (by omega) dL_law_1148 ?_
  refine lq_M S hKm hPm hS hmA (c_X5_lays hNs h8 hzs) gL_law_X5_lays i_X5_lays rfl ⟨Nat.le_of_ble_eq_true rfl, Nat.le_of_ble_eq_true rfl⟩ rfl hl.1 (As := [.int (xs (i + 1))]) rfl (Nat.le_of_ble_eq_true rfl) ⟨Nat.le_of_ble_eq_true rfl, Nat.le_of_ble_eq_true rfl⟩ dL_law_1149 (fun otq asdq frq ttq vlq wrq mvq H2 locs2 hPm hk hS => ?_)
  have hPc := keepC hds hPc hk
  have hs := sim_lays hRel h8 hN hA hR (q := xs (i + 1))
  refine lv_icmp_eq (tgt := 1308) hx hb dL_law_1152 (by decide) (fun _ => kk _ _ ⟨_, _, _, _, _, _, _, _, _, _, _, _, _, _, _, _, _, _, _, _, _, _, _, _, _, _, _, _, _, _, hPc, hPm, hs.2⟩ hS) (fun q => absurd (Value.int.inj (Option.some.inj hs.1)) q)
set_option maxHeartbeats 1000000 in
set_option maxRecDepth 100000 in
theorem law_book {p : Program} {l : Launch} {e : Env} {s : State} {m : MethodId} {below : List Frame} {meth : Method} {c : Code} {b L : Nat} {xs : Nat → Int32} {D : va_G} {cy : Nat → ClassId} {ad am kq vq : Nat → Nat} {Q : State → Prop} {i : Nat} {H : Heap} {locs : List Loc} {ls : Array Slot} (hL : L ≤ 3072) (hi : i + 6 ≤ L) (C0 : lw_At p s m meth c b L xs) (hC : LCx D cy ad am kq vq s) (hS : va_S (fun q => s.heap.size ≤ q) s.heap H locs) (hl : lv_has ls 4 [(3, .int (nI i)), (0, .ref b), (1, .ref (ad 0)), (2, .ref (am 0))]) (hLS : LSt D cy ad am H) (kk : ∀ (H1 : Heap) (locs1 : List Loc), LSt D cy ad am H1 → va_S (fun q => s.heap.size ≤ q) s.heap H1 locs1 → W p l e room_1 s m #[Value.ref b] below meth c H1 locs1 54 1177 Q (F0 m 1308 ls [])) : W p l e room_1 s m #[Value.ref b] below meth c H locs 54 1177 Q (F0 m 1157 ls []) := by
  obtain ⟨hx, hb, hr, hml, hown, hts, hX, hbl, hlocks, hgv⟩ := id C0
  have hown : s.vm.findClass RL = some m.cls := hown
  have hbA : ¬ (fun q : Nat => s.heap.size ≤ q) b := Nat.not_le.mpr hbl
  have S : CallFix p m c cL_law 4 s #[Value.ref b] wsL_law RL := ⟨hx, hb, hml, hown, fun w h => hts w (wsL_law_in w h)⟩
  obtain ⟨hKc, hKm, hTg, hds, hcA, hmA⟩ := hC
  obtain ⟨p0, p1, p2, ke, tb, t1, t2, t3, t4, t5, sb, ss, sw, fd, sr, kS, ot, asd, stt, ik, tp, td, fr, tt, vl, wr, bo, so, nu, mv, hPc, hPm, hRel⟩ := hLS
  obtain ⟨N, h8, hN, hA, hR⟩ := hRel.1
  obtain ⟨N2, k8, kN, kk2⟩ := hRel.2.1
  obtain ⟨T, hT2, rfl, rfl⟩ := hRel.2.2.2.2.1
  have hNs : sr 0 = nI N := (hA 0 (by omega)).symm.trans hN
  have hz : ∀ t, t < 4 → ∃ z : Nat, z ≤ 40 ∧ ss t = nI z := fun t ht => (hRel.2.2.2.2.2.2.1 t ht).2.2
  have hzs : ∀ t, t < 4 → ∃ z : Nat, z ≤ 40 ∧ so t = nI z := fun t ht => by
    obtain ⟨-, e1, z, e2, e3⟩ := hRel.2.2.2.2.2.2.1 t ht
    exact ⟨z, e2, e1.symm.trans e3⟩
  refine lv_aload_n hx hb dL_law_1157 rfl (lv_at hl 2 rfl) ?_
  refine lv_aload_n hx hb dL_law_1158 rfl (lv_at hl 1 rfl) ?_
  refine lv_iload_n hx hb dL_law_1159 rfl (lv_at hl 0 rfl) ?_
  refine lv_iconst (v := nI 1) hx hb dL_law_1160 (by decide) ?_
  refine lvn_iadd hx hb dL_law_1161 ?_
  refine lq_sld hx hb hX hbl hbA hS (show i + 1 < L by omega) (by omega) dL_law_1162 ?_
  refine lv_aload_n hx hb dL_law_1163 rfl (lv_at hl 1 rfl) ?_
  refine lv_iload_n hx hb dL_law_1164 rfl (lv_at hl 0 rfl) ?_
  refine lv_iconst (v := nI 2) hx hb dL_law_1165 (by decide) ?_
  refine lvn_iadd hx hb dL_law_1166 ?_
  refine lq_sld hx hb hX hbl hbA hS (show i + 2 < L by omega) (by omega) dL_law_1167 ?_
  refine lq_C S hKc hPc hS hcA (c_X4_book hN h8 hz) gL_law_X4_book i_X4_book rfl ⟨Nat.le_of_ble_eq_true rfl, Nat.le_of_ble_eq_true rfl⟩ rfl hl.1 (As := [.int (xs (i + 1)), .int (xs (i + 2))]) (rest := []) rfl (Nat.le_of_ble_eq_true rfl) ⟨Nat.le_of_ble_eq_true rfl, Nat.le_of_ble_eq_true rfl⟩ dL_law_1168 (fun p1q t2q t3q t4q t5q H1 locs1 hPc hk hS => ?_)
  have hPm := keepM hds hPm hk
  refine lv_aload_n hx hb dL_law_1171 rfl (lv_at hl 3 rfl) ?_
  refine lv_aload_n hx hb dL_law_1172 rfl (lv_at hl 1 rfl) ?_
  refine lv_iload_n hx hb dL_law_1173 rfl (lv_at hl 0 rfl) ?_
  refine lv_iconst (v := nI 1) hx hb dL_law_1174 (by decide) ?_
  refine lvn_iadd hx hb dL_law_1175 ?_
  refine lq_sld hx hb hX hbl hbA hS (show i + 1 < L by omega) (by omega) dL_law_1176 ?_
  refine lv_aload_n hx hb dL_law_1177 rfl (lv_at hl 1 rfl) ?_
  refine lv_iload_n hx hb dL_law_1178 rfl (lv_at hl 0 rfl) ?_
  refine lv_iconst (v := nI 2) hx hb dL_law_1179 (by decide) ?_
  refine lvn_iadd hx hb dL_law_1180 ?_
  refine lq_sld hx hb hX hbl hbA hS (show i + 2 < L by omega) (by omega) dL_law_1181 ?_
  refine lq_M S hKm hPm hS hmA (c_X5_book hNs h8 hzs) gL_law_X5_book i_X5_book rfl ⟨Nat.le_of_ble_eq_true rfl, Nat.le_of_ble_eq_true rfl⟩ rfl hl.1 (As := [.int (xs (i + 1)), .int (xs (i + 2))]) rfl (Nat.le_of_ble_eq_true rfl) ⟨Nat.le_of_ble_eq_true rfl, Nat.le_of_ble_eq_true rfl⟩ dL_law_1182 (fun otq asdq frq ttq vlq wrq mvq H2 locs2 hPm hk hS => ?_)
  have hPc := keepC hds hPc hk
  have hs := sim_book hRel h8 hN hA hR (q := xs (i + 1)) (w := xs (i + 2))
  refine lv_icmp_eq (tgt := 1308) hx hb dL_law_1185 (by decide) (fun _ => kk _ _ ⟨_, _, _, _, _, _, _, _, _, _, _, _, _, _, _, _, _, _, _, _, _, _, _, _, _, _, _, _, _, _, hPc, hPm, hs.2⟩ hS) (fun q => absurd (Value.int.inj (Option.some.inj hs.1)) q)
set_option maxHeartbeats 1000000 in
set_option maxRecDepth 100000 in
theorem law_read {p : Program} {l : Launch} {e : Env} {s : State} {m : MethodId} {below : List Frame} {meth : Method} {c : Code} {b L : Nat} {xs : Nat → Int32} {D : va_G} {cy : Nat → ClassId} {ad am kq vq : Nat → Nat} {Q : State → Prop} {i : Nat} {H : Heap} {locs : List Loc} {ls : Array Slot} (hL : L ≤ 3072) (hi : i + 6 ≤ L) (C0 : lw_At p s m meth c b L xs) (hC : LCx D cy ad am kq vq s) (hS : va_S (fun q => s.heap.size ≤ q) s.heap H locs) (hl : lv_has ls 4 [(3, .int (nI i)), (0, .ref b), (1, .ref (ad 0)), (2, .ref (am 0))]) (hLS : LSt D cy ad am H) (kk : ∀ (H1 : Heap) (locs1 : List Loc), LSt D cy ad am H1 → va_S (fun q => s.heap.size ≤ q) s.heap H1 locs1 → W p l e room_1 s m #[Value.ref b] below meth c H1 locs1 54 1177 Q (F0 m 1308 ls [])) : W p l e room_1 s m #[Value.ref b] below meth c H locs 54 1177 Q (F0 m 1190 ls []) := by
  obtain ⟨hx, hb, hr, hml, hown, hts, hX, hbl, hlocks, hgv⟩ := id C0
  have hown : s.vm.findClass RL = some m.cls := hown
  have hbA : ¬ (fun q : Nat => s.heap.size ≤ q) b := Nat.not_le.mpr hbl
  have S : CallFix p m c cL_law 4 s #[Value.ref b] wsL_law RL := ⟨hx, hb, hml, hown, fun w h => hts w (wsL_law_in w h)⟩
  obtain ⟨hKc, hKm, hTg, hds, hcA, hmA⟩ := hC
  obtain ⟨p0, p1, p2, ke, tb, t1, t2, t3, t4, t5, sb, ss, sw, fd, sr, kS, ot, asd, stt, ik, tp, td, fr, tt, vl, wr, bo, so, nu, mv, hPc, hPm, hRel⟩ := hLS
  obtain ⟨N, h8, hN, hA, hR⟩ := hRel.1
  obtain ⟨N2, k8, kN, kk2⟩ := hRel.2.1
  obtain ⟨T, hT2, rfl, rfl⟩ := hRel.2.2.2.2.1
  have hNs : sr 0 = nI N := (hA 0 (by omega)).symm.trans hN
  have hz : ∀ t, t < 4 → ∃ z : Nat, z ≤ 40 ∧ ss t = nI z := fun t ht => (hRel.2.2.2.2.2.2.1 t ht).2.2
  have hzs : ∀ t, t < 4 → ∃ z : Nat, z ≤ 40 ∧ so t = nI z := fun t ht => by
    obtain ⟨-, e1, z, e2, e3⟩ := hRel.2.2.2.2.2.2.1 t ht
    exact ⟨z, e2, e1.symm.trans e3⟩
  refine lv_aload_n hx hb dL_law_1190 rfl (lv_at hl 2 rfl) ?_
  refine lv_aload_n hx hb dL_law_1191 rfl (lv_at hl 1 rfl) ?_
  refine lv_iload_n hx hb dL_law_1192 rfl (lv_at hl 0 rfl) ?_
  refine lv_iconst (v := nI 1) hx hb dL_law_1193 (by decide) ?_
  refine lvn_iadd hx hb dL_law_1194 ?_
  refine lq_sld hx hb hX hbl hbA hS (show i + 1 < L by omega) (by omega) dL_law_1195 ?_
  refine lv_aload_n hx hb dL_law_1196 rfl (lv_at hl 1 rfl) ?_
  refine lv_iload_n hx hb dL_law_1197 rfl (lv_at hl 0 rfl) ?_
  refine lv_iconst (v := nI 2) hx hb dL_law_1198 (by decide) ?_
  refine lvn_iadd hx hb dL_law_1199 ?_
  refine lq_sld hx hb hX hbl hbA hS (show i + 2 < L by omega) (by omega) dL_law_1200 ?_
  refine lq_C S hKc hPc hS hcA (c_X4_read hN h8 hz) gL_law_X4_read i_X4_read rfl ⟨Nat.le_of_ble_eq_true rfl, Nat.le_of_ble_eq_true rfl⟩ rfl hl.1 (As := [.int (xs (i + 1)), .int (xs (i + 2))]) (rest := []) rfl (Nat.le_of_ble_eq_true rfl) ⟨Nat.le_of_ble_eq_true rfl, Nat.le_of_ble_eq_true rfl⟩ dL_law_1201 (fun p1q t2q t3q t4q t5q H1 locs1 hPc hk hS => ?_)
  have hPm := keepM hds hPm hk
  refine lv_aload_n hx hb dL_law_1204 rfl (lv_at hl 3 rfl) ?_
  refine lv_aload_n hx hb dL_law_1205 rfl (lv_at hl 1 rfl) ?_
  refine lv_iload_n hx hb dL_law_1206 rfl (lv_at hl 0 rfl) ?_
  refine lv_iconst (v := nI 1) hx hb dL_law_1207 (by decide) ?_
  refine lvn_iadd hx hb dL_law_1208 ?_
  refine lq_sld hx hb hX hbl hbA hS (show i + 1 < L by omega) (by omega) dL_law_1209 ?_
  refine lv_aload_n hx hb dL_law_1210 rfl (lv_at hl 1 rfl) ?_
  refine lv_iload_n hx hb dL_law_1211 rfl (lv_at hl 0 rfl) ?_
  refine lv_iconst (v := nI 2) hx hb dL_law_1212 (by decide) ?_
  refine lvn_iadd hx hb dL_law_1213 ?_
  refine lq_sld hx hb hX hbl hbA hS (show i + 2 < L by omega) (by omega) dL_law_1214 ?_
  refine lq_M S hKm hPm hS hmA (c_X5_read hNs h8 hzs) gL_law_X5_read i_X5_read rfl ⟨Nat.le_of_ble_eq_true rfl, Nat.le_of_ble_eq_true rfl⟩ rfl hl.1 (As := [.int (xs (i + 1)), .int (xs (i + 2))]) rfl (Nat.le_of_ble_eq_true rfl) ⟨Nat.le_of_ble_eq_true rfl, Nat.le_of_ble_eq_true rfl⟩ dL_law_1215 (fun otq asdq frq ttq vlq wrq mvq H2 locs2 hPm hk hS => ?_)
  have hPc := keepC hds hPc hk
  have hs := sim_read hRel h8 hN hA hR (q := xs (i + 1)) (w := xs (i + 2))
  refine lv_icmp_eq (tgt := 1308) hx hb dL_law_1218 (by decide) (fun _ => kk _ _ ⟨_, _, _, _, _, _, _, _, _, _, _, _, _, _, _, _, _, _, _, _, _, _, _, _, _, _, _, _, _, _, hPc, hPm, hs.2⟩ hS) (fun q => absurd (Value.int.inj (Option.some.inj hs.1)) q)
set_option maxHeartbeats 1000000 in
set_option maxRecDepth 100000 in
theorem law_image {p : Program} {l : Launch} {e : Env} {s : State} {m : MethodId} {below : List Frame} {meth : Method} {c : Code} {b L : Nat} {xs : Nat → Int32} {D : va_G} {cy : Nat → ClassId} {ad am kq vq : Nat → Nat} {Q : State → Prop} {i : Nat} {H : Heap} {locs : List Loc} {ls : Array Slot} (hL : L ≤ 3072) (hi : i + 6 ≤ L) (C0 : lw_At p s m meth c b L xs) (hC : LCx D cy ad am kq vq s) (hS : va_S (fun q => s.heap.size ≤ q) s.heap H locs) (hl : lv_has ls 4 [(3, .int (nI i)), (0, .ref b), (1, .ref (ad 0)), (2, .ref (am 0))]) (hLS : LSt D cy ad am H) (kk : ∀ (H1 : Heap) (locs1 : List Loc), LSt D cy ad am H1 → va_S (fun q => s.heap.size ≤ q) s.heap H1 locs1 → W p l e room_1 s m #[Value.ref b] below meth c H1 locs1 54 1177 Q (F0 m 1308 ls [])) : W p l e room_1 s m #[Value.ref b] below meth c H locs 54 1177 Q (F0 m 1223 ls []) := by
  obtain ⟨hx, hb, hr, hml, hown, hts, hX, hbl, hlocks, hgv⟩ := id C0
  have hown : s.vm.findClass RL = some m.cls := hown
  have hbA : ¬ (fun q : Nat => s.heap.size ≤ q) b := Nat.not_le.mpr hbl
  have S : CallFix p m c cL_law 4 s #[Value.ref b] wsL_law RL := ⟨hx, hb, hml, hown, fun w h => hts w (wsL_law_in w h)⟩
  obtain ⟨hKc, hKm, hTg, hds, hcA, hmA⟩ := hC
  obtain ⟨p0, p1, p2, ke, tb, t1, t2, t3, t4, t5, sb, ss, sw, fd, sr, kS, ot, asd, stt, ik, tp, td, fr, tt, vl, wr, bo, so, nu, mv, hPc, hPm, hRel⟩ := hLS
  obtain ⟨N, h8, hN, hA, hR⟩ := hRel.1
  obtain ⟨N2, k8, kN, kk2⟩ := hRel.2.1
  obtain ⟨T, hT2, rfl, rfl⟩ := hRel.2.2.2.2.1
  have hNs : sr 0 = nI N := (hA 0 (by omega)).symm.trans hN
  have hz : ∀ t, t < 4 → ∃ z : Nat, z ≤ 40 ∧ ss t = nI z := fun t ht => (hRel.2.2.2.2.2.2.1 t ht).2.2
  have hzs : ∀ t, t < 4 → ∃ z : Nat, z ≤ 40 ∧ so t = nI z := fun t ht => by
    obtain ⟨-, e1, z, e2, e3⟩ := hRel.2.2.2.2.2.2.1 t ht
    exact ⟨z, e2, e1.symm.trans e3⟩
  refine lv_aload_n hx hb dL_law_1223 rfl (lv_at hl 2 rfl) ?_
  refine lq_C S hKc hPc hS hcA (c_X4_image hN h8) gL_law_X4_image i_X4_image rfl ⟨Nat.le_of_ble_eq_true rfl, Nat.le_of_ble_eq_true rfl⟩ rfl hl.1 (As := []) (rest := []) rfl (Nat.le_of_ble_eq_true rfl) ⟨Nat.le_of_ble_eq_true rfl, Nat.le_of_ble_eq_true rfl⟩ dL_law_1224 (fun p1q t2q t3q t4q t5q H1 locs1 hPc hk hS => ?_)
  have hPm := keepM hds hPm hk
  refine lv_aload_n hx hb dL_law_1227 rfl (lv_at hl 3 rfl) ?_
  refine lq_M S hKm hPm hS hmA (c_X5_image) gL_law_X5_image i_X5_image rfl ⟨Nat.le_of_ble_eq_true rfl, Nat.le_of_ble_eq_true rfl⟩ rfl hl.1 (As := []) rfl (Nat.le_of_ble_eq_true rfl) ⟨Nat.le_of_ble_eq_true rfl, Nat.le_of_ble_eq_true rfl⟩ dL_law_1228 (fun otq asdq frq ttq vlq wrq mvq H2 locs2 hPm hk hS => ?_)
  have hPc := keepC hds hPc hk
  have hs := sim_image hRel h8 hN hA hR 
  refine lv_icmp_eq (tgt := 1308) hx hb dL_law_1231 (by decide) (fun _ => kk _ _ ⟨_, _, _, _, _, _, _, _, _, _, _, _, _, _, _, _, _, _, _, _, _, _, _, _, _, _, _, _, _, _, hPc, hPm, hs.2⟩ hS) (fun q => absurd (Value.int.inj (Option.some.inj hs.1)) q)
set_option maxHeartbeats 1000000 in
set_option maxRecDepth 100000 in
theorem law_undo {p : Program} {l : Launch} {e : Env} {s : State} {m : MethodId} {below : List Frame} {meth : Method} {c : Code} {b L : Nat} {xs : Nat → Int32} {D : va_G} {cy : Nat → ClassId} {ad am kq vq : Nat → Nat} {Q : State → Prop} {i : Nat} {H : Heap} {locs : List Loc} {ls : Array Slot} (hL : L ≤ 3072) (hi : i + 6 ≤ L) (C0 : lw_At p s m meth c b L xs) (hC : LCx D cy ad am kq vq s) (hS : va_S (fun q => s.heap.size ≤ q) s.heap H locs) (hl : lv_has ls 4 [(3, .int (nI i)), (0, .ref b), (1, .ref (ad 0)), (2, .ref (am 0))]) (hLS : LSt D cy ad am H) (kk : ∀ (H1 : Heap) (locs1 : List Loc), LSt D cy ad am H1 → va_S (fun q => s.heap.size ≤ q) s.heap H1 locs1 → W p l e room_1 s m #[Value.ref b] below meth c H1 locs1 54 1177 Q (F0 m 1308 ls [])) : W p l e room_1 s m #[Value.ref b] below meth c H locs 54 1177 Q (F0 m 1236 ls []) := by
  obtain ⟨hx, hb, hr, hml, hown, hts, hX, hbl, hlocks, hgv⟩ := id C0
  have hown : s.vm.findClass RL = some m.cls := hown
  have hbA : ¬ (fun q : Nat => s.heap.size ≤ q) b := Nat.not_le.mpr hbl
  have S : CallFix p m c cL_law 4 s #[Value.ref b] wsL_law RL := ⟨hx, hb, hml, hown, fun w h => hts w (wsL_law_in w h)⟩
  obtain ⟨hKc, hKm, hTg, hds, hcA, hmA⟩ := hC
  obtain ⟨p0, p1, p2, ke, tb, t1, t2, t3, t4, t5, sb, ss, sw, fd, sr, kS, ot, asd, stt, ik, tp, td, fr, tt, vl, wr, bo, so, nu, mv, hPc, hPm, hRel⟩ := hLS
  obtain ⟨N, h8, hN, hA, hR⟩ := hRel.1
  obtain ⟨N2, k8, kN, kk2⟩ := hRel.2.1
  obtain ⟨T, hT2, rfl, rfl⟩ := hRel.2.2.2.2.1
  have hNs : sr 0 = nI N := (hA 0 (by omega)).symm.trans hN
  have hz : ∀ t, t < 4 → ∃ z : Nat, z ≤ 40 ∧ ss t = nI z := fun t ht => (hRel.2.2.2.2.2.2.1 t ht).2.2
  have hzs : ∀ t, t < 4 → ∃ z : Nat, z ≤ 40 ∧ so t = nI z := fun t ht => by
    obtain ⟨-, e1, z, e2, e3⟩ := hRel.2.2.2.2.2.2.1 t ht
    exact ⟨z, e2, e1.symm.trans e3⟩
  refine lv_aload_n hx hb dL_law_1236 rfl (lv_at hl 2 rfl) ?_
  refine lq_C S hKc hPc hS hcA (c_X4_undo kN k8) gL_law_X4_undo i_X4_undo rfl ⟨Nat.le_of_ble_eq_true rfl, Nat.le_of_ble_eq_true rfl⟩ rfl hl.1 (As := []) (rest := []) rfl (Nat.le_of_ble_eq_true rfl) ⟨Nat.le_of_ble_eq_true rfl, Nat.le_of_ble_eq_true rfl⟩ dL_law_1237 (fun p1q t2q t3q t4q t5q H1 locs1 hPc hk hS => ?_)
  have hPm := keepM hds hPm hk
  refine lv_aload_n hx hb dL_law_1240 rfl (lv_at hl 3 rfl) ?_
  refine lq_M S hKm hPm hS hmA (c_X5_undo) gL_law_X5_undo i_X5_undo rfl ⟨Nat.le_of_ble_eq_true rfl, Nat.le_of_ble_eq_true rfl⟩ rfl hl.1 (As := []) rfl (Nat.le_of_ble_eq_true rfl) ⟨Nat.le_of_ble_eq_true rfl, Nat.le_of_ble_eq_true rfl⟩ dL_law_1241 (fun otq asdq frq ttq vlq wrq mvq H2 locs2 hPm hk hS => ?_)
  have hPc := keepC hds hPc hk
  have hs := sim_undo hRel k8 kN kk2 
  refine lv_icmp_eq (tgt := 1308) hx hb dL_law_1244 (by decide) (fun _ => kk _ _ ⟨_, _, _, _, _, _, _, _, _, _, _, _, _, _, _, _, _, _, _, _, _, _, _, _, _, _, _, _, _, _, hPc, hPm, hs.2⟩ hS) (fun q => absurd (Value.int.inj (Option.some.inj hs.1)) q)
set_option maxHeartbeats 1000000 in
set_option maxRecDepth 100000 in
theorem law_tear {p : Program} {l : Launch} {e : Env} {s : State} {m : MethodId} {below : List Frame} {meth : Method} {c : Code} {b L : Nat} {xs : Nat → Int32} {D : va_G} {cy : Nat → ClassId} {ad am kq vq : Nat → Nat} {Q : State → Prop} {i : Nat} {H : Heap} {locs : List Loc} {ls : Array Slot} (hL : L ≤ 3072) (hi : i + 6 ≤ L) (C0 : lw_At p s m meth c b L xs) (hC : LCx D cy ad am kq vq s) (hS : va_S (fun q => s.heap.size ≤ q) s.heap H locs) (hl : lv_has ls 4 [(3, .int (nI i)), (0, .ref b), (1, .ref (ad 0)), (2, .ref (am 0))]) (hLS : LSt D cy ad am H) (kk : ∀ (H1 : Heap) (locs1 : List Loc), LSt D cy ad am H1 → va_S (fun q => s.heap.size ≤ q) s.heap H1 locs1 → W p l e room_1 s m #[Value.ref b] below meth c H1 locs1 54 1177 Q (F0 m 1308 ls [])) : W p l e room_1 s m #[Value.ref b] below meth c H locs 54 1177 Q (F0 m 1249 ls []) := by
  obtain ⟨hx, hb, hr, hml, hown, hts, hX, hbl, hlocks, hgv⟩ := id C0
  have hown : s.vm.findClass RL = some m.cls := hown
  have hbA : ¬ (fun q : Nat => s.heap.size ≤ q) b := Nat.not_le.mpr hbl
  have S : CallFix p m c cL_law 4 s #[Value.ref b] wsL_law RL := ⟨hx, hb, hml, hown, fun w h => hts w (wsL_law_in w h)⟩
  obtain ⟨hKc, hKm, hTg, hds, hcA, hmA⟩ := hC
  obtain ⟨p0, p1, p2, ke, tb, t1, t2, t3, t4, t5, sb, ss, sw, fd, sr, kS, ot, asd, stt, ik, tp, td, fr, tt, vl, wr, bo, so, nu, mv, hPc, hPm, hRel⟩ := hLS
  obtain ⟨N, h8, hN, hA, hR⟩ := hRel.1
  obtain ⟨N2, k8, kN, kk2⟩ := hRel.2.1
  obtain ⟨T, hT2, rfl, rfl⟩ := hRel.2.2.2.2.1
  have hNs : sr 0 = nI N := (hA 0 (by omega)).symm.trans hN
  have hz : ∀ t, t < 4 → ∃ z : Nat, z ≤ 40 ∧ ss t = nI z := fun t ht => (hRel.2.2.2.2.2.2.1 t ht).2.2
  have hzs : ∀ t, t < 4 → ∃ z : Nat, z ≤ 40 ∧ so t = nI z := fun t ht => by
    obtain ⟨-, e1, z, e2, e3⟩ := hRel.2.2.2.2.2.2.1 t ht
    exact ⟨z, e2, e1.symm.trans e3⟩
  refine lv_aload_n hx hb dL_law_1249 rfl (lv_at hl 2 rfl) ?_
  refine lq_C S hKc hPc hS hcA (c_X4_tear) gL_law_X4_tear i_X4_tear rfl ⟨Nat.le_of_ble_eq_true rfl, Nat.le_of_ble_eq_true rfl⟩ rfl hl.1 (As := []) (rest := []) rfl (Nat.le_of_ble_eq_true rfl) ⟨Nat.le_of_ble_eq_true rfl, Nat.le_of_ble_eq_true rfl⟩ dL_law_1250 (fun p1q t2q t3q t4q t5q H1 locs1 hPc hk hS => ?_)
  have hPm := keepM hds hPm hk
  refine lv_aload_n hx hb dL_law_1253 rfl (lv_at hl 3 rfl) ?_
  refine lq_M S hKm hPm hS hmA (c_X5_tear) gL_law_X5_tear i_X5_tear rfl ⟨Nat.le_of_ble_eq_true rfl, Nat.le_of_ble_eq_true rfl⟩ rfl hl.1 (As := []) rfl (Nat.le_of_ble_eq_true rfl) ⟨Nat.le_of_ble_eq_true rfl, Nat.le_of_ble_eq_true rfl⟩ dL_law_1254 (fun otq asdq frq ttq vlq wrq mvq H2 locs2 hPm hk hS => ?_)
  have hPc := keepC hds hPc hk
  have hs := sim_tear hRel h8 hN hA hR 
  refine lv_icmp_eq (tgt := 1308) hx hb dL_law_1257 (by decide) (fun _ => kk _ _ ⟨_, _, _, _, _, _, _, _, _, _, _, _, _, _, _, _, _, _, _, _, _, _, _, _, _, _, _, _, _, _, hPc, hPm, hs.2⟩ hS) (fun q => absurd (Value.int.inj (Option.some.inj hs.1)) q)
set_option maxHeartbeats 1000000 in
set_option maxRecDepth 100000 in
theorem law_count {p : Program} {l : Launch} {e : Env} {s : State} {m : MethodId} {below : List Frame} {meth : Method} {c : Code} {b L : Nat} {xs : Nat → Int32} {D : va_G} {cy : Nat → ClassId} {ad am kq vq : Nat → Nat} {Q : State → Prop} {i : Nat} {H : Heap} {locs : List Loc} {ls : Array Slot} (hL : L ≤ 3072) (hi : i + 6 ≤ L) (C0 : lw_At p s m meth c b L xs) (hC : LCx D cy ad am kq vq s) (hS : va_S (fun q => s.heap.size ≤ q) s.heap H locs) (hl : lv_has ls 4 [(3, .int (nI i)), (0, .ref b), (1, .ref (ad 0)), (2, .ref (am 0))]) (hLS : LSt D cy ad am H) (kk : ∀ (H1 : Heap) (locs1 : List Loc), LSt D cy ad am H1 → va_S (fun q => s.heap.size ≤ q) s.heap H1 locs1 → W p l e room_1 s m #[Value.ref b] below meth c H1 locs1 54 1177 Q (F0 m 1308 ls [])) : W p l e room_1 s m #[Value.ref b] below meth c H locs 54 1177 Q (F0 m 1262 ls []) := by
  obtain ⟨hx, hb, hr, hml, hown, hts, hX, hbl, hlocks, hgv⟩ := id C0
  have hown : s.vm.findClass RL = some m.cls := hown
  have hbA : ¬ (fun q : Nat => s.heap.size ≤ q) b := Nat.not_le.mpr hbl
  have S : CallFix p m c cL_law 4 s #[Value.ref b] wsL_law RL := ⟨hx, hb, hml, hown, fun w h => hts w (wsL_law_in w h)⟩
  obtain ⟨hKc, hKm, hTg, hds, hcA, hmA⟩ := hC
  obtain ⟨p0, p1, p2, ke, tb, t1, t2, t3, t4, t5, sb, ss, sw, fd, sr, kS, ot, asd, stt, ik, tp, td, fr, tt, vl, wr, bo, so, nu, mv, hPc, hPm, hRel⟩ := hLS
  obtain ⟨N, h8, hN, hA, hR⟩ := hRel.1
  obtain ⟨N2, k8, kN, kk2⟩ := hRel.2.1
  obtain ⟨T, hT2, rfl, rfl⟩ := hRel.2.2.2.2.1
  have hNs : sr 0 = nI N := (hA 0 (by omega)).symm.trans hN
  have hz : ∀ t, t < 4 → ∃ z : Nat, z ≤ 40 ∧ ss t = nI z := fun t ht => (hRel.2.2.2.2.2.2.1 t ht).2.2
  have hzs : ∀ t, t < 4 → ∃ z : Nat, z ≤ 40 ∧ so t = nI z := fun t ht => by
    obtain ⟨-, e1, z, e2, e3⟩ := hRel.2.2.2.2.2.2.1 t ht
    exact ⟨z, e2, e1.symm.trans e3⟩
  refine lv_aload_n hx hb dL_law_1262 rfl (lv_at hl 2 rfl) ?_
  refine lv_aload_n hx hb dL_law_1263 rfl (lv_at hl 1 rfl) ?_
  refine lv_iload_n hx hb dL_law_1264 rfl (lv_at hl 0 rfl) ?_
  refine lv_iconst (v := nI 1) hx hb dL_law_1265 (by decide) ?_
  refine lvn_iadd hx hb dL_law_1266 ?_
  refine lq_sld hx hb hX hbl hbA hS (show i + 1 < L by omega) (by omega) dL_law_1267 ?_
  refine lq_C S hKc hPc hS hcA (c_X4_count hN h8) gL_law_X4_count i_X4_count rfl ⟨Nat.le_of_ble_eq_true rfl, Nat.le_of_ble_eq_true rfl⟩ rfl hl.1 (As := [.int (xs (i + 1))]) (rest := []) rfl (Nat.le_of_ble_eq_true rfl) ⟨Nat.le_of_ble_eq_true rfl, Nat.le_of_ble_eq_true rfl⟩ dL_law_1268 (fun p1q t2q t3q t4q t5q H1 locs1 hPc hk hS => ?_)
  have hPm := keepM hds hPm hk
  refine lv_aload_n hx hb dL_law_1271 rfl (lv_at hl 3 rfl) ?_
  refine lv_aload_n hx hb dL_law_1272 rfl (lv_at hl 1 rfl) ?_
  refine lv_iload_n hx hb dL_law_1273 rfl (lv_at hl 0 rfl) ?_
  refine lv_iconst (v := nI 1) hx hb dL_law_1274 (by decide) ?_
  refine lvn_iadd hx hb dL_law_1275 ?_
  refine lq_sld hx hb hX hbl hbA hS (show i + 1 < L by omega) (by omega) dL_law_1276 ?_
  refine lq_M S hKm hPm hS hmA (c_X5_count hNs h8) gL_law_X5_count i_X5_count rfl ⟨Nat.le_of_ble_eq_true rfl, Nat.le_of_ble_eq_true rfl⟩ rfl hl.1 (As := [.int (xs (i + 1))]) rfl (Nat.le_of_ble_eq_true rfl) ⟨Nat.le_of_ble_eq_true rfl, Nat.le_of_ble_eq_true rfl⟩ dL_law_1277 (fun otq asdq frq ttq vlq wrq mvq H2 locs2 hPm hk hS => ?_)
  have hPc := keepC hds hPc hk
  have hs := sim_count hT2 hRel h8 hN hA hR (q := xs (i + 1))
  refine lv_icmp_eq (tgt := 1308) hx hb dL_law_1280 (by decide) (fun _ => kk _ _ ⟨_, _, _, _, _, _, _, _, _, _, _, _, _, _, _, _, _, _, _, _, _, _, _, _, _, _, _, _, _, _, hPc, hPm, hs.2⟩ hS) (fun q => absurd (Value.int.inj (Option.some.inj hs.1)) q)
set_option maxHeartbeats 1000000 in
set_option maxRecDepth 100000 in
theorem law_status {p : Program} {l : Launch} {e : Env} {s : State} {m : MethodId} {below : List Frame} {meth : Method} {c : Code} {b L : Nat} {xs : Nat → Int32} {D : va_G} {cy : Nat → ClassId} {ad am kq vq : Nat → Nat} {Q : State → Prop} {i : Nat} {H : Heap} {locs : List Loc} {ls : Array Slot} (hL : L ≤ 3072) (hi : i + 6 ≤ L) (C0 : lw_At p s m meth c b L xs) (hC : LCx D cy ad am kq vq s) (hS : va_S (fun q => s.heap.size ≤ q) s.heap H locs) (hl : lv_has ls 4 [(3, .int (nI i)), (0, .ref b), (1, .ref (ad 0)), (2, .ref (am 0))]) (hLS : LSt D cy ad am H) (kk : ∀ (H1 : Heap) (locs1 : List Loc), LSt D cy ad am H1 → va_S (fun q => s.heap.size ≤ q) s.heap H1 locs1 → W p l e room_1 s m #[Value.ref b] below meth c H1 locs1 54 1177 Q (F0 m 1308 ls [])) : W p l e room_1 s m #[Value.ref b] below meth c H locs 54 1177 Q (F0 m 1285 ls []) := by
  obtain ⟨hx, hb, hr, hml, hown, hts, hX, hbl, hlocks, hgv⟩ := id C0
  have hown : s.vm.findClass RL = some m.cls := hown
  have hbA : ¬ (fun q : Nat => s.heap.size ≤ q) b := Nat.not_le.mpr hbl
  have S : CallFix p m c cL_law 4 s #[Value.ref b] wsL_law RL := ⟨hx, hb, hml, hown, fun w h => hts w (wsL_law_in w h)⟩
  obtain ⟨hKc, hKm, hTg, hds, hcA, hmA⟩ := hC
  obtain ⟨p0, p1, p2, ke, tb, t1, t2, t3, t4, t5, sb, ss, sw, fd, sr, kS, ot, asd, stt, ik, tp, td, fr, tt, vl, wr, bo, so, nu, mv, hPc, hPm, hRel⟩ := hLS
  obtain ⟨N, h8, hN, hA, hR⟩ := hRel.1
  obtain ⟨N2, k8, kN, kk2⟩ := hRel.2.1
  obtain ⟨T, hT2, rfl, rfl⟩ := hRel.2.2.2.2.1
  have hNs : sr 0 = nI N := (hA 0 (by omega)).symm.trans hN
  have hz : ∀ t, t < 4 → ∃ z : Nat, z ≤ 40 ∧ ss t = nI z := fun t ht => (hRel.2.2.2.2.2.2.1 t ht).2.2
  have hzs : ∀ t, t < 4 → ∃ z : Nat, z ≤ 40 ∧ so t = nI z := fun t ht => by
    obtain ⟨-, e1, z, e2, e3⟩ := hRel.2.2.2.2.2.2.1 t ht
    exact ⟨z, e2, e1.symm.trans e3⟩
  refine lv_aload_n hx hb dL_law_1285 rfl (lv_at hl 2 rfl) ?_
  refine lv_aload_n hx hb dL_law_1286 rfl (lv_at hl 1 rfl) ?_
  refine lv_iload_n hx hb dL_law_1287 rfl (lv_at hl 0 rfl) ?_
  refine lv_iconst (v := nI 1) hx hb dL_law_1288 (by decide) ?_
  refine lvn_iadd hx hb dL_law_1289 ?_
  refine lq_sld hx hb hX hbl hbA hS (show i + 1 < L by omega) (by omega) dL_law_1290 ?_
  refine lq_C S hKc hPc hS hcA (c_X4_status) gL_law_X4_status i_X4_status rfl ⟨Nat.le_of_ble_eq_true rfl, Nat.le_of_ble_eq_true rfl⟩ rfl hl.1 (As := [.int (xs (i + 1))]) (rest := []) rfl (Nat.le_of_ble_eq_true rfl) ⟨Nat.le_of_ble_eq_true rfl, Nat.le_of_ble_eq_true rfl⟩ dL_law_1291 (fun p1q t2q t3q t4q t5q H1 locs1 hPc hk hS => ?_)
  have hPm := keepM hds hPm hk
  refine lv_aload_n hx hb dL_law_1294 rfl (lv_at hl 3 rfl) ?_
  refine lv_aload_n hx hb dL_law_1295 rfl (lv_at hl 1 rfl) ?_
  refine lv_iload_n hx hb dL_law_1296 rfl (lv_at hl 0 rfl) ?_
  refine lv_iconst (v := nI 1) hx hb dL_law_1297 (by decide) ?_
  refine lvn_iadd hx hb dL_law_1298 ?_
  refine lq_sld hx hb hX hbl hbA hS (show i + 1 < L by omega) (by omega) dL_law_1299 ?_
  refine lq_M S hKm hPm hS hmA (c_X5_status) gL_law_X5_status i_X5_status rfl ⟨Nat.le_of_ble_eq_true rfl, Nat.le_of_ble_eq_true rfl⟩ rfl hl.1 (As := [.int (xs (i + 1))]) rfl (Nat.le_of_ble_eq_true rfl) ⟨Nat.le_of_ble_eq_true rfl, Nat.le_of_ble_eq_true rfl⟩ dL_law_1300 (fun otq asdq frq ttq vlq wrq mvq H2 locs2 hPm hk hS => ?_)
  have hPc := keepC hds hPc hk
  have hs := sim_status hRel h8 hN hA hR (q := xs (i + 1))
  refine lv_icmp_eq (tgt := 1308) hx hb dL_law_1303 (by decide) (fun _ => kk _ _ ⟨_, _, _, _, _, _, _, _, _, _, _, _, _, _, _, _, _, _, _, _, _, _, _, _, _, _, _, _, _, _, hPc, hPm, hs.2⟩ hS) (fun q => absurd (Value.int.inj (Option.some.inj hs.1)) q)
