/-! the law from its entry -/
theorem rng_map {W : va_W} {x : Nat × va_E} {n : Nat} (h : W.length = n) : (List.range n).map (fun i => (W ++ [x])[i]?) = W.map some := by
  apply List.ext_getElem?
  intro k
  rw [List.getElem?_map, List.getElem?_map]
  by_cases hk : k < n
  · rw [List.getElem?_range hk]
    show some ((W ++ [x])[k]?) = (W[k]?).map some
    rw [List.getElem?_append_left (by omega), List.getElem?_eq_getElem (by omega)]
    rfl
  · rw [List.getElem?_eq_none (by simp; omega), List.getElem?_eq_none (l := W) (by omega)]
    rfl
theorem at_last {W : va_W} {x : Nat × va_E} {n : Nat} (h : W.length = n) : (W ++ [x])[n]? = some x := by
  rw [List.getElem?_append_right (by omega), h, Nat.sub_self]
  rfl
theorem va_P_l {D : va_G} {w1 w2 : va_W} {H : Heap} (h : va_P D vwCl (w1 ++ w2) H) : va_P D vwCl w1 H := fun k q hk => h k q (by rw [List.getElem?_append_left (List.getElem?_eq_some_iff.mp hk).1]; exact hk)
theorem va_P_r {D : va_G} {w1 w2 : va_W} {H : Heap} (h : va_P D vwCl (w1 ++ w2) H) : va_P D vwCl w2 H := fun k q hk => h (w1.length + k) q (by rw [List.getElem?_append_right (by omega), Nat.add_sub_cancel_left]; exact hk)
theorem mw_at {cy : Nat → ClassId} {ad : Nat → Nat} {sr kS ot asd stt : Nat → Int32} {ik : Int32} {tp : Nat → Int32} {td fr tt vl wr : Int32} {bo so : Nat → Int32} {nu mv : Nat → Int64} : ∀ j, j < 11 → ∃ e, (mw cy ad sr kS ot asd stt ik tp td fr tt vl wr bo so nu mv)[j]? = some (ad j, e)
  | 0, _ => ⟨_, rfl⟩
  | 1, _ => ⟨_, rfl⟩
  | 2, _ => ⟨_, rfl⟩
  | 3, _ => ⟨_, rfl⟩
  | 4, _ => ⟨_, rfl⟩
  | 5, _ => ⟨_, rfl⟩
  | 6, _ => ⟨_, rfl⟩
  | 7, _ => ⟨_, rfl⟩
  | 8, _ => ⟨_, rfl⟩
  | 9, _ => ⟨_, rfl⟩
  | 10, _ => ⟨_, rfl⟩
  | j + 11, h => absurd h (by omega)
theorem oX4_len {cy : Nat → ClassId} {h0 : Nat} {q : Nat → Nat} : (oX4 cy h0 q).length = 43 := by simp [oX4, cw]
theorem lawX {D : va_G} {cy : Nat → ClassId} {s : State} {q0 q1 : Nat} {qc qm kq vq : Nat → Nat} (hK : nK D cy s) (hT : tG (fun q => s.heap.size ≤ q) kq vq s) (hD : va_D (fun q : Nat => s.heap.size ≤ q) (oX4 cy q0 qc ++ oX5 cy q1 qm)) : LCx D cy (adq q0 qc) (adq q1 qm) kq vq s := by
  have hc : ∀ i, i < 43 → ∃ e, (oX4 cy q0 qc ++ oX5 cy q1 qm)[i]? = some (adq q0 qc i, e) := fun i hi => by
    rw [List.getElem?_append_left (by rw [oX4_len]; exact hi)]
    exact ⟨_, c_at hi⟩
  have hm : ∀ j, j < 11 → ∃ e, (oX4 cy q0 qc ++ oX5 cy q1 qm)[43 + j]? = some (adq q1 qm j, e) := fun j hj => by
    rw [List.getElem?_append_right (by rw [oX4_len]; omega), oX4_len, Nat.add_sub_cancel_left]
    exact mw_at j hj
  refine ⟨⟨hK.1, fun i j hi hj h => ?_, hK.2.1⟩, ⟨hK.1.sub [0, 1] rfl, fun i j hi hj h => ?_⟩, hT, fun i j hi hj h => ?_, ?_, ?_⟩
  · obtain ⟨e1, h1⟩ := hc i hi
    obtain ⟨e2, h2⟩ := hc j hj
    exact hD.1 i j _ _ h1 h2 h
  · obtain ⟨e1, h1⟩ := hm i hi
    obtain ⟨e2, h2⟩ := hm j hj
    have := hD.1 _ _ _ _ h1 h2 h
    omega
  · obtain ⟨e1, h1⟩ := hc i hi
    obtain ⟨e2, h2⟩ := hm j hj
    have := hD.1 _ _ _ _ h1 h2 h
    omega
  · rintro q ⟨k, hk, rfl⟩
    obtain ⟨e1, h1⟩ := hc k hk
    exact hD.2 _ _ h1
  · rintro q ⟨k, hk, rfl⟩
    obtain ⟨e1, h1⟩ := hm k hk
    exact hD.2 _ _ h1
theorem rel_0 : Rel iRow iRow (nI 0) (fun _ => 0) (nI 0) (fun _ => nI 0) (fun _ => nI 0) (fun _ _ => 0) (fun _ => 0) iMod (fun _ => 0) (fun _ => 0) 0 (fun _ => 0) 0 (fun _ => 0) (fun _ => 0) (fun _ => 0) := by
  refine ⟨⟨0, by omega, rfl, fun k hk => ?_, ⟨1000, by omega, rfl⟩, ⟨1, by omega, rfl⟩, ⟨0, by omega, rfl⟩, fun i hi => absurd hi (Nat.not_lt_zero i)⟩, ⟨0, by omega, rfl, fun q => absurd nI_0 q⟩, nI_0, fun _ _ => rfl, ⟨0, by omega, rfl, rfl⟩, ?_, fun _ _ => ⟨nI_0, nI_0, 0, by omega, rfl⟩, fun _ _ _ _ => rfl⟩
  · rcases (show k = 0 ∨ k = 1 ∨ k = 2 ∨ k = 3 ∨ k = 4 by omega) with rfl | rfl | rfl | rfl | rfl <;> rfl
  · funext k
    show (0 : Int32) = 0 &&& nI 255
    decide
theorem ls_0 {D : va_G} {cy : Nat → ClassId} {q0 q1 : Nat} {qc qm : Nat → Nat} {H : Heap} (hP : va_P D vwCl (oX4 cy q0 qc ++ oX5 cy q1 qm) H) : LSt D cy (adq q0 qc) (adq q1 qm) H :=
  ⟨_, _, _, _, _, _, _, _, _, _, _, _, _, _, _, _, _, _, _, _, _, _, _, _, _, _, _, _, _, _, va_P_l hP, va_P_r hP, rel_0⟩
set_option maxHeartbeats 1000000 in
set_option maxRecDepth 100000 in
theorem whole_start {p : Program} {e : Env} {s : State} {m : MethodId} {below : List Frame} {meth : Method} {c : Code} (l : Launch) {b L : Nat} {xs : Nat → Int32} (hL : L ≤ 3072) (C0 : lw_At p s m meth c b L xs) : W p l e room_1 s m #[Value.ref b] below meth c s.heap [] 0 0 (lw_Z below #[Value.ref b] s) (entryFrame m ([Value.ref b] : List Value).toArray 4) := by
  obtain ⟨hx, hb, hr, hml, hown, hts, hX, hbl, hlocks, hgv⟩ := id C0
  have hown : s.vm.findClass RL = some m.cls := hown
  have S : CallFix p m c cL_law 4 s #[Value.ref b] wsL_law RL := ⟨hx, hb, hml, hown, fun w h => hts w (wsL_law_in w h)⟩
  have hA : ∀ q : Nat, s.heap.size ≤ q → (fun q : Nat => s.heap.size ≤ q) q := fun _ h => h
  obtain ⟨D, cy, hK⟩ := law_K hts
  obtain ⟨kq, vq, hT⟩ := law_T hts hgv
  have hS : va_S (fun q : Nat => s.heap.size ≤ q) s.heap s.heap [] := va_S.rf
  have hP : va_P D vwCl [] s.heap := fun k q h => by simp at h
  have hD : va_D (fun q : Nat => s.heap.size ≤ q) [] := ⟨fun i j p q h => by simp at h, fun k q h => by simp at h⟩
  have hl := lv_entry ([.ref b]) (n := 4) (Nat.le_of_ble_eq_true rfl)
  rw [lg_entry_eq]
  generalize (lg_sl ([.ref b]) ++ List.replicate (4 - (lg_sl ([.ref b])).length) Slot.unset).toArray = ls at hl ⊢
  have hl : lv_has ls 4 [(0, .ref b)] := hl
  refine va_new (ci := 4) (fs := [.null, .null, .null, .int 0, .null, .null, .null]) (C := RX4) (T := TX4) (N := 7) hx hb hts inX4 tyX4 tyX4_ok hown (hts (.classLink RL 7 RX4) (wsL_in_1 _ (by decide +kernel))) (hts (.instantiable RX4 7) (wsL_in_1 _ (by decide +kernel))) (hts (.initialized RX4) (wsL_in_1 _ (by decide +kernel))) hK.1 hP hD hS hA rfl (fun j hj => by rcases (show j = 0 ∨ j = 1 ∨ j = 2 ∨ j = 3 ∨ j = 4 ∨ j = 5 ∨ j = 6 by omega) with rfl | rfl | rfl | rfl | rfl | rfl | rfl <;> rfl) (Nat.le_of_ble_eq_true rfl) (Nat.le_of_ble_eq_true rfl) dL_law_0 (fun q0 H hP hD hS => ?_)
  have hP : va_P D vwCl [(q0, .inr (4, [.null, .null, .null, .int 0, .null, .null, .null]))] H := hP
  have hD : va_D (fun q : Nat => s.heap.size ≤ q) [(q0, .inr (4, [.null, .null, .null, .int 0, .null, .null, .null]))] := hD
  refine W.widen (k := 1) (n := 7) (by omega) (by omega) ?_
  refine lv_dup hx hb dL_law_3 rfl ?_
  refine nq_I (wr := []) (wOut := oX4 cy q0) S hK hP hD hS hA 0 [] rfl rfl (by decide) (by decide) (c_X4_init (h0 := q0)) gL_law_X4_init i_X4_init rfl (hts (.initialized RX4) (wsL_in_1 _ (by decide +kernel))) (hts (.methodLink RL 9 yX4_init) (wsL_in_1 _ (by decide +kernel))) (hts (.instanceMethod yX4_init) (wsL_in_1 _ (by decide +kernel))) ⟨Nat.le_of_ble_eq_true rfl, Nat.le_of_ble_eq_true rfl⟩ hl.1 (Nat.le_of_ble_eq_true rfl) ⟨Nat.le_of_ble_eq_true rfl, Nat.le_of_ble_eq_true rfl⟩ dL_law_4 (fun qc H locs hP hD hS => ?_)
  rw [List.nil_append] at hP hD
  refine W.widen (k := 43) (n := 550) (by omega) (by omega) ?_
  refine lv_astore_n (lv' := [(1, .ref q0), (0, .ref b)]) hx hb dL_law_7 rfl hl (by decide) rfl (fun ls hl => ?_)
  refine va_new (ci := 5) (fs := [.null, .null, .null, .null, .null, .int 0, .null, .int 0, .int 0, .int 0, .int 0, .int 0, .null, .null, .null, .null]) (C := RX5) (T := TX5) (N := 16) hx hb hts inX5 tyX5 tyX5_ok hown (hts (.classLink RL 10 RX5) (wsL_in_1 _ (by decide +kernel))) (hts (.instantiable RX5 16) (wsL_in_1 _ (by decide +kernel))) (hts (.initialized RX5) (wsL_in_1 _ (by decide +kernel))) hK.1 hP hD hS hA rfl (fun j hj => by rcases (show j = 0 ∨ j = 1 ∨ j = 2 ∨ j = 3 ∨ j = 4 ∨ j = 5 ∨ j = 6 ∨ j = 7 ∨ j = 8 ∨ j = 9 ∨ j = 10 ∨ j = 11 ∨ j = 12 ∨ j = 13 ∨ j = 14 ∨ j = 15 by omega) with rfl | rfl | rfl | rfl | rfl | rfl | rfl | rfl | rfl | rfl | rfl | rfl | rfl | rfl | rfl | rfl <;> rfl) (Nat.le_of_ble_eq_true rfl) (Nat.le_of_ble_eq_true rfl) dL_law_8 (fun q1 H hP hD hS => ?_)
  refine W.widen (k := 44) (n := 566) (by omega) (by omega) ?_
  refine lv_dup hx hb dL_law_11 rfl ?_
  refine nq_I (wr := oX4 cy q0 qc) (wOut := oX5 cy q1) S hK hP hD hS hA 43 (List.range 43) (at_last oX4_len) (rng_map oX4_len) (by decide) (by decide) (c_X5_init (h0 := q1)) gL_law_X5_init i_X5_init rfl (hts (.initialized RX5) (wsL_in_1 _ (by decide +kernel))) (hts (.methodLink RL 12 yX5_init) (wsL_in_3 _ (by decide +kernel))) (hts (.instanceMethod yX5_init) (wsL_in_3 _ (by decide +kernel))) ⟨Nat.le_of_ble_eq_true rfl, Nat.le_of_ble_eq_true rfl⟩ hl.1 (Nat.le_of_ble_eq_true rfl) ⟨Nat.le_of_ble_eq_true rfl, Nat.le_of_ble_eq_true rfl⟩ dL_law_12 (fun qm H locs hP hD hS => ?_)
  refine W.widen (k := 54) (n := 1177) (by omega) (by omega) ?_
  refine lv_astore_n (lv' := [(2, .ref q1), (1, .ref q0), (0, .ref b)]) hx hb dL_law_15 rfl hl (by decide) rfl (fun ls hl => ?_)
  refine lv_iconst (v := nI 0) hx hb dL_law_16 (by decide) ?_
  refine lv_istore_n (lv' := [(3, .int (nI 0)), (2, .ref q1), (1, .ref q0), (0, .ref b)]) hx hb dL_law_17 rfl hl (by decide) rfl (fun ls hl => ?_)
  exact law_loop hL C0 (lawX hK hT hD) (L + 1) 0 (Nat.zero_le L) (by omega) H locs ls (ls_0 hP) hS (lv_sub hl [0, 3, 2, 1] rfl)
