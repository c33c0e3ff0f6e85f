/-! the law: its rows -/
section LQ
variable {p : Program} {l : Launch} {e : Env} {R : Room} {s : State} {m : MethodId} {args : Array Value} {below : List Frame} {meth : Method} {c : Code} {H : Heap} {locs : List Loc} {cells slots : Nat} {Q : State → Prop}
variable {cc bytes : ByteArray} {nL maxL index n f lo pc : Nat} {Ts ws : List Cond} {own : String} {y : MethodName} {ret : Option FieldType} {As rest st0 : List Value} {rvv : Value} {ls : Array Slot} {D : va_G} {A : Nat → Prop} {kq vq : Nat → Nat} {cy : Nat → ClassId} {ad am : Nat → Nat}
theorem lq_sld (hx : p.tables.exec = Jvm.exec) (hb : c.code = cc) {b L : Nat} {xs : Nat → Int32} (hX : va_X b L xs s s.heap) (hbl : b < s.heap.size) (hbA : ¬ A b) (hS : va_S A s.heap H locs) {j : Nat} (hj : j < L) (hL : L < 2 ^ 31) (hdg : decode cc pc = .ok (.iaload, 1))
    (kk : W p l e R s m args below meth c H locs cells slots Q (F0 m (pc + 1) ls (.int (xs j) :: rest))) : W p l e R s m args below meth c H locs cells slots Q (F0 m pc ls (.int (nI j) :: .ref b :: rest)) :=
  va_sld hx hb hX hbl hbA hS (vp_in_nI hj hL) hdg (by rw [nI_clamp (by omega)]; exact kk)
section CC
variable {p0 p1 p2 p0' p2' : Nat → Int32} {ke ke' : Int32} {tb tb' : Nat → Int32} {t1 t2 t3 t4 t5 t1' : Int32} {sb ss sb' ss' : Nat → Int32} {sw sw' : Nat → Nat → Int64} {fd fd' : Nat → Int32}
theorem lq_run {A1 : Nat → Prop} {B : Heap → Prop} {b : Nat} {Qa : State → Outcome → State → Prop} (hr : va_Run p l e R s m args below meth c H locs cells slots 0 0 (F0 m pc ls st0) rest Qa A1) (hQ : ∀ st oc t, Qa st oc t → oc = .returned (some rvv) ∧ B t.heap ∧ va_F A1 st t) (hA1 : ∀ q, A1 q → A q) (hS : va_S A s.heap H locs)
    (kk : ∀ (H1 : Heap) (locs1 : List Loc), B H1 → (∀ q : Nat, q < H.size → ¬ A1 q → H1[q]? = H[q]?) → va_S A s.heap H1 locs1 → W p l e R s m args below meth c H1 locs1 cells slots Q (F0 m (pc + 3) ls (rvv :: rest))) : W p l e R s m args below meth c H locs cells slots Q (F0 m pc ls st0) := by
  intro T hT X
  obtain ⟨v, st₀, t, T', L, h0, X', hL, e1, e2, hq, st⟩ := hr T hT X
  obtain ⟨hv, hB, hz, hk⟩ := hQ _ _ _ hq
  cases hv
  rw [h0] at hz hk
  obtain ⟨t2, a1, b1⟩ := kk T'.heap (locs ++ L) (by rw [e1]; exact hB) (fun q h1 h2 => by rw [e1]; exact hk q h1 h2)
    ⟨Nat.le_trans hS.1 (by rw [e1]; exact hz), fun q h1 h2 => by rw [e1, hk q (Nat.lt_of_lt_of_le h1 hS.1) (fun w => h2 (hA1 q w))]; exact hS.2.1 q h1 h2, fun q hq => by
      rcases List.mem_append.mp hq with h | h
      · exact hS.2.2 q h
      · exact hA1 _ (hL q h)⟩ T' rfl X'
  exact ⟨t2, st t2 a1, b1⟩
theorem lq_C (S : CallFix p m c cc nL s args Ts own) (hK : cK D cy ad s) (hP : va_P D vwCl (cw cy ad (rr p0 p1 p2) ke tb t1 t2 t3 t4 t5 sb ss sw fd) H) (hS : va_S A s.heap H locs) (hcA : ∀ q, cA ad q → A q) (hM : Met l y ws (rmz f lo) (wPre D (cK D cy ad) (cw cy ad (rr p0 p1 p2) ke tb t1 t2 t3 t4 t5 sb ss sw fd) (.ref (ad 0) :: As)) (cPub D cy ad (some rvv) p0' p2' ke' tb' t1' sb' ss' sw' fd') 0 0 (cA ad)) (hG : GoodIn Ts (wsV own index RX4 y ws)) (hc : ciOk y bytes maxL ret ws n) (hy : y.cls = RX4)
    (hR : f + 1 ≤ R.frames ∧ 8 + (maxL + 11) + lo ≤ R.locals) (hn : As.length = n) (hsz : ls.size = nL) (hst : st0 = As.reverse ++ .ref (ad 0) :: rest) (hcat : (rest.map fun v => v.category).sum ≤ 8) (hf : cells ≤ R.cells ∧ slots ≤ R.slots) (hdg : decode cc pc = .ok (.invokevirtual index, 3))
    (kk : ∀ (p1 : Nat → Int32) (t2 t3 t4 t5 : Int32) (H1 : Heap) (locs1 : List Loc), va_P D vwCl (cw cy ad (rr p0' p1 p2') ke' tb' t1' t2 t3 t4 t5 sb' ss' sw' fd') H1 → (∀ q : Nat, q < H.size → ¬ cA ad q → H1[q]? = H[q]?) → va_S A s.heap H1 locs1 → W p l e R s m args below meth c H1 locs1 cells slots Q (F0 m (pc + 3) ls (rvv :: rest))) : W p l e R s m args below meth c H locs cells slots Q (F0 m pc ls st0) := by
  obtain ⟨⟨ws', hw⟩, hd⟩ := hc
  refine lq_run (b := 0) (B := fun h => ∃ (p1 : Nat → Int32) (t2 t3 t4 t5 : Int32), va_P D vwCl (cw cy ad (rr p0' p1 p2') ke' tb' t1' t2 t3 t4 t5 sb' ss' sw' fd') h) (va_runV S hM (cwV n S.2.2.2.2 hG hw rfl rfl ⟨hy, hd⟩ hR) ⟨wPre_blind cK_ok, c_rec hK hP 0 (by decide) cE_0 rfl, fun U hU hW => ⟨rfl, by rw [hU]; exact hP, cK_ok.1 s U hW hK⟩⟩ (g := F0 m pc ls st0) rfl hn hsz hst (lv_room hcat) hdg hf) (fun st oc t h => h) hcA hS ?_
  intro H1 locs1 ⟨p1, t2, t3, t4, t5, h⟩ h2 h3
  exact kk p1 t2 t3 t4 t5 H1 locs1 h h2 h3
theorem lq_CT (S : CallFix p m c cc nL s args Ts own) (hK : cK D cy ad s) (hT : tG A kq vq s) (hP : va_P D vwCl (cw cy ad (rr p0 p1 p2) ke tb t1 t2 t3 t4 t5 sb ss sw fd) H) (hS : va_S A s.heap H locs) (hcA : ∀ q, cA ad q → A q) (hM : Met l y ws (rmz f lo) (tPre D cy ad kq vq (cw cy ad (rr p0 p1 p2) ke tb t1 t2 t3 t4 t5 sb ss sw fd) (.ref (ad 0) :: As)) (cPub D cy ad (some rvv) p0' p2' ke' tb' t1' sb' ss' sw' fd') 0 0 (cA ad)) (hG : GoodIn Ts (wsV own index RX4 y ws)) (hc : ciOk y bytes maxL ret ws n) (hy : y.cls = RX4)
    (hR : f + 1 ≤ R.frames ∧ 8 + (maxL + 11) + lo ≤ R.locals) (hn : As.length = n) (hsz : ls.size = nL) (hst : st0 = As.reverse ++ .ref (ad 0) :: rest) (hcat : (rest.map fun v => v.category).sum ≤ 8) (hf : cells ≤ R.cells ∧ slots ≤ R.slots) (hdg : decode cc pc = .ok (.invokevirtual index, 3))
    (kk : ∀ (p1 : Nat → Int32) (t2 t3 t4 t5 : Int32) (H1 : Heap) (locs1 : List Loc), va_P D vwCl (cw cy ad (rr p0' p1 p2') ke' tb' t1' t2 t3 t4 t5 sb' ss' sw' fd') H1 → (∀ q : Nat, q < H.size → ¬ cA ad q → H1[q]? = H[q]?) → va_S A s.heap H1 locs1 → W p l e R s m args below meth c H1 locs1 cells slots Q (F0 m (pc + 3) ls (rvv :: rest))) : W p l e R s m args below meth c H locs cells slots Q (F0 m pc ls st0) := by
  obtain ⟨⟨ws', hw⟩, hd⟩ := hc
  refine lq_run (b := 0) (B := fun h => ∃ (p1 : Nat → Int32) (t2 t3 t4 t5 : Int32), va_P D vwCl (cw cy ad (rr p0' p1 p2') ke' tb' t1' t2 t3 t4 t5 sb' ss' sw' fd') h) (va_runV S hM (cwV n S.2.2.2.2 hG hw rfl rfl ⟨hy, hd⟩ hR) ⟨tPre_blind, c_rec hK hP 0 (by decide) cE_0 rfl, fun U hU hW => ⟨rfl, by rw [hU]; exact hP, cK_ok.1 s U hW hK, ?_⟩⟩ (g := F0 m pc ls st0) rfl hn hsz hst (lv_room hcat) hdg hf) (fun st oc t h => h) hcA hS ?_
  · have h1 := tG_go (U := U) hW (by rw [hU]; exact hS) hT
    exact ⟨h1.1.narrow hcA, h1.2.1.narrow hcA, h1.2.2.1.narrow hcA, h1.2.2.2⟩
  · intro H1 locs1 ⟨p1, t2, t3, t4, t5, h⟩ h2 h3
    exact kk p1 t2 t3 t4 t5 H1 locs1 h h2 h3
end CC
section MM
variable {sr kS ot asd stt sr' kS' stt' : Nat → Int32} {ik ik' : Int32} {tp tp' : Nat → Int32} {td fr tt vl wr td' : Int32} {bo so bo' so' : Nat → Int32} {nu mv nu' : Nat → Int64}
theorem lq_M (S : CallFix p m c cc nL s args Ts own) (hK : mK D cy am s) (hP : va_P D vwCl (mw cy am sr kS ot asd stt ik tp td fr tt vl wr bo so nu mv) H) (hS : va_S A s.heap H locs) (hmA : ∀ q, mA am q → A q) (hM : Met l y ws (rmz f lo) (wPre D (mK D cy am) (mw cy am sr kS ot asd stt ik tp td fr tt vl wr bo so nu mv) (.ref (am 0) :: As)) (mPub D cy am (some rvv) sr' kS' stt' ik' tp' td' bo' so' nu') 0 0 (mA am)) (hG : GoodIn Ts (wsV own index RX5 y ws)) (hc : ciOk y bytes maxL ret ws n) (hy : y.cls = RX5)
    (hR : f + 1 ≤ R.frames ∧ 8 + (maxL + 11) + lo ≤ R.locals) (hn : As.length = n) (hsz : ls.size = nL) (hst : st0 = As.reverse ++ .ref (am 0) :: rest) (hcat : (rest.map fun v => v.category).sum ≤ 8) (hf : cells ≤ R.cells ∧ slots ≤ R.slots) (hdg : decode cc pc = .ok (.invokevirtual index, 3))
    (kk : ∀ (ot asd : Nat → Int32) (fr tt vl wr : Int32) (mv : Nat → Int64) (H1 : Heap) (locs1 : List Loc), va_P D vwCl (mw cy am sr' kS' ot asd stt' ik' tp' td' fr tt vl wr bo' so' nu' mv) H1 → (∀ q : Nat, q < H.size → ¬ mA am q → H1[q]? = H[q]?) → va_S A s.heap H1 locs1 → W p l e R s m args below meth c H1 locs1 cells slots Q (F0 m (pc + 3) ls (rvv :: rest))) : W p l e R s m args below meth c H locs cells slots Q (F0 m pc ls st0) := by
  obtain ⟨⟨ws', hw⟩, hd⟩ := hc
  refine lq_run (b := 0) (B := fun h => ∃ (ot asd : Nat → Int32) (fr tt vl wr : Int32) (mv : Nat → Int64), va_P D vwCl (mw cy am sr' kS' ot asd stt' ik' tp' td' fr tt vl wr bo' so' nu' mv) h) (va_runV S hM (cwV n S.2.2.2.2 hG hw rfl rfl ⟨hy, hd⟩ hR) ⟨wPre_blind mK_ok, m_rec hK hP, fun U hU hW => ⟨rfl, by rw [hU]; exact hP, mK_ok.1 s U hW hK⟩⟩ (g := F0 m pc ls st0) rfl hn hsz hst (lv_room hcat) hdg hf) (fun st oc t h => h) hmA hS ?_
  intro H1 locs1 ⟨ot, asd, fr, tt, vl, wr, mv, h⟩ h2 h3
  exact kk ot asd fr tt vl wr mv H1 locs1 h h2 h3
end MM
end LQ
section KEEP
variable {D : va_G} {cy : Nat → ClassId} {ad am : Nat → Nat} {H H1 : Heap} {rd : Nat → Nat → Int32} {ke : Int32} {tb : Nat → Int32} {t1 t2 t3 t4 t5 : Int32} {sb ss : Nat → Int32} {sw : Nat → Nat → Int64} {fd : Nat → Int32} {sr kS ot asd stt : Nat → Int32} {ik : Int32} {tp : Nat → Int32} {td fr tt vl wr : Int32} {bo so : Nat → Int32} {nu mv : Nat → Int64}
theorem keepM (hd : ∀ i j, i < 43 → j < 11 → ad i ≠ am j) (hP : va_P D vwCl (mw cy am sr kS ot asd stt ik tp td fr tt vl wr bo so nu mv) H) (hk : ∀ q : Nat, q < H.size → ¬ cA ad q → H1[q]? = H[q]?) : va_P D vwCl (mw cy am sr kS ot asd stt ik tp td fr tt vl wr bo so nu mv) H1 := by
  refine hP.kept (fun k q hq => hk q.1 ((hP k q hq).lt) ?_)
  obtain ⟨h1, h2⟩ := m_at hq
  rintro ⟨i, hi, e⟩
  exact hd i k hi h1 (by rw [← e, h2])
theorem keepC (hd : ∀ i j, i < 43 → j < 11 → ad i ≠ am j) (hP : va_P D vwCl (cw cy ad rd ke tb t1 t2 t3 t4 t5 sb ss sw fd) H) (hk : ∀ q : Nat, q < H.size → ¬ mA am q → H1[q]? = H[q]?) : va_P D vwCl (cw cy ad rd ke tb t1 t2 t3 t4 t5 sb ss sw fd) H1 := by
  refine hP.kept (fun k q hq => hk q.1 ((hP k q hq).lt) ?_)
  obtain ⟨h1, h2⟩ := c_at' hq
  rintro ⟨i, hi, e⟩
  exact hd k i h1 hi (by rw [← h2, e])
end KEEP
/-- both stand in the heap, alike -/
def LSt (D : va_G) (cy : Nat → ClassId) (ad am : Nat → Nat) (H : Heap) : Prop := ∃ (p0 p1 p2 : Nat → Int32) (ke : Int32) (tb : Nat → Int32) (t1 t2 t3 t4 t5 : Int32) (sb ss : Nat → Int32) (sw : Nat → Nat → Int64) (fd : Nat → Int32) (sr kS ot asd stt : Nat → Int32) (ik : Int32) (tp : Nat → Int32) (td fr tt vl wr : Int32) (bo so : Nat → Int32) (nu mv : Nat → Int64), va_P D vwCl (cw cy ad (rr p0 p1 p2) ke tb t1 t2 t3 t4 t5 sb ss sw fd) H ∧ va_P D vwCl (mw cy am sr kS ot asd stt ik tp td fr tt vl wr bo so nu mv) H ∧ Rel p0 p2 ke tb t1 sb ss sw fd sr kS stt ik tp td bo so nu
/-- what the law knows all along -/
def LCx (D : va_G) (cy : Nat → ClassId) (ad am kq vq : Nat → Nat) (s : State) : Prop := cK D cy ad s ∧ mK D cy am s ∧ tG (fun q => s.heap.size ≤ q) kq vq s ∧ (∀ i j, i < 43 → j < 11 → ad i ≠ am j) ∧ (∀ q, cA ad q → s.heap.size ≤ q) ∧ ∀ q, mA am q → s.heap.size ≤ q
