/-! writes into the class's world -/
def pf (j : Nat) : Nat := if j = 4 then 0 else j + 1
theorem cFw_set {sg : Nat → Int32} {i j : Nat} {v : Int32} (hj : j < 8) : (cFw sg i).set j (.int v) = cFw (upd sg (5 + 8 * i + j) v) i := by
  rcases (show j = 0 ∨ j = 1 ∨ j = 2 ∨ j = 3 ∨ j = 4 ∨ j = 5 ∨ j = 6 ∨ j = 7 by omega) with rfl | rfl | rfl | rfl | rfl | rfl | rfl | rfl <;> simp [cFw, upd]
theorem cFw_ne {sg : Nat → Int32} {i i' j : Nat} {v : Int32} (hj : j < 8) (h : i' ≠ i) : cFw (upd sg (5 + 8 * i + j) v) i' = cFw sg i' := by
  unfold cFw
  rw [upd_n (by omega), upd_n (by omega), upd_n (by omega), upd_n (by omega), upd_n (by omega), upd_n (by omega), upd_n (by omega), upd_n (by omega)]
theorem cFr_w {ad : Nat → Nat} {sg : Nat → Int32} {i j r : Nat} {v : Int32} : cFr ad (upd sg (5 + 8 * i + j) v) r = cFr ad sg r := by
  unfold cFr
  rw [upd_n (by omega), upd_n (by omega), upd_n (by omega), upd_n (by omega), upd_n (by omega)]
theorem cFr_set {ad : Nat → Nat} {sg : Nat → Int32} {j r : Nat} {v : Int32} (hj : j < 5) : (cFr ad sg r).set j (.int v) = cFr ad (upd sg (pf j) v) r := by
  rcases (show j = 0 ∨ j = 1 ∨ j = 2 ∨ j = 3 ∨ j = 4 by omega) with rfl | rfl | rfl | rfl | rfl <;> simp [cFr, upd, pf]
theorem cFw_r {sg : Nat → Int32} {i j : Nat} {v : Int32} (hj : j < 5) : cFw (upd sg (pf j) v) i = cFw sg i := by
  have h : pf j < 5 := by unfold pf; split <;> omega
  unfold cFw
  rw [upd_n (by omega), upd_n (by omega), upd_n (by omega), upd_n (by omega), upd_n (by omega), upd_n (by omega), upd_n (by omega), upd_n (by omega)]
section CS
variable {cy : Nat → ClassId} {ad : Nat → Nat} {rd : Nat → Nat → Int32} {ke : Int32} {tb : Nat → Int32} {t1 t2 t3 t4 t5 : Int32} {sb ss : Nat → Int32} {sw : Nat → Nat → Int64} {fd : Nat → Int32}
theorem cE_row {rd' : Nat → Nat → Int32} {k : Nat} (h1 : k ≠ 0 → (k - 1) % 10 = 0 → k < 31 → cFr ad (rd ((k - 1) / 10)) ((k - 1) / 10) = cFr ad (rd' ((k - 1) / 10)) ((k - 1) / 10)) (h2 : 1 < (k - 1) % 10 → k < 31 → cFw (rd ((k - 1) / 10)) ((k - 1) % 10 - 2) = cFw (rd' ((k - 1) / 10)) ((k - 1) % 10 - 2)) : cE cy ad rd ke tb t1 t2 t3 t4 t5 sb ss sw fd k = cE cy ad rd' ke tb t1 t2 t3 t4 t5 sb ss sw fd k := by
  unfold cE
  by_cases c0 : k = 0
  · rw [if_pos c0, if_pos c0]
  · rw [if_neg c0, if_neg c0]
    by_cases c1 : k < 31
    · rw [if_pos c1, if_pos c1]
      by_cases c2 : (k - 1) % 10 = 0
      · rw [if_pos c2, if_pos c2, h1 c0 c2 c1]
      · rw [if_neg c2, if_neg c2]
        by_cases c3 : (k - 1) % 10 = 1
        · rw [if_pos c3, if_pos c3]
        · rw [if_neg c3, if_neg c3, h2 (by omega) c1]
    · rw [if_neg c1, if_neg c1]
theorem cs_W {r i j : Nat} {v : Int32} (hr : r < 3) (hi : i < 8) (hj : j < 8) : (cw cy ad rd ke tb t1 t2 t3 t4 t5 sb ss sw fd).set (3 + 10 * r + i) (ad (3 + 10 * r + i), .inr (3, (cFw (rd r) i).set j (.int v))) = cw cy ad (va_up rd r (upd (rd r) (5 + 8 * i + j) v)) ke tb t1 t2 t3 t4 t5 sb ss sw fd := by
  refine c_set ?_ (fun k hk hne => cE_row (fun _ _ _ => ?_) (fun c1 c2 => ?_))
  · rw [cE_wk hr hi, va_up_self, cFw_set hj]
  · by_cases h : (k - 1) / 10 = r
    · rw [h, va_up_self, cFr_w]
    · rw [va_up_ne _ _ h]
  · by_cases h : (k - 1) / 10 = r
    · rw [h, va_up_self, cFw_ne hj (by omega)]
    · rw [va_up_ne _ _ h]
theorem cs_R {r j : Nat} {v : Int32} (hr : r < 3) (hj : j < 5) : (cw cy ad rd ke tb t1 t2 t3 t4 t5 sb ss sw fd).set (1 + 10 * r) (ad (1 + 10 * r), .inr (0, (cFr ad (rd r) r).set j (.int v))) = cw cy ad (va_up rd r (upd (rd r) (pf j) v)) ke tb t1 t2 t3 t4 t5 sb ss sw fd := by
  refine c_set ?_ (fun k hk hne => cE_row (fun c0 c1 _ => ?_) (fun c1 c2 => ?_))
  · rw [cE_rd hr, va_up_self, cFr_set hj]
  · by_cases h : (k - 1) / 10 = r
    · exact absurd (show k = 1 + 10 * r by omega) hne
    · rw [va_up_ne _ _ h]
  · by_cases h : (k - 1) / 10 = r
    · rw [h, va_up_self, cFw_r hj]
    · rw [va_up_ne _ _ h]
theorem cs_ke {v : Int32} : (cw cy ad rd ke tb t1 t2 t3 t4 t5 sb ss sw fd).set 0 (ad 0, .inr (4, [.ref (ad (1 + 10 * 0)), .ref (ad (1 + 10 * 1)), .ref (ad (1 + 10 * 2)), .int v, .ref (ad 31), .ref (ad 33), .ref (ad 42)])) = cw cy ad rd v tb t1 t2 t3 t4 t5 sb ss sw fd :=
  c_set rfl (fun k hk hne => by simp only [cE, if_neg hne])
theorem cs_tp {v1 v2 v3 v4 v5 : Int32} : (cw cy ad rd ke tb t1 t2 t3 t4 t5 sb ss sw fd).set 31 (ad 31, .inr (2, [.ref (ad 32), .int v1, .int v2, .int v3, .int v4, .int v5])) = cw cy ad rd ke tb v1 v2 v3 v4 v5 sb ss sw fd :=
  c_set rfl (fun k hk hne => by simp only [cE, if_neg hne])
theorem cs_by {f : Nat → Int32} : (cw cy ad rd ke tb t1 t2 t3 t4 t5 sb ss sw fd).set 32 (ad 32, .inl (cy 3, (120, .inl f))) = cw cy ad rd ke f t1 t2 t3 t4 t5 sb ss sw fd :=
  c_set rfl (fun k hk hne => by simp only [cE, if_neg hne])
theorem cs_fd {f : Nat → Int32} : (cw cy ad rd ke tb t1 t2 t3 t4 t5 sb ss sw fd).set 42 (ad 42, .inl (cy 0, (7, .inl f))) = cw cy ad rd ke tb t1 t2 t3 t4 t5 sb ss sw f :=
  c_set rfl (fun k hk hne => by simp only [cE, if_neg hne])
theorem cs_sh {x : Nat} {v1 v2 : Int32} (hx : x < 4) : (cw cy ad rd ke tb t1 t2 t3 t4 t5 sb ss sw fd).set (34 + 2 * x) (ad (34 + 2 * x), .inr (1, [.ref (ad (35 + 2 * x)), .int v1, .int v2])) = cw cy ad rd ke tb t1 t2 t3 t4 t5 (upd sb x v1) (upd ss x v2) sw fd := by
  refine c_set ?_ (fun k hk hne => ?_)
  · rw [cE_sh hx, upd_s, upd_s]
  · unfold cE
    by_cases c : k < 34 ∨ k = 42 ∨ ¬ k % 2 = 0
    · rcases c with c | c | c
      · by_cases h0 : k = 0
        · rw [if_pos h0, if_pos h0]
        · rw [if_neg h0, if_neg h0]
          by_cases h1 : k < 31
          · rw [if_pos h1, if_pos h1]
          · rw [if_neg h1, if_neg h1]
            rcases (show k = 31 ∨ k = 32 ∨ k = 33 by omega) with rfl | rfl | rfl <;> rfl
      · subst c; rfl
      · simp only [if_neg c]
    · have e : (k - 34) / 2 ≠ x := by omega
      rw [upd_n e, upd_n e]
theorem cs_sw {x : Nat} {f : Nat → Int64} (hx : x < 4) : (cw cy ad rd ke tb t1 t2 t3 t4 t5 sb ss sw fd).set (35 + 2 * x) (ad (35 + 2 * x), .inl (cy 1, (40, .inr (.inl f)))) = cw cy ad rd ke tb t1 t2 t3 t4 t5 sb ss (va_up sw x f) fd := by
  refine c_set ?_ (fun k hk hne => ?_)
  · rw [cE_sr hx, va_up_self]
  · unfold cE
    by_cases c : k < 34 ∨ k = 42 ∨ k % 2 = 0
    · rcases c with c | c | c
      · by_cases h0 : k = 0
        · rw [if_pos h0, if_pos h0]
        · rw [if_neg h0, if_neg h0]
          by_cases h1 : k < 31
          · rw [if_pos h1, if_pos h1]
          · rw [if_neg h1, if_neg h1]
            rcases (show k = 31 ∨ k = 32 ∨ k = 33 by omega) with rfl | rfl | rfl <;> rfl
      · subst c; rfl
      · simp only [if_pos c]
    · have e : (k - 34) / 2 ≠ x := by omega
      rw [va_up_ne _ _ e]
end CS
/-! one road of the class: row r is sg -/
section RW
variable {p : Program} {l : Launch} {e : Env} {R : Room} {s : State} {m : MethodId} {args : Array Value} {below : List Frame} {meth : Method} {c : Code} {H : Heap} {locs : List Loc} {cells slots : Nat} {Q : State → Prop}
variable {cc : ByteArray} {pc : Nat} {ls : Array Slot} {rest : List Value} {D : va_G} {H0 : Heap} {Ts : List Cond} {idx : Nat} {own : String}
variable {cy : Nat → ClassId} {ad : Nat → Nat} {rd : Nat → Nat → Int32} {ke : Int32} {tb : Nat → Int32} {t1 t2 t3 t4 t5 : Int32} {sb ss : Nat → Int32} {sw : Nat → Nat → Int64} {fd : Nat → Int32} {r : Nat} {sg : Nat → Int32}
theorem r_getR (hx : p.tables.exec = Jvm.exec) (hb : c.code = cc) (hts : ∀ w ∈ Ts, w.before args s = true) (hin : ∀ w ∈ wsX00, w ∈ Ts) (hown : s.vm.findClass own = some m.cls) (hK : cK D cy ad s) (hP : va_P D vwCl (cw cy ad (va_up rd r sg) ke tb t1 t2 t3 t4 t5 sb ss sw fd) H) (hr : r < 3) (j : Nat) (hj : j < 6) (hlink : fLk own idx (TX0 j).1 (TX0 j).2.1 (TX0 j).2.2.1 args s) {v : Value} (hv : (cFr ad sg r)[j]? = some v) (hdg : decode cc pc = .ok (.getfield idx, 3))
    (kk : W p l e R s m args below meth c H locs cells slots Q (F0 m (pc + 3) ls (v :: rest))) : W p l e R s m args below meth c H locs cells slots Q (F0 m pc ls (.ref (ad (1 + 10 * r)) :: rest)) :=
  c_get (C := RX0) (T := TX0) (N := 6) hx hb hts hin hown hK hP (1 + 10 * r) (by omega) (cE_rd hr) rfl j hj hlink (by rw [va_up_self]; exact hv) hdg kk
theorem r_getW (hx : p.tables.exec = Jvm.exec) (hb : c.code = cc) (hts : ∀ w ∈ Ts, w.before args s = true) (hin : ∀ w ∈ wsX30, w ∈ Ts) (hown : s.vm.findClass own = some m.cls) (hK : cK D cy ad s) (hP : va_P D vwCl (cw cy ad (va_up rd r sg) ke tb t1 t2 t3 t4 t5 sb ss sw fd) H) (hr : r < 3) {i : Nat} (hi : i < 8) (j : Nat) (hj : j < 8) (hlink : fLk own idx (TX3 j).1 (TX3 j).2.1 (TX3 j).2.2.1 args s) {v : Value} (hv : (cFw sg i)[j]? = some v) (hdg : decode cc pc = .ok (.getfield idx, 3))
    (kk : W p l e R s m args below meth c H locs cells slots Q (F0 m (pc + 3) ls (v :: rest))) : W p l e R s m args below meth c H locs cells slots Q (F0 m pc ls (.ref (ad (3 + 10 * r + i)) :: rest)) :=
  c_get (C := RX3) (T := TX3) (N := 8) hx hb hts hin hown hK hP (3 + 10 * r + i) (by omega) (cE_wk hr hi) rfl j hj hlink (by rw [va_up_self]; exact hv) hdg kk
theorem r_putR (hx : p.tables.exec = Jvm.exec) (hb : c.code = cc) (hts : ∀ w ∈ Ts, w.before args s = true) (hin : ∀ w ∈ wsX00, w ∈ Ts) (hown : s.vm.findClass own = some m.cls) (hK : cK D cy ad s) (hP : va_P D vwCl (cw cy ad (va_up rd r sg) ke tb t1 t2 t3 t4 t5 sb ss sw fd) H) (hS : va_S (cA ad) H0 H locs) (hr : r < 3) (j : Nat) (hj : j < 5) {x : Nat} (hpf : pf j = x) (hlink : fLk own idx (TX0 j).1 (TX0 j).2.1 (TX0 j).2.2.1 args s) {v : Int32} (hfin : (TX0 j).2.2.2 = false) (hd : parseFieldDescriptor (TX0 j).2.2.1 = some .int) (hdg : decode cc pc = .ok (.putfield idx, 3))
    (kk : ∀ (H1 : Heap) (locs1 : List Loc), va_P D vwCl (cw cy ad (va_up rd r (upd sg x v)) ke tb t1 t2 t3 t4 t5 sb ss sw fd) H1 → va_S (cA ad) H0 H1 locs1 → W p l e R s m args below meth c H1 locs1 cells slots Q (F0 m (pc + 3) ls rest)) : W p l e R s m args below meth c H locs cells slots Q (F0 m pc ls (.int v :: .ref (ad (1 + 10 * r)) :: rest)) :=
  c_put (C := RX0) (T := TX0) (N := 6) (ty := .int) hx hb hts hin tyX0 tyX0_ok nmX0 hown hK hP hS (1 + 10 * r) (by omega) (cE_rd hr) rfl j (by omega) hlink hfin hd rfl rfl (by unfold cFr; show j < 6; omega) (by rw [cs_R hr hj, bx_uu, va_up_self, hpf]) hdg kk
theorem r_putW (hx : p.tables.exec = Jvm.exec) (hb : c.code = cc) (hts : ∀ w ∈ Ts, w.before args s = true) (hin : ∀ w ∈ wsX30, w ∈ Ts) (hown : s.vm.findClass own = some m.cls) (hK : cK D cy ad s) (hP : va_P D vwCl (cw cy ad (va_up rd r sg) ke tb t1 t2 t3 t4 t5 sb ss sw fd) H) (hS : va_S (cA ad) H0 H locs) (hr : r < 3) {i : Nat} (hi : i < 8) (j : Nat) (hj : j < 8) (hlink : fLk own idx (TX3 j).1 (TX3 j).2.1 (TX3 j).2.2.1 args s) {v : Int32} (hfin : (TX3 j).2.2.2 = false) (hd : parseFieldDescriptor (TX3 j).2.2.1 = some .int) (hdg : decode cc pc = .ok (.putfield idx, 3))
    (kk : ∀ (H1 : Heap) (locs1 : List Loc), va_P D vwCl (cw cy ad (va_up rd r (upd sg (5 + 8 * i + j) v)) ke tb t1 t2 t3 t4 t5 sb ss sw fd) H1 → va_S (cA ad) H0 H1 locs1 → W p l e R s m args below meth c H1 locs1 cells slots Q (F0 m (pc + 3) ls rest)) : W p l e R s m args below meth c H locs cells slots Q (F0 m pc ls (.int v :: .ref (ad (3 + 10 * r + i)) :: rest)) :=
  c_put (C := RX3) (T := TX3) (N := 8) (ty := .int) hx hb hts hin tyX3 tyX3_ok nmX3 hown hK hP hS (3 + 10 * r + i) (by omega) (cE_wk hr hi) rfl j hj hlink hfin hd rfl rfl (by unfold cFw; show j < 8; omega) (by rw [cs_W hr hi hj, bx_uu, va_up_self]) hdg kk
end RW
