/-! the class's copy -/
theorem hp_sp {x b n : Int32} (h : hpP x b n = true) : ¬ b < 0 ∧ ¬ n < 0 ∧ ¬ x < n ∧ ¬ x - n < b := by
  unfold hpP at h
  simp only [Bool.and_eq_true, Bool.not_eq_true', decide_eq_false_iff_not] at h
  exact h
theorem hp_ix {x b n : Int32} {z0 : Nat} (hz : z0 ≤ 40) (e : x = nI z0) (h : hpP x b n = true) : ∃ b' n' : Nat, b = nI b' ∧ n = nI n' ∧ b' + n' ≤ z0 := by
  obtain ⟨h1, h2, _, h4⟩ := hp_sp h
  obtain ⟨n', b', e1, e2, h5⟩ := cp_ix hz e h2 h1 h4
  exact ⟨b', n', e2, e1, by omega⟩
section CC
variable {p : Program} {l : Launch} {e : Env} {R : Room} {s : State} {m : MethodId} {args : Array Value} {below : List Frame} {meth : Method} {c : Code} {H : Heap} {locs : List Loc} {cells slots : Nat} {Q : State → Prop}
variable {cc : ByteArray} {pc : Nat} {ls : Array Slot} {rest : List Value} {D : va_G} {H0 : Heap} {cy : Nat → ClassId} {ad : Nat → Nat} {rd : Nat → Nat → Int32} {ke : Int32} {tb : Nat → Int32} {t1 t2 t3 t4 t5 : Int32} {sb ss : Nat → Int32} {sw : Nat → Nat → Int64} {fd : Nat → Int32}
theorem c_copyL (hx : p.tables.exec = Jvm.exec) (hb : c.code = cc) (hml : c.maxLocals = ls.size) {own : String} {index : Nat} (hown : s.vm.findClass own = some m.cls) (hlink : (Cond.methodLink own index arraycopyName).before args s = true) (hnat : (Cond.native arraycopyName).before args s = true) (hstat : (Cond.static arraycopyName).before args s = true) (hini : (Cond.initialized "java/lang/System").before args s = true)
    (hK : cK D cy ad s) (hP : va_P D vwCl (cw cy ad rd ke tb t1 t2 t3 t4 t5 sb ss sw fd) H) (hS : va_S (cA ad) H0 H locs) (y y' : Nat) {b d n : Nat} (hy : y < 4) (hy' : y' < 4) (h4 : b + n ≤ 40) (h5 : d + n ≤ 40)
    (hframes : 1 ≤ R.frames) (hlocals : (rest.map fun v => v.category).sum + (nativeFrameWords "java/lang/System" "arraycopy" 5 + 11) ≤ R.locals) (hdg : decode cc pc = .ok (.invokestatic index, 3))
    (kk : ∀ (H1 : Heap) (locs1 : List Loc), va_P D vwCl (cw cy ad rd ke tb t1 t2 t3 t4 t5 sb ss (va_up sw y' (va_cpy (sw y) (sw y') b d n)) fd) H1 → va_S (cA ad) H0 H1 locs1 → W p l e R s m args below meth c H1 locs1 cells slots Q (F0 m (pc + 3) ls rest)) : W p l e R s m args below meth c H locs cells slots Q (F0 m pc ls (.int (nI n) :: .int (nI d) :: .ref (ad (35 + 2 * y')) :: .int (nI b) :: .ref (ad (35 + 2 * y)) :: rest)) := by
  have hat := c_at (cy := cy) (ad := ad) (rd := rd) (ke := ke) (tb := tb) (t1 := t1) (t2 := t2) (t3 := t3) (t4 := t4) (t5 := t5) (sb := sb) (ss := ss) (sw := sw) (fd := fd) (show 35 + 2 * y < 43 by omega)
  rw [cE_sr hy] at hat
  have hat' := c_at (cy := cy) (ad := ad) (rd := rd) (ke := ke) (tb := tb) (t1 := t1) (t2 := t2) (t3 := t3) (t4 := t4) (t5 := t5) (sb := sb) (ss := ss) (sw := sw) (fd := fd) (show 35 + 2 * y' < 43 by omega)
  rw [cE_sr hy'] at hat'
  have e1 : (nI b).toNatClampNeg = b := nI_clamp (by omega)
  have e2 : (nI d).toNatClampNeg = d := nI_clamp (by omega)
  have e3 : (nI n).toNatClampNeg = n := nI_clamp (by omega)
  exact va_copyl hx hb hml hown hlink hnat hstat hini hK.1 hP (c_D hK.2.1) hS (35 + 2 * y) (35 + 2 * y') 1 1 hat hat' rfl rfl rfl (nI_pos (by omega)) (nI_pos (by omega)) (nI_pos (by omega)) (by rw [e1, e3]; exact h4) (by rw [e2, e3]; exact h5) (fun _ _ => rfl) hframes hlocals hdg (fun H1 locs1 hP1 _ hS1 => kk H1 locs1 (by rw [e1, e2, e3, cs_sw hy'] at hP1; exact hP1) hS1)
end CC
