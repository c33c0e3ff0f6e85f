/-! the class's three rows, its public methods' ends -/
def rr (p0 p1 p2 : Nat → Int32) : Nat → Nat → Int32 := fun r => if r = 0 then p0 else if r = 1 then p1 else if r = 2 then p2 else fun _ => 0
theorem rr_up0 {p0 p1 p2 x : Nat → Int32} : va_up (rr p0 p1 p2) 0 x = rr x p1 p2 := by
  funext r
  unfold va_up rr
  by_cases h : r = 0
  · rw [if_pos h, if_pos h]
  · rw [if_neg h, if_neg h, if_neg h]
theorem rr_up1 {p0 p1 p2 x : Nat → Int32} : va_up (rr p0 p1 p2) 1 x = rr p0 x p2 := by
  funext r
  unfold va_up rr
  by_cases h : r = 1
  · rw [if_pos h, if_neg (by omega), if_pos h]
  · rw [if_neg h, if_neg h, if_neg h]
theorem rr_up2 {p0 p1 p2 x : Nat → Int32} : va_up (rr p0 p1 p2) 2 x = rr p0 p1 x := by
  funext r
  unfold va_up rr
  by_cases h : r = 2
  · rw [if_pos h, if_neg (by omega), if_neg (by omega), if_pos h]
  · rw [if_neg h, if_neg h, if_neg h]
def cPub (D : va_G) (cy : Nat → ClassId) (ad : Nat → Nat) (rv : Option Value) (p0 p2 : Nat → Int32) (ke : Int32) (tb : Nat → Int32) (t1 : Int32) (sb ss : Nat → Int32) (sw : Nat → Nat → Int64) (fd : Nat → Int32) : Array Value → State → Outcome → State → Prop := fun _ st oc t => oc = .returned rv ∧ (∃ (p1 : Nat → Int32) (t2 t3 t4 t5 : Int32), va_P D vwCl (cw cy ad (rr p0 p1 p2) ke tb t1 t2 t3 t4 t5 sb ss sw fd) t.heap) ∧ va_F (cA ad) st t
section CP
variable {p : Program} {l : Launch} {e : Env} {R : Room} {s : State} {m : MethodId} {args : Array Value} {below : List Frame} {meth : Method} {c : Code} {H : Heap} {locs : List Loc}
variable {cc : ByteArray} {pc : Nat} {ls : Array Slot} {D : va_G} {rv : Option Value} {cy : Nat → ClassId} {ad : Nat → Nat} {p0 p1 p2 p0' p2' : Nat → Int32} {ke ke' : Int32} {tb tb' : Nat → Int32} {t1 t2 t3 t4 t5 t1' : Int32} {sb ss sb' ss' : Nat → Int32} {sw sw' : Nat → Nat → Int64} {fd fd' : Nat → Int32}
theorem cp_ri {v : Int32} (hx : p.tables.exec = Jvm.exec) (hb : c.code = cc) (hr : meth.sig.returnType = some .int) (hlocks : meth.locks = false) (hP : va_P D vwCl (cw cy ad (rr p0 p1 p2) ke tb t1 t2 t3 t4 t5 sb ss sw fd) H) (hS : va_S (cA ad) s.heap H locs) (hdg : decode cc pc = .ok (.ireturn, 1)) (hv : rv = some (.int v)) (hw : (p0', p2', ke', tb', t1', sb', ss', sw', fd') = (p0, p2, ke, tb, t1, sb, ss, sw, fd)) : W p l e R s m args below meth c H locs 0 0 (MQ below (cPub D cy ad rv p0' p2' ke' tb' t1' sb' ss' sw' fd') args s 0 0 (cA ad)) (F0 m pc ls [.int v]) := by
  cases hw
  exact W.iret hx hb hr (fun t ht _ => ⟨by rw [hv], ⟨p1, t2, t3, t4, t5, by rw [ht]; exact hP⟩, hS.F ht⟩) hS.2.2 hdg hlocks
theorem cp_rl {v : Int64} (hx : p.tables.exec = Jvm.exec) (hb : c.code = cc) (hr : meth.sig.returnType = some .long) (hlocks : meth.locks = false) (hP : va_P D vwCl (cw cy ad (rr p0 p1 p2) ke tb t1 t2 t3 t4 t5 sb ss sw fd) H) (hS : va_S (cA ad) s.heap H locs) (hdg : decode cc pc = .ok (.lreturn, 1)) (hv : rv = some (.long v)) (hw : (p0', p2', ke', tb', t1', sb', ss', sw', fd') = (p0, p2, ke, tb, t1, sb, ss, sw, fd)) : W p l e R s m args below meth c H locs 0 0 (MQ below (cPub D cy ad rv p0' p2' ke' tb' t1' sb' ss' sw' fd') args s 0 0 (cA ad)) (F0 m pc ls [.long v]) := by
  cases hw
  exact W.lret hx hb hr (fun t ht _ => ⟨by rw [hv], ⟨p1, t2, t3, t4, t5, by rw [ht]; exact hP⟩, hS.F ht⟩) hS.2.2 hdg hlocks
end CP
section CA
variable {p : Program} {l : Launch} {e : Env} {R : Room} {s : State} {m : MethodId} {args : Array Value} {below : List Frame} {meth : Method} {c : Code} {H : Heap} {locs : List Loc} {cells slots : Nat} {Q : State → Prop}
variable {cc : ByteArray} {pc : Nat} {ls : Array Slot} {rest : List Value} {D : va_G} {H0 : Heap} {cy : Nat → ClassId} {ad : Nat → Nat} {rd : Nat → Nat → Int32} {ke : Int32} {tb : Nat → Int32} {t1 t2 t3 t4 t5 : Int32} {sb ss : Nat → Int32} {sw : Nat → Nat → Int64} {fd : Nat → Int32}
theorem c_astF (hx : p.tables.exec = Jvm.exec) (hb : c.code = cc) (hK : cK D cy ad s) (hP : va_P D vwCl (cw cy ad rd ke tb t1 t2 t3 t4 t5 sb ss sw fd) H) (hS : va_S (cA ad) H0 H locs) {i : Nat} {x : Int32} (hi : i < 7) (hdg : decode cc pc = .ok (.iastore, 1))
    (kk : ∀ (H1 : Heap) (locs1 : List Loc), va_P D vwCl (cw cy ad rd ke tb t1 t2 t3 t4 t5 sb ss sw (upd fd i x)) H1 → va_S (cA ad) H0 H1 locs1 → W p l e R s m args below meth c H1 locs1 cells slots Q (F0 m (pc + 1) ls rest)) : W p l e R s m args below meth c H locs cells slots Q (F0 m pc ls (.int x :: .int (nI i) :: .ref (ad 42) :: rest)) :=
  va_iast hx hb hK.1 hP (c_D hK.2.1) hS 42 0 (c_at (by decide)) rfl (vp_in_nI hi (by decide)) hdg (fun H1 locs1 hP1 _ hS1 => kk H1 locs1 (by rw [nI_clamp (by omega), cs_fd] at hP1; exact hP1) hS1)
theorem c_astL (hx : p.tables.exec = Jvm.exec) (hb : c.code = cc) (hK : cK D cy ad s) (hP : va_P D vwCl (cw cy ad rd ke tb t1 t2 t3 t4 t5 sb ss sw fd) H) (hS : va_S (cA ad) H0 H locs) (y : Nat) {i : Nat} {x : Int64} (hy : y < 4) (hi : i < 40) (hdg : decode cc pc = .ok (.lastore, 1))
    (kk : ∀ (H1 : Heap) (locs1 : List Loc), va_P D vwCl (cw cy ad rd ke tb t1 t2 t3 t4 t5 sb ss (va_up sw y (vp_updL (sw y) i x)) fd) H1 → va_S (cA ad) H0 H1 locs1 → W p l e R s m args below meth c H1 locs1 cells slots Q (F0 m (pc + 1) ls rest)) : W p l e R s m args below meth c H locs cells slots Q (F0 m pc ls (.long x :: .int (nI i) :: .ref (ad (35 + 2 * y)) :: rest)) := by
  have hat := c_at (cy := cy) (ad := ad) (rd := rd) (ke := ke) (tb := tb) (t1 := t1) (t2 := t2) (t3 := t3) (t4 := t4) (t5 := t5) (sb := sb) (ss := ss) (sw := sw) (fd := fd) (show 35 + 2 * y < 43 by omega)
  rw [cE_sr hy] at hat
  exact va_last hx hb hK.1 hP (c_D hK.2.1) hS (35 + 2 * y) 1 hat rfl (vp_in_nI hi (by decide)) hdg (fun H1 locs1 hP1 _ hS1 => kk H1 locs1 (by rw [nI_clamp (by omega), cs_sw hy] at hP1; exact hP1) hS1)
theorem c_astB (hx : p.tables.exec = Jvm.exec) (hb : c.code = cc) (hK : cK D cy ad s) (hP : va_P D vwCl (cw cy ad rd ke tb t1 t2 t3 t4 t5 sb ss sw fd) H) (hS : va_S (cA ad) H0 H locs) {i : Nat} {x : Int32} (hi : i < 120) (hdg : decode cc pc = .ok (.bastore, 1))
    (kk : ∀ (H1 : Heap) (locs1 : List Loc), va_P D vwCl (cw cy ad rd ke (upd tb i x.toInt8.toInt32) t1 t2 t3 t4 t5 sb ss sw fd) H1 → va_S (cA ad) H0 H1 locs1 → W p l e R s m args below meth c H1 locs1 cells slots Q (F0 m (pc + 1) ls rest)) : W p l e R s m args below meth c H locs cells slots Q (F0 m pc ls (.int x :: .int (nI i) :: .ref (ad 32) :: rest)) :=
  va_bast hx hb hK.1 hP (c_D hK.2.1) hS 32 3 (c_at (by decide)) rfl (vp_in_nI hi (by decide)) hdg (fun H1 locs1 hP1 _ hS1 => kk H1 locs1 (by rw [nI_clamp (by omega)] at hP1; exact cs_by ▸ hP1) hS1)
end CA
