theorem c_X0_isFull_r0 {l : Launch} {D : va_G} {cy : Nat → ClassId} {ad : Nat → Nat} {p0 p1 p2 : Nat → Int32} {ke : Int32} {tb : Nat → Int32} {t1 : Int32} {t2 : Int32} {t3 : Int32} {t4 : Int32} {t5 : Int32} {sb : Nat → Int32} {ss : Nat → Int32} {sw : Nat → Nat → Int64} {fd : Nat → Int32} {N : Nat} (hN : p0 0 = nI N) (h8 : N ≤ 8) : Met l yX0_isFull wsX0_isFull (rmz 0 0) (wPre D (cK D cy ad) (cw cy ad (rr p0 p1 p2) ke tb t1 t2 t3 t4 t5 sb ss sw fd) [.ref (ad (1 + 10 * 0))]) (wPost D (cw cy ad (rr p0 p1 p2) ke tb t1 t2 t3 t4 t5 sb ss sw fd) (some (.int (z (8 ≤ N)))) (cA ad)) 0 0 (cA ad) := by
  have h := c_X0_isFull (l := l) (D := D) (cy := cy) (ad := ad) (rd := rr p0 p1 p2) (ke := ke) (tb := tb) (t1 := t1) (t2 := t2) (t3 := t3) (t4 := t4) (t5 := t5) (sb := sb) (ss := ss) (sw := sw) (fd := fd) (sg := p0) (r := 0) (N := N) (by decide) hN h8
  simp only [rr_up0] at h
  exact h
theorem c_X0_join_r0 {l : Launch} {D : va_G} {cy : Nat → ClassId} {ad : Nat → Nat} {p0 p1 p2 : Nat → Int32} {ke : Int32} {tb : Nat → Int32} {t1 : Int32} {t2 : Int32} {t3 : Int32} {t4 : Int32} {t5 : Int32} {sb : Nat → Int32} {ss : Nat → Int32} {sw : Nat → Nat → Int64} {fd : Nat → Int32} {kd : Int32} {ml : Int32} {N : Nat} (hN : p0 0 = nI N) (h8 : N < 8) : Met l yX0_join wsX0_join (rmz 1 22) (wPre D (cK D cy ad) (cw cy ad (rr p0 p1 p2) ke tb t1 t2 t3 t4 t5 sb ss sw fd) [.ref (ad (1 + 10 * 0)), .int (kd), .int (ml)]) (wPost D (cw cy ad (rr (addF p0 N kd ml) p1 p2) ke tb t1 t2 t3 t4 t5 sb ss sw fd) (some (.ref (ad (3 + 10 * 0 + N)))) (cA ad)) 0 0 (cA ad) := by
  have h := c_X0_join (l := l) (D := D) (cy := cy) (ad := ad) (rd := rr p0 p1 p2) (ke := ke) (tb := tb) (t1 := t1) (t2 := t2) (t3 := t3) (t4 := t4) (t5 := t5) (sb := sb) (ss := ss) (sw := sw) (fd := fd) (sg := p0) (r := 0) (kd := kd) (ml := ml) (N := N) (by decide) hN h8
  simp only [rr_up0] at h
  exact h
theorem c_X0_paceOf_r0 {l : Launch} {D : va_G} {cy : Nat → ClassId} {ad : Nat → Nat} {p0 p1 p2 : Nat → Int32} {ke : Int32} {tb : Nat → Int32} {t1 : Int32} {t2 : Int32} {t3 : Int32} {t4 : Int32} {t5 : Int32} {sb : Nat → Int32} {ss : Nat → Int32} {sw : Nat → Nat → Int64} {fd : Nat → Int32} {i : Nat} {N : Nat} (hi : i < N) (hN : p0 0 = nI N) (h8 : N ≤ 8) : Met l yX0_paceOf wsX0_paceOf (rmz 1 23) (wPre D (cK D cy ad) (cw cy ad (rr p0 p1 p2) ke tb t1 t2 t3 t4 t5 sb ss sw fd) [.ref (ad (1 + 10 * 0)), .ref (ad (3 + 10 * 0 + i))]) (wPost D (cw cy ad (rr p0 p1 p2) ke tb t1 t2 t3 t4 t5 sb ss sw fd) (some (.int (paceF p0 N i))) (cA ad)) 0 0 (cA ad) := by
  have h := c_X0_paceOf (l := l) (D := D) (cy := cy) (ad := ad) (rd := rr p0 p1 p2) (ke := ke) (tb := tb) (t1 := t1) (t2 := t2) (t3 := t3) (t4 := t4) (t5 := t5) (sb := sb) (ss := ss) (sw := sw) (fd := fd) (sg := p0) (r := 0) (i := i) (N := N) (by decide) hi hN h8
  simp only [rr_up0] at h
  exact h
theorem c_X0_payOf_r0 {l : Launch} {D : va_G} {cy : Nat → ClassId} {ad : Nat → Nat} {p0 p1 p2 : Nat → Int32} {ke : Int32} {tb : Nat → Int32} {t1 : Int32} {t2 : Int32} {t3 : Int32} {t4 : Int32} {t5 : Int32} {sb : Nat → Int32} {ss : Nat → Int32} {sw : Nat → Nat → Int64} {fd : Nat → Int32} {i : Nat} (hi : i < 8) : Met l yX0_payOf wsX0_payOf (rmz 0 0) (wPre D (cK D cy ad) (cw cy ad (rr p0 p1 p2) ke tb t1 t2 t3 t4 t5 sb ss sw fd) [.ref (ad (1 + 10 * 0)), .ref (ad (3 + 10 * 0 + i))]) (wPost D (cw cy ad (rr p0 p1 p2) ke tb t1 t2 t3 t4 t5 sb ss sw fd) (some (.int (payF p0 i))) (cA ad)) 0 0 (cA ad) := by
  have h := c_X0_payOf (l := l) (D := D) (cy := cy) (ad := ad) (rd := rr p0 p1 p2) (ke := ke) (tb := tb) (t1 := t1) (t2 := t2) (t3 := t3) (t4 := t4) (t5 := t5) (sb := sb) (ss := ss) (sw := sw) (fd := fd) (sg := p0) (r := 0) (i := i) (by decide) hi
  simp only [rr_up0] at h
  exact h
theorem c_X0_sumOf_r0 {l : Launch} {D : va_G} {cy : Nat → ClassId} {ad : Nat → Nat} {p0 p1 p2 : Nat → Int32} {ke : Int32} {tb : Nat → Int32} {t1 : Int32} {t2 : Int32} {t3 : Int32} {t4 : Int32} {t5 : Int32} {sb : Nat → Int32} {ss : Nat → Int32} {sw : Nat → Nat → Int64} {fd : Nat → Int32} {k : Nat} {N : Nat} (hN : p0 0 = nI N) (h8 : N ≤ 8) (h1k : 1 ≤ k) (h7k : k ≤ 7) : Met l yX0_sumOf wsX0_sumOf (rmz 1 21) (wPre D (cK D cy ad) (cw cy ad (rr p0 p1 p2) ke tb t1 t2 t3 t4 t5 sb ss sw fd) [.ref (ad (1 + 10 * 0)), .int (nI k)]) (wPost D (cw cy ad (rr p0 p1 p2) ke tb t1 t2 t3 t4 t5 sb ss sw fd) (some (.int (sumL p0 k N 0 (nI 0)))) (cA ad)) 0 0 (cA ad) := by
  have h := c_X0_sumOf (l := l) (D := D) (cy := cy) (ad := ad) (rd := rr p0 p1 p2) (ke := ke) (tb := tb) (t1 := t1) (t2 := t2) (t3 := t3) (t4 := t4) (t5 := t5) (sb := sb) (ss := ss) (sw := sw) (fd := fd) (sg := p0) (r := 0) (k := k) (N := N) (by decide) hN h8 h1k h7k
  simp only [rr_up0] at h
  exact h
theorem c_X0_setWith_r0 {l : Launch} {D : va_G} {cy : Nat → ClassId} {ad : Nat → Nat} {p0 p1 p2 : Nat → Int32} {ke : Int32} {tb : Nat → Int32} {t1 : Int32} {t2 : Int32} {t3 : Int32} {t4 : Int32} {t5 : Int32} {sb : Nat → Int32} {ss : Nat → Int32} {sw : Nat → Nat → Int64} {fd : Nat → Int32} {k : Nat} {N : Nat} (hN : p0 0 = nI N) (h8 : N ≤ 8) (h1k : 1 ≤ k) (h7k : k ≤ 7) : Met l yX0_setWith wsX0_setWith (rmz 1 21) (wPre D (cK D cy ad) (cw cy ad (rr p0 p1 p2) ke tb t1 t2 t3 t4 t5 sb ss sw fd) [.ref (ad (1 + 10 * 0)), .int (nI k)]) (wPost D (cw cy ad (rr p0 p1 p2) ke tb t1 t2 t3 t4 t5 sb ss sw fd) (some (.int (withL p0 k N 0 (nI 0)))) (cA ad)) 0 0 (cA ad) := by
  have h := c_X0_setWith (l := l) (D := D) (cy := cy) (ad := ad) (rd := rr p0 p1 p2) (ke := ke) (tb := tb) (t1 := t1) (t2 := t2) (t3 := t3) (t4 := t4) (t5 := t5) (sb := sb) (ss := ss) (sw := sw) (fd := fd) (sg := p0) (r := 0) (k := k) (N := N) (by decide) hN h8 h1k h7k
  simp only [rr_up0] at h
  exact h
theorem c_X0_passHours_r0 {l : Launch} {D : va_G} {cy : Nat → ClassId} {ad : Nat → Nat} {p0 p1 p2 : Nat → Int32} {ke : Int32} {tb : Nat → Int32} {t1 : Int32} {t2 : Int32} {t3 : Int32} {t4 : Int32} {t5 : Int32} {sb : Nat → Int32} {ss : Nat → Int32} {sw : Nat → Nat → Int64} {fd : Nat → Int32} {q : Nat} {N : Nat} (hN : p0 0 = nI N) (h8 : N ≤ 8) (hq : q < 2 ^ 31) : Met l yX0_passHours wsX0_passHours (rmz 4 88) (wPre D (cK D cy ad) (cw cy ad (rr p0 p1 p2) ke tb t1 t2 t3 t4 t5 sb ss sw fd) [.ref (ad (1 + 10 * 0)), .int (nI q)]) (wPost D (cw cy ad (rr (hrsF N q p0) p1 p2) ke tb t1 t2 t3 t4 t5 sb ss sw fd) none (cA ad)) 0 0 (cA ad) := by
  have h := c_X0_passHours (l := l) (D := D) (cy := cy) (ad := ad) (rd := rr p0 p1 p2) (ke := ke) (tb := tb) (t1 := t1) (t2 := t2) (t3 := t3) (t4 := t4) (t5 := t5) (sb := sb) (ss := ss) (sw := sw) (fd := fd) (sg := p0) (r := 0) (q := q) (N := N) (by decide) hN h8 hq
  simp only [rr_up0] at h
  exact h
theorem c_X3_trait_r0 {l : Launch} {D : va_G} {cy : Nat → ClassId} {ad : Nat → Nat} {p0 p1 p2 : Nat → Int32} {ke : Int32} {tb : Nat → Int32} {t1 : Int32} {t2 : Int32} {t3 : Int32} {t4 : Int32} {t5 : Int32} {sb : Nat → Int32} {ss : Nat → Int32} {sw : Nat → Nat → Int64} {fd : Nat → Int32} {i : Nat} {q : Int32} (hi : i < 8) : Met l yX3_trait wsX3_trait (rmz 0 0) (wPre D (cK D cy ad) (cw cy ad (rr p0 p1 p2) ke tb t1 t2 t3 t4 t5 sb ss sw fd) [.ref (ad (3 + 10 * 0 + i)), .int (q)]) (wPost D (cw cy ad (rr p0 p1 p2) ke tb t1 t2 t3 t4 t5 sb ss sw fd) (some (.int (traitF p0 i q))) (cA ad)) 0 0 (cA ad) := by
  have h := c_X3_trait (l := l) (D := D) (cy := cy) (ad := ad) (rd := rr p0 p1 p2) (ke := ke) (tb := tb) (t1 := t1) (t2 := t2) (t3 := t3) (t4 := t4) (t5 := t5) (sb := sb) (ss := ss) (sw := sw) (fd := fd) (sg := p0) (r := 0) (i := i) (q := q) (by decide) hi
  simp only [rr_up0] at h
  exact h
theorem c_X3_giveTrait_r0 {l : Launch} {D : va_G} {cy : Nat → ClassId} {ad : Nat → Nat} {p0 p1 p2 : Nat → Int32} {ke : Int32} {tb : Nat → Int32} {t1 : Int32} {t2 : Int32} {t3 : Int32} {t4 : Int32} {t5 : Int32} {sb : Nat → Int32} {ss : Nat → Int32} {sw : Nat → Nat → Int64} {fd : Nat → Int32} {i : Nat} {q : Int32} {v : Int32} (hi : i < 8) : Met l yX3_giveTrait wsX3_giveTrait (rmz 0 0) (wPre D (cK D cy ad) (cw cy ad (rr p0 p1 p2) ke tb t1 t2 t3 t4 t5 sb ss sw fd) [.ref (ad (3 + 10 * 0 + i)), .int (q), .int (v)]) (wPost D (cw cy ad (rr (giveF p0 i q v) p1 p2) ke tb t1 t2 t3 t4 t5 sb ss sw fd) none (cA ad)) 0 0 (cA ad) := by
  have h := c_X3_giveTrait (l := l) (D := D) (cy := cy) (ad := ad) (rd := rr p0 p1 p2) (ke := ke) (tb := tb) (t1 := t1) (t2 := t2) (t3 := t3) (t4 := t4) (t5 := t5) (sb := sb) (ss := ss) (sw := sw) (fd := fd) (sg := p0) (r := 0) (i := i) (q := q) (v := v) (by decide) hi
  simp only [rr_up0] at h
  exact h
theorem c_X0_passHours_r1 {l : Launch} {D : va_G} {cy : Nat → ClassId} {ad : Nat → Nat} {p0 p1 p2 : Nat → Int32} {ke : Int32} {tb : Nat → Int32} {t1 : Int32} {t2 : Int32} {t3 : Int32} {t4 : Int32} {t5 : Int32} {sb : Nat → Int32} {ss : Nat → Int32} {sw : Nat → Nat → Int64} {fd : Nat → Int32} {q : Nat} {N : Nat} (hN : p1 0 = nI N) (h8 : N ≤ 8) (hq : q < 2 ^ 31) : Met l yX0_passHours wsX0_passHours (rmz 4 88) (wPre D (cK D cy ad) (cw cy ad (rr p0 p1 p2) ke tb t1 t2 t3 t4 t5 sb ss sw fd) [.ref (ad (1 + 10 * 1)), .int (nI q)]) (wPost D (cw cy ad (rr p0 (hrsF N q p1) p2) ke tb t1 t2 t3 t4 t5 sb ss sw fd) none (cA ad)) 0 0 (cA ad) := by
  have h := c_X0_passHours (l := l) (D := D) (cy := cy) (ad := ad) (rd := rr p0 p1 p2) (ke := ke) (tb := tb) (t1 := t1) (t2 := t2) (t3 := t3) (t4 := t4) (t5 := t5) (sb := sb) (ss := ss) (sw := sw) (fd := fd) (sg := p1) (r := 1) (q := q) (N := N) (by decide) hN h8 hq
  simp only [rr_up1] at h
  exact h
theorem c_X0_passHour_r1 {l : Launch} {D : va_G} {cy : Nat → ClassId} {ad : Nat → Nat} {p0 p1 p2 : Nat → Int32} {ke : Int32} {tb : Nat → Int32} {t1 : Int32} {t2 : Int32} {t3 : Int32} {t4 : Int32} {t5 : Int32} {sb : Nat → Int32} {ss : Nat → Int32} {sw : Nat → Nat → Int64} {fd : Nat → Int32} {N : Nat} (hN : p1 0 = nI N) (h8 : N ≤ 8) : Met l yX0_passHour wsX0_passHour (rmz 3 67) (wPre D (cK D cy ad) (cw cy ad (rr p0 p1 p2) ke tb t1 t2 t3 t4 t5 sb ss sw fd) [.ref (ad (1 + 10 * 1))]) (wPost D (cw cy ad (rr p0 (hourF N p1) p2) ke tb t1 t2 t3 t4 t5 sb ss sw fd) none (cA ad)) 0 0 (cA ad) := by
  have h := c_X0_passHour (l := l) (D := D) (cy := cy) (ad := ad) (rd := rr p0 p1 p2) (ke := ke) (tb := tb) (t1 := t1) (t2 := t2) (t3 := t3) (t4 := t4) (t5 := t5) (sb := sb) (ss := ss) (sw := sw) (fd := fd) (sg := p1) (r := 1) (N := N) (by decide) hN h8
  simp only [rr_up1] at h
  exact h
theorem c_X0_takeFrom_r10 {l : Launch} {D : va_G} {cy : Nat → ClassId} {ad : Nat → Nat} {p0 p1 p2 : Nat → Int32} {ke : Int32} {tb : Nat → Int32} {t1 : Int32} {t2 : Int32} {t3 : Int32} {t4 : Int32} {t5 : Int32} {sb : Nat → Int32} {ss : Nat → Int32} {sw : Nat → Nat → Int64} {fd : Nat → Int32} {N : Nat} (hN : p0 0 = nI N) (h8 : N ≤ 8) : Met l yX0_takeFrom wsX0_takeFrom (rmz 1 21) (wPre D (cK D cy ad) (cw cy ad (rr p0 p1 p2) ke tb t1 t2 t3 t4 t5 sb ss sw fd) [.ref (ad (1 + 10 * 1)), .ref (ad (1 + 10 * 0))]) (wPost D (cw cy ad (rr p0 (cpn (5 + 8 * N) (p0) p1) p2) ke tb t1 t2 t3 t4 t5 sb ss sw fd) none (cA ad)) 0 0 (cA ad) := by
  have h := c_X0_takeFrom (l := l) (D := D) (cy := cy) (ad := ad) (rd := rr p0 p1 p2) (ke := ke) (tb := tb) (t1 := t1) (t2 := t2) (t3 := t3) (t4 := t4) (t5 := t5) (sb := sb) (ss := ss) (sw := sw) (fd := fd) (sg := p1) (r := 1) (q := 0) (N := N) (by decide) (by decide) (by decide) hN h8
  simp only [rr_up1] at h
  exact h
theorem c_X0_takeFrom_r20 {l : Launch} {D : va_G} {cy : Nat → ClassId} {ad : Nat → Nat} {p0 p1 p2 : Nat → Int32} {ke : Int32} {tb : Nat → Int32} {t1 : Int32} {t2 : Int32} {t3 : Int32} {t4 : Int32} {t5 : Int32} {sb : Nat → Int32} {ss : Nat → Int32} {sw : Nat → Nat → Int64} {fd : Nat → Int32} {N : Nat} (hN : p0 0 = nI N) (h8 : N ≤ 8) : Met l yX0_takeFrom wsX0_takeFrom (rmz 1 21) (wPre D (cK D cy ad) (cw cy ad (rr p0 p1 p2) ke tb t1 t2 t3 t4 t5 sb ss sw fd) [.ref (ad (1 + 10 * 2)), .ref (ad (1 + 10 * 0))]) (wPost D (cw cy ad (rr p0 p1 (cpn (5 + 8 * N) (p0) p2)) ke tb t1 t2 t3 t4 t5 sb ss sw fd) none (cA ad)) 0 0 (cA ad) := by
  have h := c_X0_takeFrom (l := l) (D := D) (cy := cy) (ad := ad) (rd := rr p0 p1 p2) (ke := ke) (tb := tb) (t1 := t1) (t2 := t2) (t3 := t3) (t4 := t4) (t5 := t5) (sb := sb) (ss := ss) (sw := sw) (fd := fd) (sg := p2) (r := 2) (q := 0) (N := N) (by decide) (by decide) (by decide) hN h8
  simp only [rr_up2] at h
  exact h
theorem c_X0_takeFrom_r01 {l : Launch} {D : va_G} {cy : Nat → ClassId} {ad : Nat → Nat} {p0 p1 p2 : Nat → Int32} {ke : Int32} {tb : Nat → Int32} {t1 : Int32} {t2 : Int32} {t3 : Int32} {t4 : Int32} {t5 : Int32} {sb : Nat → Int32} {ss : Nat → Int32} {sw : Nat → Nat → Int64} {fd : Nat → Int32} {N : Nat} (hN : p1 0 = nI N) (h8 : N ≤ 8) : Met l yX0_takeFrom wsX0_takeFrom (rmz 1 21) (wPre D (cK D cy ad) (cw cy ad (rr p0 p1 p2) ke tb t1 t2 t3 t4 t5 sb ss sw fd) [.ref (ad (1 + 10 * 0)), .ref (ad (1 + 10 * 1))]) (wPost D (cw cy ad (rr (cpn (5 + 8 * N) (p1) p0) p1 p2) ke tb t1 t2 t3 t4 t5 sb ss sw fd) none (cA ad)) 0 0 (cA ad) := by
  have h := c_X0_takeFrom (l := l) (D := D) (cy := cy) (ad := ad) (rd := rr p0 p1 p2) (ke := ke) (tb := tb) (t1 := t1) (t2 := t2) (t3 := t3) (t4 := t4) (t5 := t5) (sb := sb) (ss := ss) (sw := sw) (fd := fd) (sg := p0) (r := 0) (q := 1) (N := N) (by decide) (by decide) (by decide) hN h8
  simp only [rr_up0] at h
  exact h
theorem c_X0_takeFrom_r02 {l : Launch} {D : va_G} {cy : Nat → ClassId} {ad : Nat → Nat} {p0 p1 p2 : Nat → Int32} {ke : Int32} {tb : Nat → Int32} {t1 : Int32} {t2 : Int32} {t3 : Int32} {t4 : Int32} {t5 : Int32} {sb : Nat → Int32} {ss : Nat → Int32} {sw : Nat → Nat → Int64} {fd : Nat → Int32} {N : Nat} (hN : p2 0 = nI N) (h8 : N ≤ 8) : Met l yX0_takeFrom wsX0_takeFrom (rmz 1 21) (wPre D (cK D cy ad) (cw cy ad (rr p0 p1 p2) ke tb t1 t2 t3 t4 t5 sb ss sw fd) [.ref (ad (1 + 10 * 0)), .ref (ad (1 + 10 * 2))]) (wPost D (cw cy ad (rr (cpn (5 + 8 * N) (p2) p0) p1 p2) ke tb t1 t2 t3 t4 t5 sb ss sw fd) none (cA ad)) 0 0 (cA ad) := by
  have h := c_X0_takeFrom (l := l) (D := D) (cy := cy) (ad := ad) (rd := rr p0 p1 p2) (ke := ke) (tb := tb) (t1 := t1) (t2 := t2) (t3 := t3) (t4 := t4) (t5 := t5) (sb := sb) (ss := ss) (sw := sw) (fd := fd) (sg := p0) (r := 0) (q := 2) (N := N) (by decide) (by decide) (by decide) hN h8
  simp only [rr_up0] at h
  exact h
set_option maxHeartbeats 1000000 in
set_option maxRecDepth 100000 in
theorem c_X4_within {l : Launch} {v : Int32} {lo : Int32} {hi : Int32} : Met l yX4_within wsX4_within (rmz 0 0) (sPre [.int (v), .int (lo), .int (hi)]) (sPost (some (.int (z (rg lo.toInt hi.toInt v))))) 0 0 (fun _ => False) := by
  refine sq_entry rfl rfl (Nat.le_of_ble_eq_true rfl) ?_
  intro p e s0 m args below meth c S hr hlocks ls hl
  have S : CallFix p m c cX4_within 3 s0 args wsX4_within RX4 := S
  obtain ⟨hx, hb, hml, hown, hts⟩ := id S
  have hl : lv_has ls 3 [(0, .int (v)), (1, .int (lo)), (2, .int (hi))] := hl
  generalize hQ : MQ below (sPost (some (.int (z (rg lo.toInt hi.toInt v))))) args s0 0 0 (fun _ => False) = Q
  refine lv_iload_n hx hb dX4_within_0 rfl (lv_at hl 0 rfl) ?_
  refine lv_iload_n hx hb dX4_within_1 rfl (lv_at hl 1 rfl) ?_
  refine lv_icmp_lt (tgt := 14) hx hb dX4_within_2 (by decide) (fun c_2 => ?_) (fun c_2 => ?_)
  · skip
    refine lv_iconst (v := nI 0) hx hb dX4_within_14 (by decide) ?_
    subst hQ
    exact sq_rz hx hb hr hlocks dX4_within_15 (by subst_vars; first | (left; rfl) | (right; rfl) | (split <;> simp)) (by first | exact rvI (wi_1 c_2) | exact rvI (wi_2 c_7) | exact rvI (wi_3 c_2 c_7))
  · skip
    refine lv_iload_n hx hb dX4_within_5 rfl (lv_at hl 0 rfl) ?_
    refine lv_iload_n hx hb dX4_within_6 rfl (lv_at hl 2 rfl) ?_
    refine lv_icmp_gt (tgt := 14) hx hb dX4_within_7 (by decide) (fun c_7 => ?_) (fun c_7 => ?_)
    · skip
      refine lv_iconst (v := nI 0) hx hb dX4_within_14 (by decide) ?_
      subst hQ
      exact sq_rz hx hb hr hlocks dX4_within_15 (by subst_vars; first | (left; rfl) | (right; rfl) | (split <;> simp)) (by first | exact rvI (wi_1 c_2) | exact rvI (wi_2 c_7) | exact rvI (wi_3 c_2 c_7))
    · skip
      refine lv_iconst (v := nI 1) hx hb dX4_within_10 (by decide) ?_
      refine lv_goto (tgt := 15) hx hb dX4_within_11 (by decide) ?_
      subst hQ
      exact sq_rz hx hb hr hlocks dX4_within_15 (by subst_vars; first | (left; rfl) | (right; rfl) | (split <;> simp)) (by first | exact rvI (wi_1 c_2) | exact rvI (wi_2 c_7) | exact rvI (wi_3 c_2 c_7))
theorem i_X4_within : ciOk yX4_within cX4_within 3 (some .boolean) wsX4_within 3 := ⟨⟨_, rfl⟩, by decide +kernel⟩
theorem c_X4_withinN {l : Launch} {q : Int32} {a b : Nat} (ha : a < 2 ^ 31) (hb : b < 2 ^ 31) : Met l yX4_within wsX4_within (rmz 0 0) (sPre [.int q, .int (nI a), .int (nI b)]) (sPost (some (.int (z (rg a b q))))) 0 0 (fun _ => False) := by
  have c := c_X4_within (l := l) (v := q) (lo := (nI a)) (hi := (nI b))
  rw [nI_toInt ha, nI_toInt hb] at c
  exact c
theorem c_X4_withinA {l : Launch} {q : Int32} {a : Nat} {b : Int32} (ha : a < 2 ^ 31) : Met l yX4_within wsX4_within (rmz 0 0) (sPre [.int q, .int (nI a), .int b]) (sPost (some (.int (z (rg a b.toInt q))))) 0 0 (fun _ => False) := by
  have c := c_X4_within (l := l) (v := q) (lo := (nI a)) (hi := b)
  rw [nI_toInt ha] at c
  exact c
theorem c_X4_withinW {l : Launch} {q : Int32} {N : Nat} (h8 : N ≤ 8) : Met l yX4_within wsX4_within (rmz 0 0) (sPre [.int q, .int (nI 0), .int (nI N - nI 1)]) (sPost (some (.int (z (isN N q))))) 0 0 (fun _ => False) := by
  have c := c_X4_within (l := l) (v := q) (lo := (nI 0)) (hi := (nI N - nI 1))
  rw [nI_toInt (by decide), many_2 (by omega)] at c
  exact c
theorem c_X4_withinS {l : Launch} {q : Int32}  : Met l yX4_within wsX4_within (rmz 0 0) (sPre [.int q, .int (-1), .int (nI 6)]) (sPost (some (.int (z (rg (-1) 6 q))))) 0 0 (fun _ => False) := by
  have c := c_X4_within (l := l) (v := q) (lo := (-1)) (hi := (nI 6))
  rw [nI_toInt (by decide)] at c
  exact c
set_option maxHeartbeats 1000000 in
set_option maxRecDepth 100000 in
theorem c_X4_finding {l : Launch} {D : va_G} {cy : Nat → ClassId} {ad : Nat → Nat} {p0 : Nat → Int32} {p1 : Nat → Int32} {p2 : Nat → Int32} {ke : Int32} {tb : Nat → Int32} {t1 : Int32} {t2 : Int32} {t3 : Int32} {t4 : Int32} {t5 : Int32} {sb : Nat → Int32} {ss : Nat → Int32} {sw : Nat → Nat → Int64} {fd : Nat → Int32} {t : Nat} (ht : t < 7) : Met l yX4_finding wsX4_finding (rmz 0 0) (wPre D (cK D cy ad) (cw cy ad (rr p0 p1 p2) ke tb t1 t2 t3 t4 t5 sb ss sw fd) [.ref (ad 0), .int (nI t)]) (wPost D (cw cy ad (rr p0 p1 p2) ke tb t1 t2 t3 t4 t5 sb ss sw (upd fd t (fd t + nI 1))) (some (.int (-1000000001 - nI t))) (cA ad)) 0 0 (cA ad) := by
  refine wq_entry rfl rfl (Nat.le_of_ble_eq_true rfl) ?_
  intro p e s0 m args below meth c S hr hlocks hK hP ls hl
  have S : CallFix p m c cX4_finding 2 s0 args wsX4_finding RX4 := S
  obtain ⟨hx, hb, hml, hown, hts⟩ := id S
  have hin4 : ∀ w ∈ wsX40, w ∈ wsX4_finding := fun w h => List.mem_cons_of_mem _ (List.mem_append_right _ h)
  have hS : va_S (cA ad) s0.heap s0.heap [] := va_S.rf
  have hl : lv_has ls 2 [(0, .ref (ad 0)), (1, .int (nI t))] := hl
  generalize hQ : MQ below (wPost D (cw cy ad (rr p0 p1 p2) ke tb t1 t2 t3 t4 t5 sb ss sw (upd fd t (fd t + nI 1))) (some (.int (-1000000001 - nI t))) (cA ad)) args s0 0 0 (cA ad) = Q
  refine lv_aload_n hx hb dX4_finding_0 rfl (lv_at hl 0 rfl) ?_
  refine c_get (v := .ref (ad 42)) (C := RX4) (T := TX4) (N := 7) hx hb hts hin4 hown hK hP (0) (by decide) cE_0 rfl 6 (by decide) (Or.inl (hts (.fieldLink RX4 39 "PennyRoad" "found" "[I") (by decide +kernel))) rfl dX4_finding_1 ?_
  refine lv_iload_n hx hb dX4_finding_4 rfl (lv_at hl 1 rfl) ?_
  refine lv_dup2_11 hx hb dX4_finding_5 rfl rfl ?_
  refine c_aldF hx hb hK hP (by omega) dX4_finding_6 ?_
  refine lv_iconst (v := nI 1) hx hb dX4_finding_7 (by decide) ?_
  refine lv_iadd hx hb dX4_finding_8 ?_
  refine c_astF hx hb hK hP hS (by omega) dX4_finding_9 (fun H locs hP hS => ?_)
  refine lv_ldc (v := (-1000000001)) hx hb hown (hts (.constant RX4 215 ((-1000000001))) (by decide +kernel)) dX4_finding_10 ?_
  refine lv_iload_n hx hb dX4_finding_12 rfl (lv_at hl 1 rfl) ?_
  refine lv_isub hx hb dX4_finding_13 ?_
  subst hQ
  exact wq_ri hx hb hr hlocks hP hS dX4_finding_14 (by first | with_reducible rfl | (simp only [Bool.false_eq_true, Bool.true_eq_false, and_true, true_and, false_and, and_false, and_self, not_true_eq_false, not_false_eq_true, if_true, if_false, reduceIte, or_false, false_or, true_or, or_true]; done) | (subst_vars; first | with_reducible rfl | (simp only [Bool.false_eq_true, Bool.true_eq_false, and_true, true_and, false_and, and_false, and_self, not_true_eq_false, not_false_eq_true, if_true, if_false, reduceIte, or_false, false_or, true_or, or_true]; done)) | contradiction | rfl) (by first | with_reducible rfl | (simp only [Bool.false_eq_true, Bool.true_eq_false, and_true, true_and, false_and, and_false, and_self, not_true_eq_false, not_false_eq_true, if_true, if_false, reduceIte, or_false, false_or, true_or, or_true]; done) | (subst_vars; first | with_reducible rfl | (simp only [Bool.false_eq_true, Bool.true_eq_false, and_true, true_and, false_and, and_false, and_self, not_true_eq_false, not_false_eq_true, if_true, if_false, reduceIte, or_false, false_or, true_or, or_true]; done)) | contradiction | rfl)
theorem i_X4_finding : ciOk yX4_finding cX4_finding 2 (some .int) wsX4_finding 1 := ⟨⟨_, rfl⟩, by decide +kernel⟩
set_option maxHeartbeats 1000000 in
set_option maxRecDepth 100000 in
theorem c_X4_isThere {l : Launch} {D : va_G} {cy : Nat → ClassId} {ad : Nat → Nat} {p0 : Nat → Int32} {p1 : Nat → Int32} {p2 : Nat → Int32} {ke : Int32} {tb : Nat → Int32} {t1 : Int32} {t2 : Int32} {t3 : Int32} {t4 : Int32} {t5 : Int32} {sb : Nat → Int32} {ss : Nat → Int32} {sw : Nat → Nat → Int64} {fd : Nat → Int32} {q : Int32} {N : Nat} (hN : p0 0 = nI N) (h8 : N ≤ 8) : Met l yX4_isThere wsX4_isThere (rmz 1 22) (wPre D (cK D cy ad) (cw cy ad (rr p0 p1 p2) ke tb t1 t2 t3 t4 t5 sb ss sw fd) [.ref (ad 0), .int (q)]) (wPost D (cw cy ad (rr p0 p1 p2) ke tb t1 t2 t3 t4 t5 sb ss sw fd) (some (.int (z (isN N q)))) (cA ad)) 0 0 (cA ad) := by
  refine wq_entry rfl rfl (Nat.le_of_ble_eq_true rfl) ?_
  intro p e s0 m args below meth c S hr hlocks hK hP ls hl
  have S : CallFix p m c cX4_isThere 2 s0 args wsX4_isThere RX4 := S
  obtain ⟨hx, hb, hml, hown, hts⟩ := id S
  have hin4 : ∀ w ∈ wsX40, w ∈ wsX4_isThere := fun w h => List.mem_cons_of_mem _ (List.mem_append_left _ (List.mem_append_right _ h))
  have hin0 : ∀ w ∈ wsX00, w ∈ wsX4_isThere := fun w h => List.mem_cons_of_mem _ (List.mem_append_right _ h)
  have hS : va_S (cA ad) s0.heap s0.heap [] := va_S.rf
  have hl : lv_has ls 2 [(0, .ref (ad 0)), (1, .int (q))] := hl
  generalize hQ : MQ below (wPost D (cw cy ad (rr p0 p1 p2) ke tb t1 t2 t3 t4 t5 sb ss sw fd) (some (.int (z (isN N q)))) (cA ad)) args s0 0 0 (cA ad) = Q
  refine lv_iload_n hx hb dX4_isThere_0 rfl (lv_at hl 1 rfl) ?_
  refine lv_iconst (v := nI 0) hx hb dX4_isThere_1 (by decide) ?_
  refine lv_aload_n hx hb dX4_isThere_2 rfl (lv_at hl 0 rfl) ?_
  refine c_get (v := .ref (ad (1 + 10 * 0))) (C := RX4) (T := TX4) (N := 7) hx hb hts hin4 hown hK hP (0) (by decide) cE_0 rfl 0 (by decide) (Or.inl (hts (.fieldLink RX4 10 "PennyRoad" "present" "LPennyRoad$Road;") (by decide +kernel))) rfl dX4_isThere_3 ?_
  refine c_get (v := .int (p0 0)) (C := RX0) (T := TX0) (N := 6) hx hb hts hin0 hown hK hP (1 + 10 * 0) (by decide) (cE_rd (by decide)) rfl 4 (by decide) (Or.inr (c_nest hK 25 rfl)) rfl dX4_isThere_6 ?_
  refine lv_top hN ?_
  refine lv_iconst (v := nI 1) hx hb dX4_isThere_9 (by decide) ?_
  refine lv_isub hx hb dX4_isThere_10 ?_
  refine sq_S S (c_X4_withinW h8) gX4_isThere_X4_within i_X4_within ⟨Nat.le_of_ble_eq_true rfl, Nat.le_of_ble_eq_true rfl⟩ rfl hl.1 (As := [.int (q), .int (nI 0), .int ((nI N) - (nI 1))]) (rest := []) (st1 := [.int (z (isN N (q)))]) rfl rfl (Nat.le_of_ble_eq_true rfl) ⟨Nat.le_of_ble_eq_true rfl, Nat.le_of_ble_eq_true rfl⟩ dX4_isThere_11 ?_
  subst hQ
  exact wq_rz hx hb hr hlocks hP hS dX4_isThere_14 z_01 (by first | with_reducible rfl | (simp only [Bool.false_eq_true, Bool.true_eq_false, and_true, true_and, false_and, and_false, and_self, not_true_eq_false, not_false_eq_true, if_true, if_false, reduceIte, or_false, false_or, true_or, or_true]; done) | (subst_vars; first | with_reducible rfl | (simp only [Bool.false_eq_true, Bool.true_eq_false, and_true, true_and, false_and, and_false, and_self, not_true_eq_false, not_false_eq_true, if_true, if_false, reduceIte, or_false, false_or, true_or, or_true]; done)) | contradiction | rfl) rfl
theorem i_X4_isThere : ciOk yX4_isThere cX4_isThere 2 (some .boolean) wsX4_isThere 1 := ⟨⟨_, rfl⟩, by decide +kernel⟩
set_option maxHeartbeats 1000000 in
set_option maxRecDepth 100000 in
theorem c_X4_areTwo {l : Launch} {D : va_G} {cy : Nat → ClassId} {ad : Nat → Nat} {p0 : Nat → Int32} {p1 : Nat → Int32} {p2 : Nat → Int32} {ke : Int32} {tb : Nat → Int32} {t1 : Int32} {t2 : Int32} {t3 : Int32} {t4 : Int32} {t5 : Int32} {sb : Nat → Int32} {ss : Nat → Int32} {sw : Nat → Nat → Int64} {fd : Nat → Int32} {q : Int32} {o : Int32} {N : Nat} (hN : p0 0 = nI N) (h8 : N ≤ 8) : Met l yX4_areTwo wsX4_areTwo (rmz 2 43) (wPre D (cK D cy ad) (cw cy ad (rr p0 p1 p2) ke tb t1 t2 t3 t4 t5 sb ss sw fd) [.ref (ad 0), .int (q), .int (o)]) (wPost D (cw cy ad (rr p0 p1 p2) ke tb t1 t2 t3 t4 t5 sb ss sw fd) (some (.int (z (twoP N q o)))) (cA ad)) 0 0 (cA ad) := by
  refine wq_entry rfl rfl (Nat.le_of_ble_eq_true rfl) ?_
  intro p e s0 m args below meth c S hr hlocks hK hP ls hl
  have S : CallFix p m c cX4_areTwo 3 s0 args wsX4_areTwo RX4 := S
  obtain ⟨hx, hb, hml, hown, hts⟩ := id S
  have hin4 : ∀ w ∈ wsX40, w ∈ wsX4_areTwo := fun w h => List.mem_cons_of_mem _ (List.mem_append_left _ (List.mem_append_right _ h))
  have hin0 : ∀ w ∈ wsX00, w ∈ wsX4_areTwo := fun w h => List.mem_cons_of_mem _ (List.mem_append_right _ h)
  have hS : va_S (cA ad) s0.heap s0.heap [] := va_S.rf
  have hl : lv_has ls 3 [(0, .ref (ad 0)), (1, .int (q)), (2, .int (o))] := hl
  generalize hQ : MQ below (wPost D (cw cy ad (rr p0 p1 p2) ke tb t1 t2 t3 t4 t5 sb ss sw fd) (some (.int (z (twoP N q o)))) (cA ad)) args s0 0 0 (cA ad) = Q
  refine lv_aload_n hx hb dX4_areTwo_0 rfl (lv_at hl 0 rfl) ?_
  refine lv_iload_n hx hb dX4_areTwo_1 rfl (lv_at hl 1 rfl) ?_
  refine wq_V S cK_ok hK hP hS (c_X4_isThere hN h8) gX4_areTwo_X4_isThere i_X4_isThere rfl (c_rec hK hP 0 (by decide) cE_0 rfl) ⟨Nat.le_of_ble_eq_true rfl, Nat.le_of_ble_eq_true rfl⟩ rfl hl.1 (As := [.int (q)]) (rest := []) (st1 := [.int (z (isN N (q)))]) rfl rfl (Nat.le_of_ble_eq_true rfl) ⟨Nat.le_of_ble_eq_true rfl, Nat.le_of_ble_eq_true rfl⟩ dX4_areTwo_2 (fun H locs hP hS => ?_)
  refine lvz_if_eq (tgt := 25) hx hb dX4_areTwo_5 (by decide) (fun c_5 => ?_) (fun c_5 => ?_)
  · skip
    refine lv_iconst (v := nI 0) hx hb dX4_areTwo_25 (by decide) ?_
    subst hQ
    exact wq_rz hx hb hr hlocks hP hS dX4_areTwo_26 (by subst_vars; first | (left; rfl) | (right; rfl) | (split <;> simp)) (by refine rvI ?_; simp [z, twoP, *]) rfl
  · skip
    refine lv_aload_n hx hb dX4_areTwo_8 rfl (lv_at hl 0 rfl) ?_
    refine lv_iload_n hx hb dX4_areTwo_9 rfl (lv_at hl 2 rfl) ?_
    refine wq_V S cK_ok hK hP hS (c_X4_isThere hN h8) gX4_areTwo_X4_isThere i_X4_isThere rfl (c_rec hK hP 0 (by decide) cE_0 rfl) ⟨Nat.le_of_ble_eq_true rfl, Nat.le_of_ble_eq_true rfl⟩ rfl hl.1 (As := [.int (o)]) (rest := []) (st1 := [.int (z (isN N (o)))]) rfl rfl (Nat.le_of_ble_eq_true rfl) ⟨Nat.le_of_ble_eq_true rfl, Nat.le_of_ble_eq_true rfl⟩ dX4_areTwo_10 (fun H locs hP hS => ?_)
    refine lvz_if_eq (tgt := 25) hx hb dX4_areTwo_13 (by decide) (fun c_13 => ?_) (fun c_13 => ?_)
    · skip
      refine lv_iconst (v := nI 0) hx hb dX4_areTwo_25 (by decide) ?_
      subst hQ
      exact wq_rz hx hb hr hlocks hP hS dX4_areTwo_26 (by subst_vars; first | (left; rfl) | (right; rfl) | (split <;> simp)) (by refine rvI ?_; simp [z, twoP, *]) rfl
    · skip
      refine lv_iload_n hx hb dX4_areTwo_16 rfl (lv_at hl 1 rfl) ?_
      refine lv_iload_n hx hb dX4_areTwo_17 rfl (lv_at hl 2 rfl) ?_
      refine lv_icmp_eq (tgt := 25) hx hb dX4_areTwo_18 (by decide) (fun c_18 => ?_) (fun c_18 => ?_)
      · skip
        refine lv_iconst (v := nI 0) hx hb dX4_areTwo_25 (by decide) ?_
        subst hQ
        exact wq_rz hx hb hr hlocks hP hS dX4_areTwo_26 (by subst_vars; first | (left; rfl) | (right; rfl) | (split <;> simp)) (by refine rvI ?_; simp [z, twoP, *]) rfl
      · skip
        refine lv_iconst (v := nI 1) hx hb dX4_areTwo_21 (by decide) ?_
        refine lv_goto (tgt := 26) hx hb dX4_areTwo_22 (by decide) ?_
        subst hQ
        exact wq_rz hx hb hr hlocks hP hS dX4_areTwo_26 (by subst_vars; first | (left; rfl) | (right; rfl) | (split <;> simp)) (by refine rvI ?_; simp [z, twoP, *]) rfl
theorem i_X4_areTwo : ciOk yX4_areTwo cX4_areTwo 3 (some .boolean) wsX4_areTwo 2 := ⟨⟨_, rfl⟩, by decide +kernel⟩
set_option maxHeartbeats 1000000 in
set_option maxRecDepth 100000 in
theorem c_X4_isSheet {l : Launch} {q : Int32} : Met l yX4_isSheet wsX4_isSheet (rmz 1 22) (sPre [.int (q)]) (sPost (some (.int (z (rg 0 3 q))))) 0 0 (fun _ => False) := by
  refine sq_entry rfl rfl (Nat.le_of_ble_eq_true rfl) ?_
  intro p e s0 m args below meth c S hr hlocks ls hl
  have S : CallFix p m c cX4_isSheet 1 s0 args wsX4_isSheet RX4 := S
  obtain ⟨hx, hb, hml, hown, hts⟩ := id S
  have hl : lv_has ls 1 [(0, .int (q))] := hl
  generalize hQ : MQ below (sPost (some (.int (z (rg 0 3 q))))) args s0 0 0 (fun _ => False) = Q
  refine lv_iload_n hx hb dX4_isSheet_0 rfl (lv_at hl 0 rfl) ?_
  refine lv_iconst (v := nI 0) hx hb dX4_isSheet_1 (by decide) ?_
  refine lv_iconst (v := nI 3) hx hb dX4_isSheet_2 (by decide) ?_
  refine sq_S S (c_X4_withinN (by decide) (by decide)) gX4_isSheet_X4_within i_X4_within ⟨Nat.le_of_ble_eq_true rfl, Nat.le_of_ble_eq_true rfl⟩ rfl hl.1 (As := [.int (q), .int (nI 0), .int (nI 3)]) (rest := []) (st1 := [.int (z (rg 0 3 (q)))]) rfl rfl (Nat.le_of_ble_eq_true rfl) ⟨Nat.le_of_ble_eq_true rfl, Nat.le_of_ble_eq_true rfl⟩ dX4_isSheet_3 ?_
  subst hQ
  exact sq_rz hx hb hr hlocks dX4_isSheet_6 z_01 (by first | with_reducible rfl | (simp only [Bool.false_eq_true, Bool.true_eq_false, and_true, true_and, false_and, and_false, and_self, not_true_eq_false, not_false_eq_true, if_true, if_false, reduceIte, or_false, false_or, true_or, or_true]; done) | (subst_vars; first | with_reducible rfl | (simp only [Bool.false_eq_true, Bool.true_eq_false, and_true, true_and, false_and, and_false, and_self, not_true_eq_false, not_false_eq_true, if_true, if_false, reduceIte, or_false, false_or, true_or, or_true]; done)) | contradiction | rfl)
theorem i_X4_isSheet : ciOk yX4_isSheet cX4_isSheet 1 (some .boolean) wsX4_isSheet 1 := ⟨⟨_, rfl⟩, by decide +kernel⟩
set_option maxHeartbeats 1000000 in
set_option maxRecDepth 100000 in
theorem c_X4_mostOfRoad {l : Launch} {q : Int32} : Met l yX4_mostOfRoad wsX4_mostOfRoad (rmz 0 0) (sPre [.int (q)]) (sPost (some (.int (mostR q)))) 0 0 (fun _ => False) := by
  refine sq_entry rfl rfl (Nat.le_of_ble_eq_true rfl) ?_
  intro p e s0 m args below meth c S hr hlocks ls hl
  have S : CallFix p m c cX4_mostOfRoad 1 s0 args wsX4_mostOfRoad RX4 := S
  obtain ⟨hx, hb, hml, hown, hts⟩ := id S
  have hl : lv_has ls 1 [(0, .int (q))] := hl
  generalize hQ : MQ below (sPost (some (.int (mostR q)))) args s0 0 0 (fun _ => False) = Q
  refine lv_iload_n hx hb dX4_mostOfRoad_0 rfl (lv_at hl 0 rfl) ?_
  refine lv_if_ne (tgt := 7) hx hb dX4_mostOfRoad_1 (by decide) (fun c_1 => ?_) (fun c_1 => ?_)
  · skip
    refine lv_iload_n hx hb dX4_mostOfRoad_7 rfl (lv_at hl 0 rfl) ?_
    refine lv_iconst (v := nI 1) hx hb dX4_mostOfRoad_8 (by decide) ?_
    have K_1 : ∀ (x_2 : Int32) (ls : Array Slot), x_2 = (if (q) = (nI 1) then (nI 20) else (nI 1)) → lv_has ls 1 [(0, .int (q))] → W p l e (rmz 0 0) s0 m args below meth c s0.heap [] 0 0 Q (F0 m 18 ls [.int (x_2)]) := by
      intro x_2 ls ex_2 hl
      subst hQ
      exact sq_ri hx hb hr hlocks dX4_mostOfRoad_18 (by first | with_reducible rfl | (simp only [mostR, if_neg c_1]; done) | (simp only [mostR, if_neg c_1, Bool.false_eq_true, Bool.true_eq_false, and_true, true_and, false_and, and_false, and_self, not_true_eq_false, not_false_eq_true, if_true, if_false, reduceIte, or_false, false_or, true_or, or_true]; done) | (subst_vars; first | with_reducible rfl | (simp only [mostR, if_neg c_1]; done) | (simp only [mostR, if_neg c_1, Bool.false_eq_true, Bool.true_eq_false, and_true, true_and, false_and, and_false, and_self, not_true_eq_false, not_false_eq_true, if_true, if_false, reduceIte, or_false, false_or, true_or, or_true]; done)) | contradiction | rfl)
    refine lv_icmp_ne (tgt := 17) hx hb dX4_mostOfRoad_9 (by decide) (fun c_9 => ?_) (fun c_9 => ?_)
    · skip
      refine lv_iconst (v := nI 1) hx hb dX4_mostOfRoad_17 (by decide) ?_
      exact K_1 (nI 1) ls (by simp only [if_neg c_9]) hl
    · skip
      refine lv_bipush (v := nI 20) hx hb dX4_mostOfRoad_12 (by decide) ?_
      refine lv_goto (tgt := 18) hx hb dX4_mostOfRoad_14 (by decide) ?_
      exact K_1 (nI 20) ls (by simp only [if_pos c_9]) hl
  · skip
    refine lv_ldc (v := nI 999999) hx hb hown (hts (.constant RX4 150 (nI 999999)) (by decide +kernel)) dX4_mostOfRoad_4 ?_
    subst hQ
    exact sq_ri hx hb hr hlocks dX4_mostOfRoad_6 (by first | with_reducible rfl | (simp only [mostR, if_pos c_1]; done) | (simp only [mostR, if_pos c_1, Bool.false_eq_true, Bool.true_eq_false, and_true, true_and, false_and, and_false, and_self, not_true_eq_false, not_false_eq_true, if_true, if_false, reduceIte, or_false, false_or, true_or, or_true]; done) | (subst_vars; first | with_reducible rfl | (simp only [mostR, if_pos c_1]; done) | (simp only [mostR, if_pos c_1, Bool.false_eq_true, Bool.true_eq_false, and_true, true_and, false_and, and_false, and_self, not_true_eq_false, not_false_eq_true, if_true, if_false, reduceIte, or_false, false_or, true_or, or_true]; done)) | contradiction | rfl)
theorem i_X4_mostOfRoad : ciOk yX4_mostOfRoad cX4_mostOfRoad 1 (some .int) wsX4_mostOfRoad 1 := ⟨⟨_, rfl⟩, by decide +kernel⟩
set_option maxHeartbeats 1000000 in
set_option maxRecDepth 100000 in
theorem c_X4_mostOfTrait {l : Launch} {q : Int32} : Met l yX4_mostOfTrait wsX4_mostOfTrait (rmz 0 0) (sPre [.int (q)]) (sPost (some (.int (mostF q)))) 0 0 (fun _ => False) := by
  refine sq_entry rfl rfl (Nat.le_of_ble_eq_true rfl) ?_
  intro p e s0 m args below meth c S hr hlocks ls hl
  have S : CallFix p m c cX4_mostOfTrait 1 s0 args wsX4_mostOfTrait RX4 := S
  obtain ⟨hx, hb, hml, hown, hts⟩ := id S
  have hl : lv_has ls 1 [(0, .int (q))] := hl
  generalize hQ : MQ below (sPost (some (.int (mostF q)))) args s0 0 0 (fun _ => False) = Q
  refine lv_iload_n hx hb dX4_mostOfTrait_0 rfl (lv_at hl 0 rfl) ?_
  by_cases c_1_1 : q = nI 1
  · skip
    refine lv_tableIn (tgt := 40) hx hb dX4_mostOfTrait_1 (by rw [c_1_1]; decide) (by rw [c_1_1]; decide) (by rw [c_1_1]; rfl) (by decide) ?_
    refine lv_bipush (v := nI 12) hx hb dX4_mostOfTrait_40 (by decide) ?_
    subst hQ
    exact sq_ri hx hb hr hlocks dX4_mostOfTrait_42 (by first | with_reducible rfl | (simp only [mostF, if_pos c_1_1]; done) | (simp only [mostF, if_pos c_1_1, Bool.false_eq_true, Bool.true_eq_false, and_true, true_and, false_and, and_false, and_self, not_true_eq_false, not_false_eq_true, if_true, if_false, reduceIte, or_false, false_or, true_or, or_true]; done) | (subst_vars; first | with_reducible rfl | (simp only [mostF, if_pos c_1_1]; done) | (simp only [mostF, if_pos c_1_1, Bool.false_eq_true, Bool.true_eq_false, and_true, true_and, false_and, and_false, and_self, not_true_eq_false, not_false_eq_true, if_true, if_false, reduceIte, or_false, false_or, true_or, or_true]; done)) | contradiction | rfl)
  by_cases c_1_2 : q = nI 2
  · skip
    refine lv_tableIn (tgt := 55) hx hb dX4_mostOfTrait_1 (by rw [c_1_2]; decide) (by rw [c_1_2]; decide) (by rw [c_1_2]; rfl) (by decide) ?_
    refine lv_iconst (v := nI 1) hx hb dX4_mostOfTrait_55 (by decide) ?_
    subst hQ
    exact sq_ri hx hb hr hlocks dX4_mostOfTrait_56 (by first | with_reducible rfl | (simp only [mostF, if_neg c_1_1, if_pos c_1_2]; done) | (simp only [mostF, if_neg c_1_1, if_pos c_1_2, Bool.false_eq_true, Bool.true_eq_false, and_true, true_and, false_and, and_false, and_self, not_true_eq_false, not_false_eq_true, if_true, if_false, reduceIte, or_false, false_or, true_or, or_true]; done) | (subst_vars; first | with_reducible rfl | (simp only [mostF, if_neg c_1_1, if_pos c_1_2]; done) | (simp only [mostF, if_neg c_1_1, if_pos c_1_2, Bool.false_eq_true, Bool.true_eq_false, and_true, true_and, false_and, and_false, and_self, not_true_eq_false, not_false_eq_true, if_true, if_false, reduceIte, or_false, false_or, true_or, or_true]; done)) | contradiction | rfl)
  by_cases c_1_3 : q = nI 3
  · skip
    refine lv_tableIn (tgt := 43) hx hb dX4_mostOfTrait_1 (by rw [c_1_3]; decide) (by rw [c_1_3]; decide) (by rw [c_1_3]; rfl) (by decide) ?_
    refine lv_bipush (v := nI 9) hx hb dX4_mostOfTrait_43 (by decide) ?_
    subst hQ
    exact sq_ri hx hb hr hlocks dX4_mostOfTrait_45 (by first | with_reducible rfl | (simp only [mostF, if_neg c_1_1, if_neg c_1_2, if_pos c_1_3]; done) | (simp only [mostF, if_neg c_1_1, if_neg c_1_2, if_pos c_1_3, Bool.false_eq_true, Bool.true_eq_false, and_true, true_and, false_and, and_false, and_self, not_true_eq_false, not_false_eq_true, if_true, if_false, reduceIte, or_false, false_or, true_or, or_true]; done) | (subst_vars; first | with_reducible rfl | (simp only [mostF, if_neg c_1_1, if_neg c_1_2, if_pos c_1_3]; done) | (simp only [mostF, if_neg c_1_1, if_neg c_1_2, if_pos c_1_3, Bool.false_eq_true, Bool.true_eq_false, and_true, true_and, false_and, and_false, and_self, not_true_eq_false, not_false_eq_true, if_true, if_false, reduceIte, or_false, false_or, true_or, or_true]; done)) | contradiction | rfl)
  by_cases c_1_4 : q = nI 4
  · skip
    refine lv_tableIn (tgt := 46) hx hb dX4_mostOfTrait_1 (by rw [c_1_4]; decide) (by rw [c_1_4]; decide) (by rw [c_1_4]; rfl) (by decide) ?_
    refine lv_bipush (v := nI 99) hx hb dX4_mostOfTrait_46 (by decide) ?_
    subst hQ
    exact sq_ri hx hb hr hlocks dX4_mostOfTrait_48 (by first | with_reducible rfl | (simp only [mostF, if_neg c_1_1, if_neg c_1_2, if_neg c_1_3, if_pos c_1_4]; done) | (simp only [mostF, if_neg c_1_1, if_neg c_1_2, if_neg c_1_3, if_pos c_1_4, Bool.false_eq_true, Bool.true_eq_false, and_true, true_and, false_and, and_false, and_self, not_true_eq_false, not_false_eq_true, if_true, if_false, reduceIte, or_false, false_or, true_or, or_true]; done) | (subst_vars; first | with_reducible rfl | (simp only [mostF, if_neg c_1_1, if_neg c_1_2, if_neg c_1_3, if_pos c_1_4]; done) | (simp only [mostF, if_neg c_1_1, if_neg c_1_2, if_neg c_1_3, if_pos c_1_4, Bool.false_eq_true, Bool.true_eq_false, and_true, true_and, false_and, and_false, and_self, not_true_eq_false, not_false_eq_true, if_true, if_false, reduceIte, or_false, false_or, true_or, or_true]; done)) | contradiction | rfl)
  by_cases c_1_5 : q = nI 5
  · skip
    refine lv_tableIn (tgt := 49) hx hb dX4_mostOfTrait_1 (by rw [c_1_5]; decide) (by rw [c_1_5]; decide) (by rw [c_1_5]; rfl) (by decide) ?_
    refine lv_bipush (v := nI 12) hx hb dX4_mostOfTrait_49 (by decide) ?_
    subst hQ
    exact sq_ri hx hb hr hlocks dX4_mostOfTrait_51 (by first | with_reducible rfl | (simp only [mostF, if_neg c_1_1, if_neg c_1_2, if_neg c_1_3, if_neg c_1_4, if_pos c_1_5]; done) | (simp only [mostF, if_neg c_1_1, if_neg c_1_2, if_neg c_1_3, if_neg c_1_4, if_pos c_1_5, Bool.false_eq_true, Bool.true_eq_false, and_true, true_and, false_and, and_false, and_self, not_true_eq_false, not_false_eq_true, if_true, if_false, reduceIte, or_false, false_or, true_or, or_true]; done) | (subst_vars; first | with_reducible rfl | (simp only [mostF, if_neg c_1_1, if_neg c_1_2, if_neg c_1_3, if_neg c_1_4, if_pos c_1_5]; done) | (simp only [mostF, if_neg c_1_1, if_neg c_1_2, if_neg c_1_3, if_neg c_1_4, if_pos c_1_5, Bool.false_eq_true, Bool.true_eq_false, and_true, true_and, false_and, and_false, and_self, not_true_eq_false, not_false_eq_true, if_true, if_false, reduceIte, or_false, false_or, true_or, or_true]; done)) | contradiction | rfl)
  by_cases c_1_6 : q = nI 6
  · skip
    refine lv_tableIn (tgt := 52) hx hb dX4_mostOfTrait_1 (by rw [c_1_6]; decide) (by rw [c_1_6]; decide) (by rw [c_1_6]; rfl) (by decide) ?_
    refine lv_ldc (v := nI 999999) hx hb hown (hts (.constant RX4 150 (nI 999999)) (by decide +kernel)) dX4_mostOfTrait_52 ?_
    subst hQ
    exact sq_ri hx hb hr hlocks dX4_mostOfTrait_54 (by first | with_reducible rfl | (simp only [mostF, if_neg c_1_1, if_neg c_1_2, if_neg c_1_3, if_neg c_1_4, if_neg c_1_5, if_pos c_1_6]; done) | (simp only [mostF, if_neg c_1_1, if_neg c_1_2, if_neg c_1_3, if_neg c_1_4, if_neg c_1_5, if_pos c_1_6, Bool.false_eq_true, Bool.true_eq_false, and_true, true_and, false_and, and_false, and_self, not_true_eq_false, not_false_eq_true, if_true, if_false, reduceIte, or_false, false_or, true_or, or_true]; done) | (subst_vars; first | with_reducible rfl | (simp only [mostF, if_neg c_1_1, if_neg c_1_2, if_neg c_1_3, if_neg c_1_4, if_neg c_1_5, if_pos c_1_6]; done) | (simp only [mostF, if_neg c_1_1, if_neg c_1_2, if_neg c_1_3, if_neg c_1_4, if_neg c_1_5, if_pos c_1_6, Bool.false_eq_true, Bool.true_eq_false, and_true, true_and, false_and, and_false, and_self, not_true_eq_false, not_false_eq_true, if_true, if_false, reduceIte, or_false, false_or, true_or, or_true]; done)) | contradiction | rfl)
  refine lv_tableOut (tgt := 55) hx hb dX4_mostOfTrait_1 (by have h0 : (q).toInt ≠ 1 := ne_int c_1_1; have h1 : (q).toInt ≠ 2 := ne_int c_1_2; have h2 : (q).toInt ≠ 3 := ne_int c_1_3; have h3 : (q).toInt ≠ 4 := ne_int c_1_4; have h4 : (q).toInt ≠ 5 := ne_int c_1_5; have h5 : (q).toInt ≠ 6 := ne_int c_1_6; omega) (by decide) ?_
  refine lv_iconst (v := nI 1) hx hb dX4_mostOfTrait_55 (by decide) ?_
  subst hQ
  exact sq_ri hx hb hr hlocks dX4_mostOfTrait_56 (by first | with_reducible rfl | (simp only [mostF, if_neg c_1_1, if_neg c_1_2, if_neg c_1_3, if_neg c_1_4, if_neg c_1_5, if_neg c_1_6]; done) | (simp only [mostF, if_neg c_1_1, if_neg c_1_2, if_neg c_1_3, if_neg c_1_4, if_neg c_1_5, if_neg c_1_6, Bool.false_eq_true, Bool.true_eq_false, and_true, true_and, false_and, and_false, and_self, not_true_eq_false, not_false_eq_true, if_true, if_false, reduceIte, or_false, false_or, true_or, or_true]; done) | (subst_vars; first | with_reducible rfl | (simp only [mostF, if_neg c_1_1, if_neg c_1_2, if_neg c_1_3, if_neg c_1_4, if_neg c_1_5, if_neg c_1_6]; done) | (simp only [mostF, if_neg c_1_1, if_neg c_1_2, if_neg c_1_3, if_neg c_1_4, if_neg c_1_5, if_neg c_1_6, Bool.false_eq_true, Bool.true_eq_false, and_true, true_and, false_and, and_false, and_self, not_true_eq_false, not_false_eq_true, if_true, if_false, reduceIte, or_false, false_or, true_or, or_true]; done)) | contradiction | rfl)
theorem i_X4_mostOfTrait : ciOk yX4_mostOfTrait cX4_mostOfTrait 1 (some .int) wsX4_mostOfTrait 1 := ⟨⟨_, rfl⟩, by decide +kernel⟩
