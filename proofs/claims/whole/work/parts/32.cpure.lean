/-! words of the class's road, held against the model's -/
def mn (x y : Int32) : Int32 := if y < x then y else x
def mx (x y : Int32) : Int32 := if x < y then y else x
theorem mn_hTo (x y : Int32) : mn x y = hTo x y := by
  unfold mn hTo
  by_cases h : y < x
  · rw [if_pos h, if_neg (Int32.not_le.mpr h)]
  · rw [if_neg h, if_pos (Int32.not_lt.mp h)]
theorem mn_hTo' (x y : Int32) : mn x y = hTo y x := by
  unfold mn hTo
  by_cases h : y < x
  · rw [if_pos h, if_pos (Int32.le_of_lt h)]
  · rw [if_neg h]
    by_cases h2 : y ≤ x
    · rw [if_pos h2]
      exact Int32.le_antisymm (Int32.not_lt.mp h) h2
    · rw [if_neg h2]
theorem mx_0 (y : Int32) : mx (nI 0) y = if 0 ≤ y then y else nI 0 := by
  unfold mx
  by_cases h : nI 0 < y
  · rw [if_pos h, if_pos (show (0 : Int32) ≤ y from Int32.le_of_lt h)]
  · rw [if_neg h]
    by_cases h2 : 0 ≤ y
    · rw [if_pos h2]
      exact (Int32.le_antisymm (Int32.not_lt.mp h) h2).symm
    · rw [if_neg h2]
section JM
variable {p : Program} {l : Launch} {e : Env} {R : Room} {s : State} {m : MethodId} {args : Array Value} {below : List Frame} {meth : Method} {c : Code} {H : Heap} {locs : List Loc} {cells slots : Nat} {Q : State → Prop}
variable {cc : ByteArray} {pc : Nat} {ls : Array Slot} {rest : List Value} {own : String} {index : Nat} {x y : Int32}
theorem jm_min (hexec : p.tables.exec = Jvm.exec) (hb : c.code = cc) (hml : c.maxLocals = ls.size) (hown : s.vm.findClass own = some m.cls) (hlink : (Cond.methodLink own index Lib.Math.min.name).before args s = true) (hstat : (Cond.static Lib.Math.min.name).before args s = true) (hini : (Cond.initialized "java/lang/Math").before args s = true) (hcode : (Cond.code Lib.Math.min.name Lib.Math.min.code 2 (some .int)).before args s = true)
    (hframes : 1 ≤ R.frames) (hlocals : (rest.map fun v => v.category).sum + 13 ≤ R.locals) (hc : cells ≤ R.cells ∧ slots ≤ R.slots) (hdg : decode cc pc = .ok (.invokestatic index, 3)) (kk : W p l e R s m args below meth c H locs cells slots Q (F0 m (pc + 3) ls (.int (mn x y) :: rest))) : W p l e R s m args below meth c H locs cells slots Q (F0 m pc ls (.int y :: .int x :: rest)) :=
  va_mmin hexec hb hml hown hlink hstat hini hcode hframes hlocals hc.1 hc.2 hdg kk
theorem jm_max (hexec : p.tables.exec = Jvm.exec) (hb : c.code = cc) (hml : c.maxLocals = ls.size) (hown : s.vm.findClass own = some m.cls) (hlink : (Cond.methodLink own index Lib.Math.max.name).before args s = true) (hstat : (Cond.static Lib.Math.max.name).before args s = true) (hini : (Cond.initialized "java/lang/Math").before args s = true) (hcode : (Cond.code Lib.Math.max.name Lib.Math.max.code 2 (some .int)).before args s = true)
    (hframes : 1 ≤ R.frames) (hlocals : (rest.map fun v => v.category).sum + 13 ≤ R.locals) (hc : cells ≤ R.cells ∧ slots ≤ R.slots) (hdg : decode cc pc = .ok (.invokestatic index, 3)) (kk : W p l e R s m args below meth c H locs cells slots Q (F0 m (pc + 3) ls (.int (mx x y) :: rest))) : W p l e R s m args below meth c H locs cells slots Q (F0 m pc ls (.int y :: .int x :: rest)) :=
  va_mmax hexec hb hml hown hlink hstat hini hcode hframes hlocals hc.1 hc.2 hdg kk
end JM
def farF (sg : Nat → Int32) (i : Nat) : Int32 := if sg (5 + 8 * i + 2) = nI 1 then nI 12 - sg (5 + 8 * i + 1) else sg (5 + 8 * i + 1)
def compL (sg : Nat → Int32) (q : Int32) : Nat → Nat → Nat → Nat
  | 0, _, n => n
  | m + 1, j, n => compL sg q m (j + 1) (if sg (5 + 8 * j + 1) = q then n + 1 else n)
theorem compL_le {sg : Nat → Int32} {q : Int32} : ∀ (m j n : Nat), compL sg q m j n ≤ n + m
  | 0, _, n => Nat.le_refl n
  | m + 1, j, n => by
    unfold compL
    split
    · have := compL_le (sg := sg) (q := q) m (j + 1) (n + 1); omega
    · have := compL_le (sg := sg) (q := q) m (j + 1) n; omega
def paidC (sg : Nat → Int32) (i : Nat) : Nat → Int32 :=
  let paid := mn (payF sg i) (sg 2)
  let s1 := upd sg 2 (sg 2 - paid)
  let s2 := upd s1 (5 + 8 * i + 6) (mn (nI 999999) (s1 (5 + 8 * i + 6) + paid))
  upd s2 (5 + 8 * i + 3) (mx (nI 0) (s2 (5 + 8 * i + 3) - wearF s2 i))
def arrC (sg : Nat → Int32) (i : Nat) : Nat → Int32 :=
  let a1 := if sg (5 + 8 * i + 3) ≤ 0 then sg else paidC sg i
  let a2 := upd a1 (5 + 8 * i + 5) (nI 0)
  upd a2 (5 + 8 * i + 2) (nI 1 - a2 (5 + 8 * i + 2))
theorem paidC_eq (sg : Nat → Int32) (i : Nat) : paidC sg i = paidF sg i := by
  unfold paidC paidF
  simp only [mn_hTo (payF sg i), mn_hTo' (nI 999999), mx_0]
theorem arrC_eq (sg : Nat → Int32) (i : Nat) : arrC sg i = arrF sg i := by
  unfold arrC arrF
  rw [paidC_eq]
def goC0 (sg : Nat → Int32) (N i : Nat) : Nat → Int32 :=
  let by_ := mn (paceF sg N i) (farF sg i)
  let s1 := upd sg (5 + 8 * i + 1) (sg (5 + 8 * i + 1) + (if sg (5 + 8 * i + 2) = nI 1 then by_ else -by_))
  let s2 := upd s1 (5 + 8 * i + 5) (mn (nI 12) (s1 (5 + 8 * i + 5) + by_))
  let s3 := upd s2 (5 + 8 * i + 4) (mn (nI 99) (s2 (5 + 8 * i + 4) + nI 1))
  if s3 (5 + 8 * i + 1) = nI 6 then upd s3 (5 + 8 * i + 4) (nI 0) else s3
def goC (sg : Nat → Int32) (N i : Nat) : Nat → Int32 := if farF (goC0 sg N i) i = 0 then arrF (goC0 sg N i) i else goC0 sg N i
theorem goC0_eq (sg : Nat → Int32) (N i : Nat) : goC0 sg N i = goF sg N i := by
  unfold goC0 goF byF
  simp only [mn_hTo (paceF sg N i), mn_hTo' (nI 12), mn_hTo' (nI 99)]
  rw [show farF sg i = (if sg (5 + 8 * i + 2) = nI 1 then nI 12 - sg (5 + 8 * i + 1) else sg (5 + 8 * i + 1)) from rfl]
  generalize hTo (paceF sg N i) (if sg (5 + 8 * i + 2) = nI 1 then nI 12 - sg (5 + 8 * i + 1) else sg (5 + 8 * i + 1)) = b
  generalize upd sg (5 + 8 * i + 1) (sg (5 + 8 * i + 1) + (if sg (5 + 8 * i + 2) = nI 1 then b else -b)) = s1
  generalize upd s1 (5 + 8 * i + 5) (hTo (s1 (5 + 8 * i + 5) + b) (nI 12)) = s2
  rw [upd_n (show 5 + 8 * i + 1 ≠ 5 + 8 * i + 4 by omega)]
  by_cases h : s2 (5 + 8 * i + 1) = nI 6
  · rw [if_pos h, if_pos h, upd_upd]
  · rw [if_neg h, if_neg h]
theorem goF_up (sg : Nat → Int32) (N i : Nat) : goF sg N i (5 + 8 * i + 2) = sg (5 + 8 * i + 2) := by
  unfold goF
  rw [upd_n (by omega), upd_n (by omega), upd_n (by omega)]
theorem sub_z (x : Int32) : nI 12 - x = 0 ↔ x = nI 12 := by
  constructor
  · intro h
    have := congrArg (fun y => y + x) h
    simp only [Int32.sub_add_cancel, Int32.zero_add] at this
    exact this.symm
  · intro h
    rw [h, Int32.sub_self]
theorem goC_eq (sg : Nat → Int32) (N i : Nat) : goC sg N i = goesF sg N i := by
  unfold goC goesF
  rw [goC0_eq]
  have hup := goF_up sg N i
  generalize goF sg N i = g at hup ⊢
  have key : (farF g i = 0) ↔ (g (5 + 8 * i + 1) = (if sg (5 + 8 * i + 2) = nI 1 then nI 12 else nI 0)) := by
    unfold farF
    rw [hup]
    by_cases h : sg (5 + 8 * i + 2) = nI 1
    · rw [if_pos h, if_pos h, sub_z]
    · rw [if_neg h, if_neg h, nI_0]
  by_cases h : farF g i = 0
  · rw [if_pos h, if_pos (key.mp h)]
  · rw [if_neg h, if_neg (fun q => h (key.mpr q))]
def traitF (sg : Nat → Int32) (i : Nat) (q : Int32) : Int32 := if q = nI 1 then sg (5 + 8 * i + 1) else if q = nI 2 then sg (5 + 8 * i + 2) else if q = nI 3 then sg (5 + 8 * i + 3) else if q = nI 4 then sg (5 + 8 * i + 4) else if q = nI 5 then sg (5 + 8 * i + 5) else if q = nI 6 then sg (5 + 8 * i + 6) else if q = nI 7 then sg (5 + 8 * i + 7) else sg (5 + 8 * i + 0)
def giveF (sg : Nat → Int32) (i : Nat) (q v : Int32) : Nat → Int32 := if q = nI 1 then upd sg (5 + 8 * i + 1) v else if q = nI 2 then upd sg (5 + 8 * i + 2) v else if q = nI 3 then upd sg (5 + 8 * i + 3) v else if q = nI 4 then upd sg (5 + 8 * i + 4) v else if q = nI 5 then upd sg (5 + 8 * i + 5) v else if q = nI 6 then upd sg (5 + 8 * i + 6) v else if q = nI 7 then upd sg (5 + 8 * i + 7) v else sg
def startF (sg : Nat → Int32) (i : Nat) (kd ml : Int32) : Nat → Int32 := upd (upd (upd (upd (upd (upd (upd (upd sg (5 + 8 * i + 0) kd) (5 + 8 * i + 1) ml) (5 + 8 * i + 2) (nI 1)) (5 + 8 * i + 3) (nI 5)) (5 + 8 * i + 4) (nI 0)) (5 + 8 * i + 5) (nI 0)) (5 + 8 * i + 6) (nI 0)) (5 + 8 * i + 7) (nI 0)
def likeF (sg o : Nat → Int32) (i : Nat) : Nat → Int32 := upd (upd (upd (upd (upd (upd (upd (upd sg (5 + 8 * i + 0) (o (5 + 8 * i + 0))) (5 + 8 * i + 1) (o (5 + 8 * i + 1))) (5 + 8 * i + 2) (o (5 + 8 * i + 2))) (5 + 8 * i + 3) (o (5 + 8 * i + 3))) (5 + 8 * i + 4) (o (5 + 8 * i + 4))) (5 + 8 * i + 5) (o (5 + 8 * i + 5))) (5 + 8 * i + 6) (o (5 + 8 * i + 6))) (5 + 8 * i + 7) (o (5 + 8 * i + 7))
theorem startF_0 {sg : Nat → Int32} {i : Nat} {kd ml : Int32} : startF sg i kd ml 0 = sg 0 := by
  unfold startF
  rw [upd_0 (by omega), upd_0 (by omega), upd_0 (by omega), upd_0 (by omega), upd_0 (by omega), upd_0 (by omega), upd_0 (by omega), upd_0 (by omega)]
theorem cwsg {cy : Nat → ClassId} {ad : Nat → Nat} {rd : Nat → Nat → Int32} {ke : Int32} {tb : Nat → Int32} {t1 t2 t3 t4 t5 : Int32} {sb ss : Nat → Int32} {sw : Nat → Nat → Int64} {fd : Nat → Int32} {r : Nat} {a b : Nat → Int32} (h : a = b) : cw cy ad (va_up rd r a) ke tb t1 t2 t3 t4 t5 sb ss sw fd = cw cy ad (va_up rd r b) ke tb t1 t2 t3 t4 t5 sb ss sw fd := by rw [h]
