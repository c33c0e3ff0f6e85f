/-! the class's tape: what it looks at -/
def bu (tb : Nat → Int32) : Nat → Int32 := fun k => tb k &&& nI 255
theorem bu_in {tb : Nat → Int32} {T k : Nat} (h : k < T) : bAt (bu tb) T k = tb k &&& nI 255 := if_pos h
def endW (tp : Nat → Int32) (T : Nat) : Nat → Nat → Nat
  | 0, u => u
  | n + 1, u => if isLt tp T u = true then endW tp T n (u + 1) else u
def endD (tp : Nat → Int32) (T : Nat) : Nat → Nat → Nat
  | 0, u => u
  | n + 1, u => if isDg tp T u = true then endD tp T n (u + 1) else u
theorem lt_dg {tp : Nat → Int32} {T k : Nat} (h : isLt tp T k = true) : ¬ isDg tp T k = true := by
  intro h2
  have h := rg_iff.mp h
  have h2 := rg_iff.mp h2
  omega
theorem endF_w {tp : Nat → Int32} {T : Nat} : ∀ (n u : Nat), endF tp T true false n u = endW tp T n u
  | 0, _ => rfl
  | n + 1, u => by
    unfold endF endW
    rw [endF_w n (u + 1), Bool.true_and, Bool.false_and, Bool.or_false]
theorem endF_d {tp : Nat → Int32} {T : Nat} : ∀ (n u : Nat), endF tp T false true n u = endD tp T n u
  | 0, _ => rfl
  | n + 1, u => by
    unfold endF endD
    rw [endF_d n (u + 1), Bool.true_and, Bool.false_and, Bool.false_or]
theorem endF_n {tp : Nat → Int32} {T : Nat} : ∀ (n u : Nat), endF tp T false false n u = u
  | 0, _ => rfl
  | n + 1, u => by
    unfold endF
    rw [Bool.false_and, Bool.false_and, Bool.or_false, if_neg Bool.false_ne_true]
theorem tokB_w {tp : Nat → Int32} {T t f : Nat} (hE : tokA tp T t = f) (hf : f < T) (h : isLt tp T f = true) : tokB tp T t = endW tp T (T - f) f := by
  unfold tokB tokC
  rw [hE, if_pos hf, h, Bool.eq_false_iff.mpr (lt_dg h), endF_w, show T - f = (T - (f + 1)) + 1 by omega]
  show _ = if isLt tp T f = true then _ else _
  rw [if_pos h]
theorem tokB_d {tp : Nat → Int32} {T t f : Nat} (hE : tokA tp T t = f) (hf : f < T) (h : ¬ isLt tp T f = true) (h2 : isDg tp T f = true) : tokB tp T t = endD tp T (T - f) f := by
  unfold tokB tokC
  rw [hE, if_pos hf, h2, Bool.eq_false_iff.mpr h, endF_d, show T - f = (T - (f + 1)) + 1 by omega]
  show _ = if isDg tp T f = true then _ else _
  rw [if_pos h2]
theorem tokB_s {tp : Nat → Int32} {T t f : Nat} (hE : tokA tp T t = f) (hf : f < T) (h : ¬ isLt tp T f = true) (h2 : ¬ isDg tp T f = true) : tokB tp T t = f + 1 := by
  unfold tokB tokC
  rw [hE, if_pos hf, Bool.eq_false_iff.mpr h2, Bool.eq_false_iff.mpr h, endF_n]
theorem tokB_e {tp : Nat → Int32} {T t f : Nat} (hE : tokA tp T t = f) (hf : f = T) : tokB tp T t = f := by
  unfold tokB tokC
  rw [hE, if_neg (by omega), show T - f = 0 by omega]
  rfl
def sortF (tp : Nat → Int32) (T f : Nat) : Int32 := if f < T then (if isLt tp T f = true then nI 1 else if isDg tp T f = true then nI 2 else if bAt tp T f = nI 59 then nI 3 else nI 4) else nI 0
def numC (tp : Nat → Int32) (T f : Nat) : Nat → Int32
  | 0 => nI 0
  | m + 1 => mn (nI 10000) (nI 10 * numC tp T f m + bAt tp T (f + m) - nI 48)
theorem dg_T {tp : Nat → Int32} {T k : Nat} (h : ¬ k < T) : ¬ isDg tp T k = true := by
  intro h2
  unfold isDg at h2
  rw [bAt_T h] at h2
  exact absurd h2 (by decide)
def numX (tp : Nat → Int32) (T f u : Nat) (v : Int32) : Int32 := if isDg tp T f = true then numC tp T f (u - f) else v
