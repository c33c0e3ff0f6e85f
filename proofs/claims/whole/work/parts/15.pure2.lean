/-! words of the model's sheets, images, tape -/
def bitsOk (o : Int32) : Bool := decide (o = 0) || (decide (o = nI 8) || (decide (o = nI 16) || decide (o = nI 64)))
def zrJ (nu : Nat → Int64) (s j : Nat) : Nat → Int64 := fun k => if 40 * s ≤ k ∧ k < 40 * s + j then 0 else nu k
theorem zrJ_0 {nu : Nat → Int64} {s : Nat} : zrJ nu s 0 = nu := by funext k; unfold zrJ; rw [if_neg (by omega)]
theorem zrJ_s {nu : Nat → Int64} {s j : Nat} : vp_updL (zrJ nu s j) (40 * s + j) 0 = zrJ nu s (j + 1) := by
  funext k
  unfold vp_updL zrJ
  by_cases h : k = 40 * s + j
  · rw [if_pos h, if_pos (by omega)]
  · rw [if_neg h]
    by_cases h2 : 40 * s ≤ k ∧ k < 40 * s + j
    · rw [if_pos h2, if_pos (by omega)]
    · rw [if_neg h2, if_neg (by omega)]
def narF (b : Int32) (v : Int64) : Int64 := if b = nI 8 then v.toInt32.toInt8.toInt32.toInt64 else if b = nI 16 then v.toInt32.toInt16.toInt32.toInt64 else v
def wrS (bo : Nat → Int32) (q : Int32) : Int32 := if rg 0 3 q then (if bo q.toNatClampNeg = 0 then -1000000006 else nI 0) else -1000000001
theorem ws3 (bo : Nat → Int32) (q : Int32) : (¬ rg 0 3 q = true) ∨ (rg 0 3 q = true ∧ bo q.toNatClampNeg = 0) ∨ (rg 0 3 q = true ∧ ¬ bo q.toNatClampNeg = 0) := by
  by_cases h : rg 0 3 q = true
  · by_cases h2 : bo q.toNatClampNeg = 0
    · exact Or.inr (Or.inl ⟨h, h2⟩)
    · exact Or.inr (Or.inr ⟨h, h2⟩)
  · exact Or.inl h
theorem wrS_1 {bo : Nat → Int32} {q : Int32} (h : ¬ rg 0 3 q = true) : wrS bo q = -1000000001 := if_neg h
theorem wrS_2 {bo : Nat → Int32} {q : Int32} (h : rg 0 3 q = true) (h2 : bo q.toNatClampNeg = 0) : wrS bo q = -1000000006 := (if_pos h).trans (if_pos h2)
theorem wrS_3 {bo : Nat → Int32} {q : Int32} (h : rg 0 3 q = true) (h2 : ¬ bo q.toNatClampNeg = 0) : wrS bo q = nI 0 := (if_pos h).trans (if_neg h2)
theorem rgso {x : Int32} {z : Nat} {o : Int32} (hz : z ≤ 40) (e : x = nI z) (h : rg 0 (((x) - (nI 1)).toInt64).toInt o = true) : ∃ j : Nat, j < z ∧ o = nI j := by
  rw [e, Int32.toInt_toInt64, pk_sub_toInt (by omega) (by omega)] at h
  have h := rg_iff.mp h
  refine ⟨o.toInt.toNat, by omega, ?_⟩
  apply Int32.toInt_inj.mp
  rw [nI_toInt (by omega)]
  omega
def statL (stt : Nat → Int32) (q : Int32) : Nat → Nat → Int32 → Int32
  | 0, _, acc => acc
  | n + 1, j, acc => statL stt q n (j + 1) (acc + (if q < 0 then stt j else if nI j = q then stt j else nI 0))
def feedL (b : Int32) : Nat → Nat → (Nat → Int32) → Nat → Int32
  | 0, _, tp => tp
  | n + 1, t, tp => feedL b n (t + 1) (upd tp t ((b >>> (nI (8 * n) &&& 31)) &&& nI 255))
theorem pm_pred {m : Nat} (h : 1 ≤ m) : nI m - nI 1 = pm m := by
  cases m with
  | zero => omega
  | succ m => exact nI_pred m
def countF (sr : Nat → Int32) (N : Nat) (td q : Int32) : Int32 := if q = nI 0 then nI N else if q = nI 1 then td else if q = nI 2 then sumL sr 2 N 0 (nI 0) else if q = nI 3 then sumL sr 3 N 0 (nI 0) else -1000000001
theorem rg03 {q : Int32} (h0 : ¬ q = nI 0) (h1 : ¬ q = nI 1) (h2 : ¬ q = nI 2) (h3 : ¬ q = nI 3) : ¬ rg 0 3 q = true := by
  intro h
  have h := rg_iff.mp h
  have e0 : q.toInt ≠ 0 := ne_int h0
  have e1 : q.toInt ≠ 1 := ne_int h1
  have e2 : q.toInt ≠ 2 := ne_int h2
  have e3 : q.toInt ≠ 3 := ne_int h3
  omega
def wrB (bo : Nat → Int32) (N : Nat) (q w : Int32) : Int32 := if rg 0 3 q then (if bo q.toNatClampNeg = 0 then -1000000006 else if isN N w then nI 0 else -1000000001) else -1000000001
