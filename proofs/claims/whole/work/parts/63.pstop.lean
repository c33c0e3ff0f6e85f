/-! the class's stop -/
def sI (N h : Nat) (a : Nat → Int32) (st : Int32) (mny : Nat) : Nat → Nat → Option Nat → Option Nat
  | 0, _, r => r
  | n + 1, x, r => if onesL x x 0 = mny ∧ nI x &&& st = 0 ∧ 0 < lastC N h (stopC x N 0 a) 2 then some x else sI N h a st mny n (x + 1) r
def sO (N h : Nat) (a : Nat → Int32) (st : Int32) (M : Nat) : Nat → Nat → Option Nat
  | 0, _ => none
  | n + 1, m => sI N h a st m M 0 (sO N h a st M n (m + 1))
theorem shl_N : ∀ N, N < 9 → nI 1 <<< (nI N &&& 31) = nI (2 ^ N) := by decide
theorem pow_8 : ∀ N, N < 9 → 2 ^ N ≤ 256 := by decide
