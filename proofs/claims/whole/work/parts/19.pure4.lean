/-! words of the model's stop -/
def onesL : Nat → Nat → Nat → Nat
  | 0, _, n => n
  | f + 1, l, n => if l = 0 then n else onesL f (l &&& (l - 1)) (n + 1)
theorem onesL_le : ∀ (f l n : Nat), onesL f l n ≤ n + l
  | 0, l, n => Nat.le_add_right n l
  | f + 1, l, n => by
    unfold onesL
    split
    · omega
    · have h1 := onesL_le f (l &&& (l - 1)) (n + 1)
      have h2 : l &&& (l - 1) ≤ l - 1 := Nat.and_le_right
      omega
theorem nI_and (a b : Nat) : nI a &&& nI b = nI (a &&& b) := by
  apply Int32.toBitVec_inj.mp
  show BitVec.ofNat 32 a &&& BitVec.ofNat 32 b = BitVec.ofNat 32 (a &&& b)
  exact BitVec.ofNat_and.symm
theorem nI_z {l : Nat} (h : l < 2 ^ 31) (e : nI l = 0) : l = 0 := (nI_eq h (by decide)).mp (e.trans nI_0.symm)
theorem and_pred {l : Nat} (h : l < 2 ^ 31) (e : ¬ nI l = 0) : nI l &&& (nI l - nI 1) = nI (l &&& (l - 1)) := by
  cases l with
  | zero => exact absurd nI_0 e
  | succ l => rw [show nI (l + 1) - nI 1 = nI l from nI_pred l, nI_and, Nat.add_sub_cancel]
def mayX (sr : Nat → Int32) (N : Nat) : Int32 := ((nI 1 <<< (nI N &&& 31)) - nI 1) &&& (withL sr 7 N 0 (nI 0) ^^^ (-1))
theorem may_m : ∀ N, N < 9 → ((nI 1 <<< (nI N &&& 31)) - nI 1).toBitVec.toNat = 2 ^ N - 1 := by decide
theorem mayX_ix {sr : Nat → Int32} {N : Nat} (h8 : N ≤ 8) : ∃ M : Nat, M < 2 ^ N ∧ M < 256 ∧ mayX sr N = nI M := by
  have h1 : (2 : Nat) ^ N ≤ 2 ^ 8 := Nat.pow_le_pow_right (by decide) h8
  have h0 : 0 < (2 : Nat) ^ N := Nat.pow_pos (by decide)
  have h2 := Nat.mod_lt ((withL sr 7 N 0 (nI 0) ^^^ (-1)).toBitVec.toNat) h0
  refine ⟨(withL sr 7 N 0 (nI 0) ^^^ (-1)).toBitVec.toNat % 2 ^ N, h2, by omega, ?_⟩
  unfold mayX
  rw [Int32.and_comm]
  exact pk_and _ N (may_m N (by omega))
def stopL (j : Nat) : Nat → Nat → (Nat → Int32) → Nat → Int32
  | 0, _, ss => ss
  | n + 1, w, ss => stopL j n (w + 1) (upd ss (5 + 8 * w + 7) (ss (5 + 8 * w + 7) ||| ((nI j >>> (nI w &&& 31)) &&& nI 1)))
def lastsF (N q : Nat) (sr : Nat → Int32) (j : Nat) : Int32 := hrsF N q (stopL j N 0 sr) 2
def stopF (N q : Nat) (sr : Nat → Int32) (mx : Int32) : Nat → Nat → Nat → Nat
  | 0, _, b => b
  | n + 1, j, 0 => stopF N q sr mx n (j + 1) (if nI j &&& (mx ^^^ (-1)) = 0 then (if lastsF N q sr j ≤ 0 then 0 else j + 1) else 0)
  | n + 1, j, b + 1 => stopF N q sr mx n (j + 1) (if nI j &&& (mx ^^^ (-1)) = 0 then (if onesL b b 0 ≤ onesL j j 0 then b + 1 else (if lastsF N q sr j ≤ 0 then b + 1 else j + 1)) else b + 1)
