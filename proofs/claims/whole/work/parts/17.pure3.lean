/-! words of the model's copy, lays, book, read -/
def cpnL (j : Nat) (f g : Nat → Int64) : Nat → Int64 := fun k => if k < j then f k else g k
theorem cpnL_0 {f g : Nat → Int64} : cpnL 0 f g = g := by funext k; simp [cpnL]
theorem cpnL_s {j : Nat} {f g : Nat → Int64} : vp_updL (cpnL j f g) j (f j) = cpnL (j + 1) f g := by
  funext k
  unfold vp_updL cpnL
  by_cases h : k = j
  · subst h; simp
  · by_cases h2 : k < j
    · simp [h, h2, Nat.lt_succ_of_lt h2]
    · have h3 : ¬ k < j + 1 := by omega
      simp [h, h2, h3]
theorem cpy_0 {f g : Nat → Int64} {sp dp : Nat} : va_cpy f g sp dp 0 = g := by funext k; unfold va_cpy; rw [if_neg (by omega)]
theorem cpy_s {f g : Nat → Int64} {dp j : Nat} : vp_updL (va_cpy f g 0 dp j) (dp + j) (f j) = va_cpy f g 0 dp (j + 1) := by
  funext k
  unfold vp_updL va_cpy
  by_cases h : k = dp + j
  · subst h
    rw [if_pos rfl, if_pos (by omega)]
    congr 1
    omega
  · rw [if_neg h]
    by_cases h2 : dp ≤ k ∧ k < dp + j
    · rw [if_pos h2, if_pos (by omega)]
    · rw [if_neg h2, if_neg (by omega)]
theorem cpy_mv {nu mv : Nat → Int64} {sp dp n : Nat} : va_cpy (cpnL n (fun k => nu (sp + k)) mv) nu 0 dp n = va_cpy nu nu sp dp n := by
  funext k
  unfold va_cpy cpnL
  by_cases h : dp ≤ k ∧ k < dp + n
  · rw [if_pos h, if_pos h, if_pos (by omega)]
    congr 1
    omega
  · rw [if_neg h, if_neg h]
def cpOk (x y b d n : Int32) : Bool := !decide (b < 0) && (!decide (d < 0) && (!decide (n < 0) && (!decide (x - b < n) && decide (n ≤ y - d))))
theorem cp_ix {x b n : Int32} {z : Nat} (hz : z ≤ 40) (e : x = nI z) (hb : ¬ b < 0) (hn : ¬ n < 0) (h : ¬ x - b < n) : ∃ b' n' : Nat, b = nI b' ∧ n = nI n' ∧ b' + n' ≤ z := by
  obtain ⟨b', hb1, rfl⟩ := nI_of hb
  obtain ⟨n', hn1, rfl⟩ := nI_of hn
  refine ⟨b', n', rfl, rfl, ?_⟩
  have h2 := Int32.not_lt.mp h
  rw [Int32.le_iff_toInt_le, e, nI_toInt hn1, Int32.toInt_sub, nI_toInt (by omega), nI_toInt hb1] at h2
  have h3 : ((z : Int) - (b' : Int)).bmod (2 ^ 32) = (z : Int) - (b' : Int) := by
    apply Int.bmod_eq_of_le <;> omega
  rw [h3] at h2
  omega
def laysL (nu : Nat → Int64) (i : Nat) : Nat → Nat → (Nat → Int32) → Int32 → (Nat → Int32) × Int32
  | 0, _, ss, c => (ss, c)
  | n + 1, k, ss, c => laysL nu i n (k + 1) (upd ss (5 + 8 * k + 3) (if inL (nu (40 * i + k)) 0 9 then (nu (40 * i + k)).toInt32 else ss (5 + 8 * k + 3))) (c + (if inL (nu (40 * i + k)) 0 9 then nI 1 else nI 0))
theorem wb4 (bo : Nat → Int32) (N : Nat) (q w : Int32) : (¬ rg 0 3 q = true) ∨ (rg 0 3 q = true ∧ bo q.toNatClampNeg = 0) ∨ (rg 0 3 q = true ∧ ¬ bo q.toNatClampNeg = 0 ∧ ¬ isN N w = true) ∨ (rg 0 3 q = true ∧ ¬ bo q.toNatClampNeg = 0 ∧ isN N w = true) := by
  rcases ws3 bo q with h | h | h
  · exact Or.inl h
  · exact Or.inr (Or.inl h)
  · by_cases h2 : isN N w = true
    · exact Or.inr (Or.inr (Or.inr ⟨h.1, h.2, h2⟩))
    · exact Or.inr (Or.inr (Or.inl ⟨h.1, h.2, h2⟩))
theorem wrB_1 {bo : Nat → Int32} {N : Nat} {q w : Int32} (h : ¬ rg 0 3 q = true) : wrB bo N q w = -1000000001 := if_neg h
theorem wrB_2 {bo : Nat → Int32} {N : Nat} {q w : Int32} (h : rg 0 3 q = true) (h2 : bo q.toNatClampNeg = 0) : wrB bo N q w = -1000000006 := (if_pos h).trans (if_pos h2)
theorem wrB_3 {bo : Nat → Int32} {N : Nat} {q w : Int32} (h : rg 0 3 q = true) (h2 : ¬ bo q.toNatClampNeg = 0) (h3 : ¬ isN N w = true) : wrB bo N q w = -1000000001 := (if_pos h).trans ((if_neg h2).trans (if_neg h3))
theorem wrB_4 {bo : Nat → Int32} {N : Nat} {q w : Int32} (h : rg 0 3 q = true) (h2 : ¬ bo q.toNatClampNeg = 0) (h3 : isN N w = true) : wrB bo N q w = nI 0 := (if_pos h).trans ((if_neg h2).trans (if_pos h3))
def bookL (N i w : Nat) (b : Int32) : Nat → Nat → (Nat → Int32) → (Nat → Int64) → Nat → Int64
  | 0, _, _, nu => nu
  | n + 1, k, ss, nu => bookL N i w b n (k + 1) (hourF N ss) (vp_updL nu (40 * i + k) (narF b (ss (5 + 8 * w + 6)).toInt64))
def isBkL (N i w : Nat) (nu : Nat → Int64) : Nat → Nat → (Nat → Int32) → Bool × (Nat → Int32)
  | 0, _, ss => (true, ss)
  | n + 1, k, ss => if nu (40 * i + k) = (ss (5 + 8 * w + 1)).toInt64 then isBkL N i w nu n (k + 1) (hourF N ss) else (false, ss)
theorem isBk_0 {N i w : Nat} {nu : Nat → Int64} : ∀ (n k : Nat) (ss : Nat → Int32), (isBkL N i w nu n k ss).2 0 = ss 0
  | 0, _, _ => rfl
  | n + 1, k, ss => by
    unfold isBkL
    split
    · rw [isBk_0 n, hourF_0]
    · rfl
def readS (sr : Nat → Int32) (w j : Nat) : Nat → Int32 := upd (upd sr (5 + 8 * w + 0) (nI j / nI 11)) (5 + 8 * w + 4) (nI j - nI j / nI 11 * nI 11)
def readL (N i w z : Nat) (nu : Nat → Int64) (sr : Nat → Int32) : Nat → Nat → Int32 → Int32
  | 0, _, c => c
  | n + 1, j, c => readL N i w z nu sr n (j + 1) (c + (if (isBkL N i w nu z 0 (readS sr w j)).1 = true then nI 1 else nI 0))
theorem cp_nn {a b : Nat} (h : nI b = nI a) (ha : b ≤ 40) (hb : a ≤ 40) : a = b := ((nI_eq (by omega) (by omega)).mp h).symm
