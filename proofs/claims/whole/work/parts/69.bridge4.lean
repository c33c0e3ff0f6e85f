/-! sheets: rows and the flat row -/
theorem sw_cpy {sw : Nat → Nat → Int64} {nu : Nat → Int64} {y y' b d n : Nat} (hr : ∀ s k, s < 4 → k < 40 → sw s k = nu (40 * s + k)) (hy : y < 4) (hy' : y' < 4) (hb : b + n ≤ 40) (hd : d + n ≤ 40) : ∀ s k, s < 4 → k < 40 → (va_up sw y' (va_cpy (sw y) (sw y') b d n)) s k = va_cpy nu nu (40 * y + b) (40 * y' + d) n (40 * s + k) := by
  intro s k hs hk
  unfold va_up va_cpy
  by_cases c : s = y'
  · rw [if_pos c]
    subst c
    by_cases q : d ≤ k ∧ k < d + n
    · rw [if_pos q, if_pos (by omega), hr y (b + (k - d)) hy (by omega)]
      congr 1
      omega
    · rw [if_neg q, if_neg (by omega), hr s k hs hk]
  · rw [if_neg c, if_neg (by omega), hr s k hs hk]
theorem sw_upd {sw : Nat → Nat → Int64} {nu : Nat → Int64} {y j : Nat} {x : Int64} (hr : ∀ s k, s < 4 → k < 40 → sw s k = nu (40 * s + k)) (hy : y < 4) (hj : j < 40) : ∀ s k, s < 4 → k < 40 → (va_up sw y (vp_updL (sw y) j x)) s k = vp_updL nu (40 * y + j) x (40 * s + k) := by
  intro s k hs hk
  unfold va_up vp_updL
  by_cases c : s = y
  · rw [if_pos c]
    subst c
    by_cases q : k = j
    · rw [if_pos q, if_pos (by omega)]
    · rw [if_neg q, if_neg (by omega), hr s k hs hk]
  · rw [if_neg c, if_neg (by omega), hr s k hs hk]
theorem sw_zr {sw : Nat → Nat → Int64} {nu : Nat → Int64} {y : Nat} (hr : ∀ s k, s < 4 → k < 40 → sw s k = nu (40 * s + k)) (hy : y < 4) : ∀ s k, s < 4 → k < 40 → (va_up sw y (zrS (sw y) 40)) s k = zrJ nu y 40 (40 * s + k) := by
  intro s k hs hk
  unfold va_up zrS zrJ
  by_cases c : s = y
  · rw [if_pos c, if_pos hk, if_pos (by omega)]
  · rw [if_neg c, if_neg (by omega), hr s k hs hk]
