/-! an empty fund stays empty -/
theorem hrs_le {N : Nat} {P : (Nat → Int32) → Prop} (hI : ∀ s, P s → P (hourF N s)) (h0 : ∀ s, P s → hourF N s 2 ≤ s 2) : ∀ (n : Nat) (s : Nat → Int32), P s → hrsF N n s 2 ≤ s 2
  | 0, s, _ => Int32.le_refl _
  | n + 1, s, hs => Int32.le_trans (hrs_le hI h0 n (hourF N s) (hI s hs)) (h0 s hs)
theorem last_b {N : Nat} {P : (Nat → Int32) → Prop} (hI : ∀ s, P s → P (hourF N s)) (h0 : ∀ s, P s → hourF N s 2 ≤ s 2) : ∀ (n : Nat) (s : Nat → Int32), P s → (0 < lastC N n s 2 ↔ 0 < hrsF N n s 2)
  | 0, _, _ => Iff.rfl
  | n + 1, s, hs => by
    unfold lastC
    by_cases c : s 2 ≤ 0
    · rw [if_pos c]
      exact ⟨fun h => absurd c (Int32.not_le.mpr h), fun h => absurd (Int32.le_trans (hrs_le hI h0 (n + 1) s hs) c) (Int32.not_le.mpr h)⟩
    · rw [if_neg c]
      exact last_b hI h0 n (hourF N s) (hI s hs)
