/-! bytes that are fed -/
theorem b255 : ∀ i, i < 32 → ¬ i < 8 → (255#32).getLsbD i = false := by decide
theorem b8 (v : BitVec 32) : (((v.signExtend 8).signExtend 32).signExtend 8).signExtend 32 &&& 255#32 = v &&& 255#32 := by
  apply BitVec.eq_of_getLsbD_eq
  intro i hi
  rw [BitVec.getLsbD_and, BitVec.getLsbD_and]
  by_cases h : i < 8
  · simp only [BitVec.getLsbD_signExtend, h, hi, if_true, reduceIte, decide_true, Bool.true_and]
  · rw [b255 i hi h, Bool.and_false, Bool.and_false]
theorem b8_I (v : Int32) : (v.toInt8.toInt32).toInt8.toInt32 &&& nI 255 = v &&& nI 255 := by
  apply Int32.toBitVec_inj.mp
  exact b8 v.toBitVec
theorem feed_b {b : Int32} : ∀ (n t : Nat) (tb tp : Nat → Int32), (∀ k, k < t → bu tb k = tp k) → ∀ k, k < t + n → bu (feedC b n t tb) k = feedL b n t tp k
  | 0, _, _, _, h, k, hk => h k hk
  | n + 1, t, tb, tp, h, k, hk => by
    refine feed_b n (t + 1) _ _ ?_ k (by omega)
    intro j hj
    unfold bu upd
    by_cases c : j = t
    · rw [if_pos c, if_pos c]
      exact b8_I _
    · rw [if_neg c, if_neg c]
      exact h j (by omega)
