/-! class's words and model's words, on -/
theorem sub_nI {a b : Nat} (h : b ≤ a) : nI a - nI b = nI (a - b) := by
  have e := nI_add (a - b) b
  rw [Nat.sub_add_cancel h] at e
  rw [← e, Int32.add_sub_cancel]
theorem cp_b {x y b d n : Int32} {z1 z2 : Nat} (h1 : z1 ≤ 40) (h2 : z2 ≤ 40) (e1 : x = nI z1) (e2 : y = nI z2) : cpOk x y b d n = true ↔ (hpP x b n = true ∧ hpP y d n = true) := by
  have key : ∀ (w c : Int32) (z0 : Nat), z0 ≤ 40 → w = nI z0 → ¬ c < 0 → ¬ n < 0 → (¬ w - c < n ↔ (¬ w < n ∧ ¬ w - n < c)) := by
    intro w c z0 hz e hc hn
    constructor
    · intro h
      obtain ⟨c', n', rfl, rfl, h3⟩ := cp_ix hz e hc hn h
      subst e
      rw [sub_nI (by omega)]
      exact ⟨fun q => absurd ((nI_ltI (by omega) (by omega)).mp q) (by omega), fun q => absurd ((nI_ltI (by omega) (by omega)).mp q) (by omega)⟩
    · intro h
      obtain ⟨n', c', rfl, rfl, h3⟩ := cp_ix hz e hn hc h.2
      subst e
      rw [sub_nI (by omega)]
      exact fun q => absurd ((nI_ltI (by omega) (by omega)).mp q) (by omega)
  unfold cpOk hpP
  simp only [Bool.and_eq_true, Bool.not_eq_true', decide_eq_false_iff_not, decide_eq_true_eq]
  constructor
  · rintro ⟨a1, a2, a3, a4, a5⟩
    have k1 := (key x b z1 h1 e1 a1 a3).mp a4
    have k2 := (key y d z2 h2 e2 a2 a3).mp (Int32.not_lt.mpr a5)
    exact ⟨⟨a1, a3, k1.1, k1.2⟩, ⟨a2, a3, k2.1, k2.2⟩⟩
  · rintro ⟨⟨a1, a3, k1, k2⟩, ⟨a2, _, k3, k4⟩⟩
    exact ⟨a1, a2, a3, (key x b z1 h1 e1 a1 a3).mpr ⟨k1, k2⟩, Int32.not_lt.mp ((key y d z2 h2 e2 a2 a3).mpr ⟨k3, k4⟩)⟩
theorem and_1 (v : Int32) : v &&& nI 1 = nI 0 ∨ v &&& nI 1 = nI 1 := by
  have e : v.toBitVec &&& 1#32 = BitVec.setWidth 32 (BitVec.ofBool (v.toBitVec.getLsbD 0)) := BitVec.and_one_eq_setWidth_ofBool_getLsbD
  cases hb : v.toBitVec.getLsbD 0
  · left
    apply Int32.toBitVec_inj.mp
    show v.toBitVec &&& 1#32 = 0#32
    rw [e, hb]
    rfl
  · right
    apply Int32.toBitVec_inj.mp
    show v.toBitVec &&& 1#32 = 1#32
    rw [e, hb]
    rfl
theorem stopC_b {N x : Nat} : ∀ (n w : Nat) (s : Nat → Int32), w + n ≤ N → (∀ i, i < N → s (5 + 8 * i + 7) = nI 0 ∨ s (5 + 8 * i + 7) = nI 1) → stopC x n w s = stopL x n w s
  | 0, _, _, _, _ => rfl
  | n + 1, w, s, h, hs => by
    unfold stopC stopL
    rcases and_1 (nI x >>> (nI w &&& 31)) with e | e
    · rw [e, if_neg (by decide), or_0, upd_id]
      exact stopC_b n (w + 1) s (by omega) hs
    · rw [e, if_pos rfl]
      have e2 : s (5 + 8 * w + 7) ||| nI 1 = nI 1 := by
        rcases hs w (by omega) with q | q <;> rw [q] <;> decide
      rw [e2]
      refine stopC_b (N := N) n (w + 1) _ (by omega) (fun i hi => ?_)
      unfold upd
      by_cases c : 5 + 8 * i + 7 = 5 + 8 * w + 7
      · rw [if_pos c]; exact Or.inr rfl
      · rw [if_neg c]; exact hs i hi
theorem mostF_b (q : Int32) : ((mostF q).toInt64).toInt = (mostF q).toInt := Int32.toInt_toInt64 _
