/-! class's words and model's words -/
theorem roadM_b (q : Int32) : (roadM q).toInt = (mostR q).toInt := by
  unfold roadM mostR
  by_cases h : q = 0
  · rw [if_pos h, if_pos h]; decide
  · rw [if_neg h, if_neg h]
    by_cases h2 : q = nI 1
    · rw [if_pos h2, if_pos h2]; decide
    · rw [if_neg h2, if_neg h2]; decide
theorem isBk_b {N w i : Nat} {f nu : Nat → Int64} (hf : ∀ k, k < 40 → f k = nu (40 * i + k)) : ∀ (n k : Nat) (ss : Nat → Int32), k + n ≤ 40 → isBkC N w f n k ss = isBkL N i w nu n k ss
  | 0, _, _, _ => rfl
  | n + 1, k, ss, h => by
    unfold isBkC isBkL
    rw [hf k (by omega), isBk_b hf n (k + 1) _ (by omega)]
    by_cases c : nu (40 * i + k) = (ss (5 + 8 * w + 1)).toInt64
    · rw [if_pos c, if_pos c.symm]
    · rw [if_neg c, if_neg (fun e => c e.symm)]
theorem div11 : ∀ kd, kd < 6 → ∀ t, t < 11 → nI (11 * kd + t) / nI 11 = nI kd ∧ nI (11 * kd + t) - nI (11 * kd + t) / nI 11 * nI 11 = nI t := by decide
theorem readS_b {sr : Nat → Int32} {w kd t : Nat} (hk : kd < 6) (ht : t < 11) : readS sr w (11 * kd + t) = upd (upd sr (5 + 8 * w + 0) (nI kd)) (5 + 8 * w + 4) (nI t) := by
  unfold readS
  rw [(div11 kd hk t ht).2, (div11 kd hk t ht).1]
theorem add_if {c : Prop} [Decidable c] {a : Int32} : (if c then a + 1 else a) = a + (if c then nI 1 else nI 0) := by
  by_cases h : c
  · rw [if_pos h, if_pos h]; rfl
  · rw [if_neg h, if_neg h, add_z]
theorem rdI_b {N w i z0 kd : Nat} {f nu : Nat → Int64} {a : Nat → Int32} (hz : z0 ≤ 40) (hf : ∀ k, k < 40 → f k = nu (40 * i + k)) (hk : kd < 6) : ∀ (m t r : Nat) (c : Int32), t + m ≤ 11 → readL N i w z0 nu a (r + m) (11 * kd + t) c = readL N i w z0 nu a r (11 * kd + (t + m)) (rdI N w f z0 a kd m t c)
  | 0, _, _, _, _ => rfl
  | m + 1, t, r, c, h => by
    have e := rdI_b (N := N) (w := w) (a := a) hz hf hk m (t + 1) r (if (isBkC N w f z0 0 (upd (upd a (5 + 8 * w + 0) (nI kd)) (5 + 8 * w + 4) (nI t))).1 = true then c + 1 else c) (by omega)
    rw [show t + 1 + m = t + (m + 1) by omega] at e
    refine Eq.trans ?_ e
    show readL N i w z0 nu a (r + m) (11 * kd + t + 1) _ = _
    rw [readS_b hk (by omega), ← isBk_b hf z0 0 _ (by omega), add_if]
    rfl
theorem rdO_b {N w i z0 : Nat} {f nu : Nat → Int64} {a : Nat → Int32} (hz : z0 ≤ 40) (hf : ∀ k, k < 40 → f k = nu (40 * i + k)) : ∀ (n kd : Nat) (c : Int32), kd + n ≤ 6 → readL N i w z0 nu a (11 * n) (11 * kd) c = rdO N w f z0 a n kd c
  | 0, _, _, _ => rfl
  | n + 1, kd, c, h => by
    have e := rdI_b (N := N) (w := w) (a := a) hz hf (kd := kd) (by omega) 11 0 (11 * n) c (by omega)
    show _ = rdO N w f z0 a n (kd + 1) (rdI N w f z0 a kd 11 0 c)
    rw [← rdO_b hz hf n (kd + 1) _ (by omega)]
    exact e
theorem lays_b {N i : Nat} {f nu : Nat → Int64} (hN : N ≤ 8) (hf : ∀ k, k < 40 → f k = nu (40 * i + k)) : ∀ (n k : Nat) (a b : Nat → Int32) (c : Int32), agr (5 + 8 * N) a b → k + n ≤ N → agr (5 + 8 * N) (laysC f n k a c).1 (laysL nu i n k b c).1 ∧ (laysC f n k a c).2 = (laysL nu i n k b c).2
  | 0, _, _, _, _, h, _ => ⟨h, rfl⟩
  | n + 1, k, a, b, c, h, hk => by
    unfold laysC laysL
    rw [hf k (by omega)]
    by_cases q : inL (nu (40 * i + k)) 0 9
    · rw [if_pos q, if_pos q, if_pos q]
      exact lays_b hN hf n (k + 1) _ _ _ (h.up rfl) (by omega)
    · rw [if_neg q, if_neg q, if_neg q, upd_id, add_z]
      exact lays_b hN hf n (k + 1) _ _ _ h (by omega)
theorem book_b {N w i : Nat} {x : Int32} : ∀ (n k : Nat) (ss : Nat → Int32) (f nu : Nat → Int64), k + n ≤ 40 → (∀ j, j < 40 → f j = nu (40 * i + j)) → (∀ j, j < 40 → bookC N w x n k ss f j = bookL N i w x n k ss nu (40 * i + j)) ∧ ∀ j, (j < 40 * i ∨ 40 * i + 40 ≤ j) → bookL N i w x n k ss nu j = nu j
  | 0, _, _, _, _, _, hf => ⟨hf, fun _ _ => rfl⟩
  | n + 1, k, ss, f, nu, h, hf => by
    have e := book_b (N := N) (w := w) (i := i) (x := x) n (k + 1) (hourF N ss) (vp_updL f k (narF x (ss (5 + 8 * w + 6)).toInt64)) (vp_updL nu (40 * i + k) (narF x (ss (5 + 8 * w + 6)).toInt64)) (by omega) (by
      intro j hj
      unfold vp_updL
      by_cases c : j = k
      · rw [if_pos c, if_pos (by omega)]
      · rw [if_neg c, if_neg (by omega), hf j hj])
    refine ⟨e.1, fun j hj => (e.2 j hj).trans ?_⟩
    unfold vp_updL
    rw [if_neg (by omega)]
