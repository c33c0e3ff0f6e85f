/-! ranges of a row: they stay in an hour, and the fund does not grow -/
def rng (b : Nat) (x : Int32) : Prop := ∃ n : Nat, n ≤ b ∧ x = nI n
def okR (N : Nat) (s : Nat → Int32) : Prop := rng 999999 (s 2) ∧ rng 20 (s 3) ∧ rng 1 (s 4) ∧ ∀ i, i < N → rng 12 (s (5 + 8 * i + 1)) ∧ rng 12 (s (5 + 8 * i + 5)) ∧ rng 1 (s (5 + 8 * i + 7))
theorem okR_up {N k : Nat} {s : Nat → Int32} {x : Int32} (h : okR N s) (h2 : k = 2 → rng 999999 x) (h3 : k = 3 → rng 20 x) (h4 : k = 4 → rng 1 x) (hi : ∀ i, i < N → (k = 5 + 8 * i + 1 → rng 12 x) ∧ (k = 5 + 8 * i + 5 → rng 12 x) ∧ (k = 5 + 8 * i + 7 → rng 1 x)) : okR N (upd s k x) := by
  have key : ∀ (j b : Nat), (k = j → rng b x) → rng b (s j) → rng b (upd s k x j) := by
    intro j b h1 h2
    unfold upd
    by_cases c : j = k
    · rw [if_pos c]; exact h1 c.symm
    · rw [if_neg c]; exact h2
  exact ⟨key 2 _ h2 h.1, key 3 _ h3 h.2.1, key 4 _ h4 h.2.2.1, fun i q => ⟨key _ _ (hi i q).1 (h.2.2.2 i q).1, key _ _ (hi i q).2.1 (h.2.2.2 i q).2.1, key _ _ (hi i q).2.2 (h.2.2.2 i q).2.2⟩⟩
theorem okR_c {N : Nat} {a b : Nat → Int32} (h : agr (5 + 8 * N) a b) (hb : okR N b) : okR N a := by
  refine ⟨?_, ?_, ?_, fun i hi => ⟨?_, ?_, ?_⟩⟩
  · rw [h 2 (by omega)]; exact hb.1
  · rw [h 3 (by omega)]; exact hb.2.1
  · rw [h 4 (by omega)]; exact hb.2.2.1
  · rw [h _ (by omega)]; exact (hb.2.2.2 i hi).1
  · rw [h _ (by omega)]; exact (hb.2.2.2 i hi).2.1
  · rw [h _ (by omega)]; exact (hb.2.2.2 i hi).2.2
theorem pace_r {N i : Nat} {s : Nat → Int32} (h : rng 1 (s 4)) : ∃ p : Nat, p ≤ 4 ∧ paceF s N i = nI p := by
  obtain ⟨r, hr, er⟩ := h
  have hp : plainF s i = nI 3 ∨ plainF s i = nI 2 := by
    unfold plainF
    split
    · exact Or.inl rfl
    · exact Or.inr rfl
  have e3 : nI 3 / nI 2 = nI 1 := by decide
  have e2 : nI 2 / nI 2 = nI 1 := by decide
  unfold paceF
  rw [er]
  rcases hp with hp | hp <;> rw [hp]
  · rw [e3, nI_add, nI_add]
    repeat' split
    all_goals exact ⟨_, by omega, rfl⟩
  · rw [e2, nI_add, nI_add]
    repeat' split
    all_goals exact ⟨_, by omega, rfl⟩
theorem by_r {N i m : Nat} {s : Nat → Int32} (h : rng 1 (s 4)) (hm : m ≤ 12) (em : s (5 + 8 * i + 1) = nI m) : ∃ b : Nat, b ≤ 4 ∧ byF s N i = nI b ∧ (s (5 + 8 * i + 2) = nI 1 → b ≤ 12 - m) ∧ (¬ s (5 + 8 * i + 2) = nI 1 → b ≤ m) := by
  obtain ⟨p, hp, ep⟩ := pace_r (N := N) (i := i) h
  unfold byF hTo
  rw [ep, em]
  by_cases c : s (5 + 8 * i + 2) = nI 1
  · rw [if_pos c, sub_nI hm]
    by_cases q : p ≤ 12 - m
    · rw [if_pos (nI_le q (by omega))]
      exact ⟨p, hp, rfl, fun _ => q, fun e => absurd c e⟩
    · rw [if_neg (fun e => q ((nI_leI (by omega) (by omega)).mp e))]
      exact ⟨12 - m, by omega, rfl, fun _ => Nat.le_refl _, fun e => absurd c e⟩
  · rw [if_neg c]
    by_cases q : p ≤ m
    · rw [if_pos (nI_le q (by omega))]
      exact ⟨p, hp, rfl, fun e => absurd e c, fun _ => q⟩
    · rw [if_neg (fun e => q ((nI_leI (by omega) (by omega)).mp e))]
      exact ⟨m, by omega, rfl, fun e => absurd e c, fun _ => Nat.le_refl _⟩
theorem hTo_r {w b M : Nat} (h : w + b < 2 ^ 31) (hM : M < 2 ^ 31) : rng M (hTo (nI w + nI b) (nI M)) := by
  unfold hTo
  rw [nI_add]
  by_cases q : w + b ≤ M
  · rw [if_pos (nI_le q (by omega))]; exact ⟨_, q, rfl⟩
  · rw [if_neg (fun e => q ((nI_leI (by omega) (by omega)).mp e))]; exact ⟨_, Nat.le_refl _, rfl⟩
theorem go_r {N i : Nat} {s : Nat → Int32} (h : okR N s) (hi : i < N) : okR N (goF s N i) := by
  obtain ⟨⟨m, hm, em⟩, ⟨w, hw, ew⟩, -⟩ := h.2.2.2 i hi
  obtain ⟨b, hb, eb, hb1, hb2⟩ := by_r (N := N) h.2.2.1 hm em
  have e1 : rng 12 (s (5 + 8 * i + 1) + (if s (5 + 8 * i + 2) = nI 1 then byF s N i else -byF s N i)) := by
    rw [em, eb]
    by_cases c : s (5 + 8 * i + 2) = nI 1
    · rw [if_pos c, nI_add]
      have := hb1 c
      exact ⟨_, by omega, rfl⟩
    · rw [if_neg c, ← Int32.sub_eq_add_neg, sub_nI (hb2 c)]
      exact ⟨_, by omega, rfl⟩
  unfold goF
  dsimp only
  refine okR_up (okR_up (okR_up h (by omega) (by omega) (by omega) (fun j hj => ⟨fun _ => e1, by omega, by omega⟩)) (by omega) (by omega) (by omega) (fun j hj => ⟨by omega, fun _ => ?_, by omega⟩)) (by omega) (by omega) (by omega) (fun j hj => ⟨by omega, by omega, by omega⟩)
  rw [upd_n (by omega), ew, eb]
  exact hTo_r (by omega) (by omega)
theorem paid_r {N i : Nat} {s : Nat → Int32} (h : okR N s) (hi : i < N) : okR N (paidF s i) ∧ paidF s i 2 ≤ s 2 := by
  obtain ⟨-, ⟨w, hw, ew⟩, -⟩ := h.2.2.2 i hi
  obtain ⟨p, hp, ep⟩ := h.2.1
  obtain ⟨r, hr, er⟩ := h.2.2.1
  obtain ⟨f, hf, ef⟩ := h.1
  have h0 := pay_nn ew ep er hw hp hr
  have h1 : 0 ≤ s 2 := by rw [ef]; exact pos_le (by omega)
  have h2 := fund_le h0 h1
  have h3 : rng 999999 (s 2 - hTo (payF s i) (s 2)) := by
    obtain ⟨j, hj, ej⟩ := nI_of2 (x := s 2 - hTo (payF s i) (s 2)) (M := s 2) (n := f) (by rw [ef]; exact nI_toInt (by omega)) (Int32.not_lt.mpr h2.1) h2.2
    exact ⟨j, by omega, ej⟩
  unfold paidF
  dsimp only
  constructor
  · exact okR_up (okR_up (okR_up h (fun _ => h3) (by omega) (by omega) (fun j hj => ⟨by omega, by omega, by omega⟩)) (by omega) (by omega) (by omega) (fun j hj => ⟨by omega, by omega, by omega⟩)) (by omega) (by omega) (by omega) (fun j hj => ⟨by omega, by omega, by omega⟩)
  · rw [upd_n (by omega), upd_n (by omega)]
    unfold upd
    rw [if_pos rfl]
    exact h2.2
theorem arr_r {N i : Nat} {s : Nat → Int32} (h : okR N s) (hi : i < N) : okR N (arrF s i) ∧ arrF s i 2 ≤ s 2 := by
  have h1 := paid_r h hi
  have h2 : okR N (if s (5 + 8 * i + 3) ≤ 0 then s else paidF s i) ∧ (if s (5 + 8 * i + 3) ≤ 0 then s else paidF s i) 2 ≤ s 2 := by
    split
    · exact ⟨h, Int32.le_refl _⟩
    · exact h1
  unfold arrF
  dsimp only
  constructor
  · exact okR_up (okR_up h2.1 (by omega) (by omega) (by omega) (fun j hj => ⟨by omega, fun _ => ⟨0, by omega, rfl⟩, by omega⟩)) (by omega) (by omega) (by omega) (fun j hj => ⟨by omega, by omega, by omega⟩)
  · rw [upd_n (by omega), upd_n (by omega)]
    exact h2.2
theorem goes_r {N i : Nat} {s : Nat → Int32} (h : okR N s) (hi : i < N) : okR N (goesF s N i) ∧ goesF s N i 2 ≤ s 2 := by
  have h1 := go_r h hi
  have h2 := arr_r h1 hi
  have e : goF s N i 2 = s 2 := by
    unfold goF
    rw [upd_n (by omega), upd_n (by omega), upd_n (by omega)]
  rw [e] at h2
  by_cases c : goF s N i (5 + 8 * i + 1) = (if s (5 + 8 * i + 2) = nI 1 then nI 12 else nI 0)
  · rw [show goesF s N i = arrF (goF s N i) i from if_pos c]
    exact h2
  · rw [show goesF s N i = goF s N i from if_neg c]
    exact ⟨h1, by rw [e]; exact Int32.le_refl _⟩
theorem hourL_r {N : Nat} : ∀ (n j : Nat) (s : Nat → Int32), okR N s → j + n ≤ N → okR N (hourL N n j s) ∧ hourL N n j s 2 ≤ s 2
  | 0, _, _, h, _ => ⟨h, Int32.le_refl _⟩
  | n + 1, j, s, h, hj => by
    have h1 : okR N (if s (5 + 8 * j + 7) = 0 then goesF s N j else s) ∧ (if s (5 + 8 * j + 7) = 0 then goesF s N j else s) 2 ≤ s 2 := by
      split
      · exact goes_r h (by omega)
      · exact ⟨h, Int32.le_refl _⟩
    have h2 := hourL_r n (j + 1) _ h1.1 (by omega)
    exact ⟨h2.1, Int32.le_trans h2.2 h1.2⟩
theorem hour_r {N : Nat} {s : Nat → Int32} (h : okR N s) : okR N (hourF N s) ∧ hourF N s 2 ≤ s 2 := by
  have h1 := hourL_r N 0 s h (by omega)
  unfold hourF
  exact ⟨okR_up h1.1 (by omega) (by omega) (by omega) (fun j hj => ⟨by omega, by omega, by omega⟩), by rw [upd_n (by omega)]; exact h1.2⟩
theorem hrs_r {N : Nat} : ∀ (n : Nat) (s : Nat → Int32), okR N s → okR N (hrsF N n s)
  | 0, _, h => h
  | n + 1, _, h => hrs_r n _ (hour_r h).1
theorem stopL_r {N x : Nat} : ∀ (n w : Nat) (s : Nat → Int32), okR N s → w + n ≤ N → okR N (stopL x n w s)
  | 0, _, _, h, _ => h
  | n + 1, w, s, h, hw => by
    refine stopL_r n (w + 1) _ (okR_up h (by omega) (by omega) (by omega) (fun j hj => ⟨by omega, by omega, fun _ => ?_⟩)) (by omega)
    obtain ⟨-, -, ⟨k, hk, ek⟩⟩ := h.2.2.2 w (by omega)
    rw [ek]
    rcases and_1 (nI x >>> (nI w &&& 31)) with e | e <;> rw [e]
    · rcases (show k = 0 ∨ k = 1 by omega) with rfl | rfl
      · exact ⟨0, by omega, by decide⟩
      · exact ⟨1, by omega, by decide⟩
    · rcases (show k = 0 ∨ k = 1 by omega) with rfl | rfl
      · exact ⟨1, by omega, by decide⟩
      · exact ⟨1, by omega, by decide⟩
theorem lastx {N h x : Nat} {a s : Nat → Int32} (hA : agr (5 + 8 * N) a s) (hs : okR N s) : 0 < lastC N h (stopC x N 0 a) 2 ↔ ¬ lastsF N h s x ≤ 0 := by
  have e1 := lastC_c (N := N) h _ _ (stopC_c (x := x) N 0 a s hA) 2 (by omega)
  rw [e1, stopC_b (N := N) N 0 s (by omega) (fun i hi => by
    obtain ⟨-, -, ⟨k, hk, ek⟩⟩ := hs.2.2.2 i hi
    rw [ek]
    rcases (show k = 0 ∨ k = 1 by omega) with rfl | rfl
    · exact Or.inl rfl
    · exact Or.inr rfl)]
  rw [last_b (P := okR N) (fun s hs => (hour_r hs).1) (fun s hs => (hour_r hs).2) h _ (stopL_r N 0 s hs (by omega))]
  exact Int32.not_le.symm
