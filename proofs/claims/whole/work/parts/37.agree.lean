/-! two rows that are alike where walkers are: what is told of them is alike -/
def agr (M : Nat) (a b : Nat → Int32) : Prop := ∀ k, k < M → a k = b k
theorem agr.rf {M : Nat} {a : Nat → Int32} : agr M a a := fun _ _ => rfl
theorem agr.sy {M : Nat} {a b : Nat → Int32} (h : agr M a b) : agr M b a := fun k hk => (h k hk).symm
theorem agr.tr {M : Nat} {a b c : Nat → Int32} (h : agr M a b) (h2 : agr M b c) : agr M a c := fun k hk => (h k hk).trans (h2 k hk)
theorem agr.up {M k : Nat} {a b : Nat → Int32} {x y : Int32} (h : agr M a b) (e : x = y) : agr M (upd a k x) (upd b k y) := by
  intro j hj
  unfold upd
  by_cases c : j = k
  · rw [if_pos c, if_pos c, e]
  · rw [if_neg c, if_neg c, h j hj]
theorem agr.it {M : Nat} {c : Prop} [Decidable c] {a b a' b' : Nat → Int32} (h : agr M a b) (h' : agr M a' b') : agr M (if c then a else a') (if c then b else b') := by
  by_cases q : c
  · rw [if_pos q, if_pos q]; exact h
  · rw [if_neg q, if_neg q]; exact h'
theorem agr_cp {M : Nat} {a b : Nat → Int32} : agr M (cpn M a b) a := fun _ hk => cpn_in hk
theorem those_c {N : Nat} {a b : Nat → Int32} (h : agr (5 + 8 * N) a b) (q : Int32) : ∀ (n j : Nat) (acc : Int32), j + n ≤ N → thoseL a q n j acc = thoseL b q n j acc
  | 0, _, _, _ => rfl
  | n + 1, j, acc, hj => by
    unfold thoseL
    rw [h (5 + 8 * j + 1) (by omega)]
    exact those_c h q n (j + 1) _ (by omega)
theorem pace_c {N i : Nat} {a b : Nat → Int32} (h : agr (5 + 8 * N) a b) (hi : i < N) : paceF a N i = paceF b N i := by
  unfold paceF plainF
  rw [h (5 + 8 * i + 0) (by omega), h (5 + 8 * i + 1) (by omega), h (5 + 8 * i + 3) (by omega), h (5 + 8 * i + 4) (by omega), h 4 (by omega), those_c h _ N 0 (nI 0) (by omega)]
theorem pay_c {N i : Nat} {a b : Nat → Int32} (h : agr (5 + 8 * N) a b) (hi : i < N) : payF a i = payF b i := by
  unfold payF payP
  rw [h (5 + 8 * i + 0) (by omega), h (5 + 8 * i + 5) (by omega), h 3 (by omega), h 4 (by omega)]
theorem wear_c {N i : Nat} {a b : Nat → Int32} (h : agr (5 + 8 * N) a b) (hi : i < N) : wearF a i = wearF b i := by
  unfold wearF pedF
  rw [h (5 + 8 * i + 0) (by omega), h 1 (by omega)]
theorem paid_c {N i : Nat} {a b : Nat → Int32} (h : agr (5 + 8 * N) a b) (hi : i < N) : agr (5 + 8 * N) (paidF a i) (paidF b i) := by
  unfold paidF
  dsimp only
  rw [← pay_c h hi, ← h 2 (by omega)]
  have h1 : agr (5 + 8 * N) (upd a 2 (a 2 - hTo (payF a i) (a 2))) (upd b 2 (a 2 - hTo (payF a i) (a 2))) := h.up rfl
  generalize upd a 2 (a 2 - hTo (payF a i) (a 2)) = a1 at h1 ⊢
  generalize upd b 2 (a 2 - hTo (payF a i) (a 2)) = b1 at h1 ⊢
  rw [← h1 (5 + 8 * i + 6) (by omega)]
  have h2 : agr (5 + 8 * N) (upd a1 (5 + 8 * i + 6) (hTo (a1 (5 + 8 * i + 6) + hTo (payF a i) (a 2)) (nI 999999))) (upd b1 (5 + 8 * i + 6) (hTo (a1 (5 + 8 * i + 6) + hTo (payF a i) (a 2)) (nI 999999))) := h1.up rfl
  generalize upd a1 (5 + 8 * i + 6) (hTo (a1 (5 + 8 * i + 6) + hTo (payF a i) (a 2)) (nI 999999)) = a2 at h2 ⊢
  generalize upd b1 (5 + 8 * i + 6) (hTo (a1 (5 + 8 * i + 6) + hTo (payF a i) (a 2)) (nI 999999)) = b2 at h2 ⊢
  exact h2.up (by rw [h2 (5 + 8 * i + 3) (by omega), wear_c h2 hi])
theorem arr_c {N i : Nat} {a b : Nat → Int32} (h : agr (5 + 8 * N) a b) (hi : i < N) : agr (5 + 8 * N) (arrF a i) (arrF b i) := by
  unfold arrF
  dsimp only
  rw [← h (5 + 8 * i + 3) (by omega)]
  have h1 := h.it (c := a (5 + 8 * i + 3) ≤ 0) (paid_c h hi)
  generalize (if a (5 + 8 * i + 3) ≤ 0 then a else paidF a i) = a1 at h1 ⊢
  generalize (if a (5 + 8 * i + 3) ≤ 0 then b else paidF b i) = b1 at h1 ⊢
  have h2 : agr (5 + 8 * N) (upd a1 (5 + 8 * i + 5) (nI 0)) (upd b1 (5 + 8 * i + 5) (nI 0)) := h1.up rfl
  exact h2.up (by rw [h2 (5 + 8 * i + 2) (by omega)])
theorem by_c {N i : Nat} {a b : Nat → Int32} (h : agr (5 + 8 * N) a b) (hi : i < N) : byF a N i = byF b N i := by
  unfold byF
  rw [pace_c h hi, h (5 + 8 * i + 2) (by omega), h (5 + 8 * i + 1) (by omega)]
theorem go_c {N i : Nat} {a b : Nat → Int32} (h : agr (5 + 8 * N) a b) (hi : i < N) : agr (5 + 8 * N) (goF a N i) (goF b N i) := by
  unfold goF
  dsimp only
  rw [← by_c h hi, ← h (5 + 8 * i + 1) (by omega), ← h (5 + 8 * i + 2) (by omega)]
  generalize byF a N i = y
  have h1 : agr (5 + 8 * N) (upd a (5 + 8 * i + 1) (a (5 + 8 * i + 1) + (if a (5 + 8 * i + 2) = nI 1 then y else -y))) (upd b (5 + 8 * i + 1) (a (5 + 8 * i + 1) + (if a (5 + 8 * i + 2) = nI 1 then y else -y))) := h.up rfl
  generalize upd a (5 + 8 * i + 1) (a (5 + 8 * i + 1) + (if a (5 + 8 * i + 2) = nI 1 then y else -y)) = a1 at h1 ⊢
  generalize upd b (5 + 8 * i + 1) (a (5 + 8 * i + 1) + (if a (5 + 8 * i + 2) = nI 1 then y else -y)) = b1 at h1 ⊢
  rw [← h1 (5 + 8 * i + 5) (by omega)]
  have h2 : agr (5 + 8 * N) (upd a1 (5 + 8 * i + 5) (hTo (a1 (5 + 8 * i + 5) + y) (nI 12))) (upd b1 (5 + 8 * i + 5) (hTo (a1 (5 + 8 * i + 5) + y) (nI 12))) := h1.up rfl
  generalize upd a1 (5 + 8 * i + 5) (hTo (a1 (5 + 8 * i + 5) + y) (nI 12)) = a2 at h2 ⊢
  generalize upd b1 (5 + 8 * i + 5) (hTo (a1 (5 + 8 * i + 5) + y) (nI 12)) = b2 at h2 ⊢
  exact h2.up (by rw [h2 (5 + 8 * i + 1) (by omega), h2 (5 + 8 * i + 4) (by omega)])
theorem goes_c {N i : Nat} {a b : Nat → Int32} (h : agr (5 + 8 * N) a b) (hi : i < N) : agr (5 + 8 * N) (goesF a N i) (goesF b N i) := by
  have h1 := go_c h hi
  unfold goesF
  rw [h (5 + 8 * i + 2) (by omega), h1 (5 + 8 * i + 1) (by omega)]
  exact (arr_c h1 hi).it h1
theorem hourL_c {N : Nat} : ∀ (n j : Nat) (a b : Nat → Int32), agr (5 + 8 * N) a b → j + n ≤ N → agr (5 + 8 * N) (hourL N n j a) (hourL N n j b)
  | 0, _, _, _, h, _ => h
  | n + 1, j, a, b, h, hj => by
    unfold hourL
    rw [h (5 + 8 * j + 7) (by omega)]
    exact hourL_c n (j + 1) _ _ ((goes_c h (by omega)).it h) (by omega)
theorem hour_c {N : Nat} {a b : Nat → Int32} (h : agr (5 + 8 * N) a b) : agr (5 + 8 * N) (hourF N a) (hourF N b) := by
  have h1 := hourL_c N 0 a b h (by omega)
  unfold hourF
  exact h1.up (by rw [h1 1 (by omega)])
theorem hrs_c {N : Nat} : ∀ (q : Nat) (a b : Nat → Int32), agr (5 + 8 * N) a b → agr (5 + 8 * N) (hrsF N q a) (hrsF N q b)
  | 0, _, _, h => h
  | q + 1, _, _, h => hrs_c q _ _ (hour_c h)
theorem sum_c {N k : Nat} {a b : Nat → Int32} (h : agr (5 + 8 * N) a b) (hk : k < 8) : ∀ (n j : Nat) (acc : Int32), j + n ≤ N → sumL a k n j acc = sumL b k n j acc
  | 0, _, _, _ => rfl
  | n + 1, j, acc, hj => by
    unfold sumL
    rw [h (5 + 8 * j + k) (by omega)]
    exact sum_c h hk n (j + 1) _ (by omega)
theorem with_c {N k : Nat} {a b : Nat → Int32} (h : agr (5 + 8 * N) a b) (hk : k < 8) : ∀ (n j : Nat) (acc : Int32), j + n ≤ N → withL a k n j acc = withL b k n j acc
  | 0, _, _, _ => rfl
  | n + 1, j, acc, hj => by
    unfold withL
    rw [h (5 + 8 * j + k) (by omega)]
    exact with_c h hk n (j + 1) _ (by omega)
theorem first_c {N wh : Nat} {v : Int32} (hw : wh < 5 + 8 * N) : ∀ (m n : Nat) (a b : Nat → Int32), agr (5 + 8 * N) a b → firstL N wh v m n a = firstL N wh v m n b
  | 0, _, _, _, _ => rfl
  | m + 1, n, a, b, h => by
    unfold firstL
    rw [h wh hw, first_c hw m (n + 1) _ _ (hour_c h)]
theorem meet_c {N i k : Nat} (hi : i < N) (hk : k < N) : ∀ (m n : Nat) (a b : Nat → Int32), agr (5 + 8 * N) a b → meetL N i k m n a = meetL N i k m n b
  | 0, _, _, _, _ => rfl
  | m + 1, n, a, b, h => by
    unfold meetL
    rw [h (5 + 8 * i + 1) (by omega), h (5 + 8 * k + 1) (by omega), meet_c hi hk m (n + 1) _ _ (hour_c h)]
theorem penny_c {N q : Nat} {v : Int32} {a b : Nat → Int32} (h : agr (5 + 8 * N) a b) : ∀ n : Nat, pennyL N q v a n = pennyL N q v b n
  | 0 => rfl
  | n + 1 => by
    unfold pennyL
    rw [hrs_c q _ _ (h.up (k := 3) (rfl : nI n = nI n)) 2 (by omega), penny_c h n]
theorem reason_c {N i q : Nat} {v : Int32} {a b : Nat → Int32} (h : agr (5 + 8 * N) a b) (hi : i < N) : ∀ n j : Nat, reasonL N i q v a n j = reasonL N i q v b n j
  | 0, _ => rfl
  | n + 1, j => by
    unfold reasonL
    rw [hrs_c q _ _ (h.up (k := 5 + 8 * i + 3) (rfl : nI j = nI j)) (5 + 8 * i + 6) (by omega), reason_c h hi n (j + 1)]
theorem most_c {N wh i q : Nat} {a b : Nat → Int32} (h : agr (5 + 8 * N) a b) (hi : i < N) : ∀ (n j : Nat) (x t : Int32), mostL N wh i q a n j x t = mostL N wh i q b n j x t
  | 0, _, _, _ => rfl
  | n + 1, j, x, t => by
    unfold mostL
    rw [hrs_c q _ _ (h.up (k := wh) (rfl : nI j = nI j)) (5 + 8 * i + 6) (by omega)]
    exact most_c h hi n (j + 1) _ _
theorem rich_c {N : Nat} {a b : Nat → Int32} (h : agr (5 + 8 * N) a b) : ∀ (n j x : Nat), j + n ≤ N → x ≤ j → richL a n j x = richL b n j x
  | 0, _, _, _, _ => rfl
  | n + 1, j, 0, hj, _ => rich_c h n (j + 1) (j + 1) (by omega) (by omega)
  | n + 1, j, x + 1, hj, hx => by
    unfold richL
    rw [h (5 + 8 * j + 6) (by omega), h (5 + 8 * x + 6) (by omega)]
    exact rich_c h n (j + 1) _ (by omega) (by split <;> omega)
theorem stopL_c {N x : Nat} : ∀ (n w : Nat) (a b : Nat → Int32), agr (5 + 8 * N) a b → w + n ≤ N → agr (5 + 8 * N) (stopL x n w a) (stopL x n w b)
  | 0, _, _, _, h, _ => h
  | n + 1, w, a, b, h, hw => by
    unfold stopL
    exact stopL_c n (w + 1) _ _ (h.up (by rw [h (5 + 8 * w + 7) (by omega)])) (by omega)
theorem lasts_c {N q x : Nat} {a b : Nat → Int32} (h : agr (5 + 8 * N) a b) : lastsF N q a x = lastsF N q b x := hrs_c q _ _ (stopL_c N 0 a b h (by omega)) 2 (by omega)
theorem stop_c {N q : Nat} {mx : Int32} {a b : Nat → Int32} (h : agr (5 + 8 * N) a b) : ∀ (n j x : Nat), stopF N q a mx n j x = stopF N q b mx n j x
  | 0, _, _ => rfl
  | n + 1, j, 0 => by
    unfold stopF
    rw [lasts_c h]
    exact stop_c h n (j + 1) _
  | n + 1, j, x + 1 => by
    unfold stopF
    rw [lasts_c h]
    exact stop_c h n (j + 1) _
theorem add_c {N : Nat} {kd ml : Int32} {a b : Nat → Int32} (h : agr (5 + 8 * N) a b) : agr (5 + 8 * (N + 1)) (addF a N kd ml) (addF b N kd ml) := by
  unfold addF
  refine agr.up (agr.up (agr.up (agr.up (agr.up ?_ rfl) rfl) rfl) rfl) rfl
  intro k hk
  unfold zrn
  by_cases c : 5 + 8 * N ≤ k ∧ k < 5 + 8 * N + 8
  · rw [if_pos c, if_pos c]
  · rw [if_neg c, if_neg c, h k (by omega)]
theorem isBk_c {N i w : Nat} {nu : Nat → Int64} (hw : w < N) : ∀ (n k : Nat) (a b : Nat → Int32), agr (5 + 8 * N) a b → (isBkL N i w nu n k a).1 = (isBkL N i w nu n k b).1
  | 0, _, _, _, _ => rfl
  | n + 1, k, a, b, h => by
    unfold isBkL
    rw [h (5 + 8 * w + 1) (by omega)]
    split
    · exact isBk_c hw n (k + 1) _ _ (hour_c h)
    · rfl
theorem book_c {N i w : Nat} {x : Int32} (hw : w < N) : ∀ (n k : Nat) (a b : Nat → Int32) (nu : Nat → Int64), agr (5 + 8 * N) a b → bookL N i w x n k a nu = bookL N i w x n k b nu
  | 0, _, _, _, _, _ => rfl
  | n + 1, k, a, b, nu, h => by
    unfold bookL
    rw [h (5 + 8 * w + 6) (by omega)]
    exact book_c hw n (k + 1) _ _ _ (hour_c h)
theorem read_c {N i w z : Nat} {nu : Nat → Int64} {a b : Nat → Int32} (h : agr (5 + 8 * N) a b) (hw : w < N) : ∀ (n j : Nat) (c : Int32), readL N i w z nu a n j c = readL N i w z nu b n j c
  | 0, _, _ => rfl
  | n + 1, j, c => by
    unfold readL
    rw [isBk_c hw z 0 (readS a w j) (readS b w j) ((h.up rfl).up rfl)]
    exact read_c h hw n (j + 1) _
theorem lays_c {N i : Nat} {nu : Nat → Int64} : ∀ (n k : Nat) (a b : Nat → Int32) (c : Int32), agr (5 + 8 * N) a b → k + n ≤ N → agr (5 + 8 * N) (laysL nu i n k a c).1 (laysL nu i n k b c).1 ∧ (laysL nu i n k a c).2 = (laysL nu i n k b c).2
  | 0, _, _, _, _, h, _ => ⟨h, rfl⟩
  | n + 1, k, a, b, c, h, hk => by
    unfold laysL
    exact lays_c n (k + 1) _ _ _ (h.up (by rw [h (5 + 8 * k + 3) (by omega)])) (by omega)
