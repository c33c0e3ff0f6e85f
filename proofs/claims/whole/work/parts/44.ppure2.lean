/-! the class's books and readings -/
def isBkC (N w : Nat) (f : Nat → Int64) : Nat → Nat → (Nat → Int32) → Bool × (Nat → Int32)
  | 0, _, ss => (true, ss)
  | n + 1, k, ss => if (ss (5 + 8 * w + 1)).toInt64 = f k then isBkC N w f n (k + 1) (hourF N ss) else (false, ss)
theorem isBkC_c {N w : Nat} {f : Nat → Int64} (hw : w < N) : ∀ (n k : Nat) (a b : Nat → Int32), agr (5 + 8 * N) a b → (isBkC N w f n k a).1 = (isBkC N w f n k b).1
  | 0, _, _, _, _ => rfl
  | n + 1, k, a, b, h => by
    unfold isBkC
    rw [h (5 + 8 * w + 1) (by omega)]
    split
    · exact isBkC_c hw n (k + 1) _ _ (hour_c h)
    · rfl
theorem gb_l {N w z0 w0 w1 : Nat} {f : Nat → Int64} {x y : Int32} {a b : Nat → Int32} (hw : w < N) : z ((isBkC N w f z0 0 (upd (upd (cpn (5 + 8 * N) a b) w0 x) w1 y)).1 = true) = z ((isBkC N w f z0 0 (upd (upd a w0 x) w1 y)).1 = true) := z_iff (by rw [isBkC_c hw z0 0 _ _ ((agr_cp.up rfl).up rfl)])
def rdI (N w : Nat) (f : Nat → Int64) (z0 : Nat) (a : Nat → Int32) (kd : Nat) : Nat → Nat → Int32 → Int32
  | 0, _, c => c
  | n + 1, t, c => rdI N w f z0 a kd n (t + 1) (if (isBkC N w f z0 0 (upd (upd a (5 + 8 * w + 0) (nI kd)) (5 + 8 * w + 4) (nI t))).1 = true then c + 1 else c)
def rdO (N w : Nat) (f : Nat → Int64) (z0 : Nat) (a : Nat → Int32) : Nat → Nat → Int32 → Int32
  | 0, _, c => c
  | n + 1, kd, c => rdO N w f z0 a n (kd + 1) (rdI N w f z0 a kd 11 0 c)
def bookC (N w : Nat) (b : Int32) : Nat → Nat → (Nat → Int32) → (Nat → Int64) → Nat → Int64
  | 0, _, _, f => f
  | n + 1, k, ss, f => bookC N w b n (k + 1) (hourF N ss) (vp_updL f k (narF b (ss (5 + 8 * w + 6)).toInt64))
theorem bookC_c {N w : Nat} {x : Int32} (hw : w < N) : ∀ (n k : Nat) (a b : Nat → Int32) (f : Nat → Int64), agr (5 + 8 * N) a b → bookC N w x n k a f = bookC N w x n k b f
  | 0, _, _, _, _, _ => rfl
  | n + 1, k, a, b, f, h => by
    unfold bookC
    rw [h (5 + 8 * w + 6) (by omega)]
    exact bookC_c hw n (k + 1) _ _ _ (hour_c h)
theorem book_l {N w n k : Nat} {x : Int32} {a b : Nat → Int32} {f : Nat → Int64} (hw : w < N) : bookC N w x n k (cpn (5 + 8 * N) a b) f = bookC N w x n k a f := bookC_c hw n k _ _ f agr_cp
theorem vaup_id {sw : Nat → Nat → Int64} {i : Nat} : va_up sw i (sw i) = sw := by
  funext a
  unfold va_up
  by_cases h : a = i
  · rw [if_pos h, h]
  · rw [if_neg h]
theorem vaup_2 {sw : Nat → Nat → Int64} {i j : Nat} {ff : Nat → Int64} {x : Int64} : va_up (va_up sw i ff) i (vp_updL ((va_up sw i ff) i) j x) = va_up sw i (vp_updL ff j x) := by
  funext a
  unfold va_up
  by_cases h : a = i
  · rw [if_pos h, if_pos h, if_pos rfl]
  · rw [if_neg h, if_neg h, if_neg h]
def laysC (f : Nat → Int64) : Nat → Nat → (Nat → Int32) → Int32 → (Nat → Int32) × Int32
  | 0, _, ss, c => (ss, c)
  | n + 1, k, ss, c => if inL (f k) 0 9 then laysC f n (k + 1) (upd ss (5 + 8 * k + 3) (f k).toInt32) (c + 1) else laysC f n (k + 1) ss c
def feedC (b : Int32) : Nat → Nat → (Nat → Int32) → Nat → Int32
  | 0, _, tp => tp
  | n + 1, t, tp => feedC b n (t + 1) (upd tp t ((b >>> (nI (8 * n) &&& 31)).toInt8.toInt32).toInt8.toInt32)
