/-! the class's search for who stops -/
def stopC (x : Nat) : Nat → Nat → (Nat → Int32) → Nat → Int32
  | 0, _, s => s
  | n + 1, w, s => if (nI x >>> (nI w &&& 31)) &&& nI 1 = nI 1 then stopC x n (w + 1) (upd s (5 + 8 * w + 7) (nI 1)) else stopC x n (w + 1) s
def lastC (N : Nat) : Nat → (Nat → Int32) → Nat → Int32
  | 0, s => s
  | n + 1, s => if s 2 ≤ 0 then s else lastC N n (hourF N s)
theorem stopC_c {N x : Nat} : ∀ (n w : Nat) (a b : Nat → Int32), agr (5 + 8 * N) a b → agr (5 + 8 * N) (stopC x n w a) (stopC x n w b)
  | 0, _, _, _, h => h
  | n + 1, w, a, b, h => by
    unfold stopC
    split
    · exact stopC_c n (w + 1) _ _ (h.up rfl)
    · exact stopC_c n (w + 1) _ _ h
theorem lastC_c {N : Nat} : ∀ (n : Nat) (a b : Nat → Int32), agr (5 + 8 * N) a b → agr (5 + 8 * N) (lastC N n a) (lastC N n b)
  | 0, _, _, h => h
  | n + 1, a, b, h => by
    unfold lastC
    rw [h 2 (by omega)]
    split
    · exact h
    · exact lastC_c n _ _ (hour_c h)
theorem last_l {N x h : Nat} {a b : Nat → Int32} : lastC N h (stopC x N 0 (cpn (5 + 8 * N) a b)) 2 = lastC N h (stopC x N 0 a) 2 := lastC_c h _ _ (stopC_c N 0 _ _ agr_cp) 2 (by omega)
