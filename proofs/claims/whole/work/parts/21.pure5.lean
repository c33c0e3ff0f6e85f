/-! words of the model's text -/
theorem nar_b {v : Int32} (h : v = 0 ∨ v = 1) : narrow .boolean (.int v) = .int v := by rcases h with rfl | rfl <;> rfl
theorem fit_b {v : Int32} (h : v = 0 ∨ v = 1) : fits .boolean (.int v) = true := by rcases h with rfl | rfl <;> rfl
/-- row, from, to, wrong, value -/
abbrev PS : Type := (Nat → Int32) × Nat × Nat × Bool × Int32
def bAt (tp : Nat → Int32) (T k : Nat) : Int32 := if k < T then tp k else -1
theorem bAt_T {tp : Nat → Int32} {T k : Nat} (h : ¬ k < T) : bAt tp T k = -1 := if_neg h
def skipF (tp : Nat → Int32) (T : Nat) : Nat → Nat → Nat
  | 0, f => f
  | n + 1, f => if bAt tp T f = nI 32 then skipF tp T n (f + 1) else f
def isLt (tp : Nat → Int32) (T k : Nat) : Bool := rg 97 122 (bAt tp T k)
def isDg (tp : Nat → Int32) (T k : Nat) : Bool := rg 48 57 (bAt tp T k)
def endF (tp : Nat → Int32) (T : Nat) (a b : Bool) : Nat → Nat → Nat
  | 0, t => t
  | n + 1, t => if (a && isLt tp T t || b && isDg tp T t) = true then endF tp T a b n (t + 1) else t
def tokA (tp : Nat → Int32) (T t : Nat) : Nat := skipF tp T (T - t) t
def tokC (T f : Nat) : Nat := if f < T then f + 1 else f
def tokB (tp : Nat → Int32) (T t : Nat) : Nat := endF tp T (isLt tp T (tokA tp T t)) (isDg tp T (tokA tp T t)) (T - tokC T (tokA tp T t)) (tokC T (tokA tp T t))
theorem skipF_in {tp : Nat → Int32} {T : Nat} : ∀ (n f : Nat), f ≤ skipF tp T n f ∧ skipF tp T n f ≤ f + n
  | 0, f => ⟨Nat.le_refl f, Nat.le_refl f⟩
  | n + 1, f => by
    unfold skipF
    split
    · have := skipF_in (tp := tp) (T := T) n (f + 1); omega
    · omega
theorem endF_in {tp : Nat → Int32} {T : Nat} {a b : Bool} : ∀ (n t : Nat), t ≤ endF tp T a b n t ∧ endF tp T a b n t ≤ t + n
  | 0, t => ⟨Nat.le_refl t, Nat.le_refl t⟩
  | n + 1, t => by
    unfold endF
    split
    · have := endF_in (tp := tp) (T := T) (a := a) (b := b) n (t + 1); omega
    · omega
theorem tokA_in {tp : Nat → Int32} {T t : Nat} (h : t ≤ T) : t ≤ tokA tp T t ∧ tokA tp T t ≤ T := by
  have := skipF_in (tp := tp) (T := T) (T - t) t
  unfold tokA
  omega
theorem tokC_in {T f : Nat} (h : f ≤ T) : f ≤ tokC T f ∧ tokC T f ≤ T ∧ (f < T → f < tokC T f) := by
  unfold tokC
  split <;> omega
theorem tokB_in {tp : Nat → Int32} {T t : Nat} (h : t ≤ T) : tokA tp T t ≤ tokB tp T t ∧ tokB tp T t ≤ T ∧ (tokA tp T t < T → tokA tp T t < tokB tp T t) := by
  have h1 := tokA_in (tp := tp) h
  have h2 := tokC_in h1.2
  have h3 := endF_in (tp := tp) (T := T) (a := isLt tp T (tokA tp T t)) (b := isDg tp T (tokA tp T t)) (T - tokC T (tokA tp T t)) (tokC T (tokA tp T t))
  unfold tokB
  omega
theorem no_lt {tp : Nat → Int32} {T t : Nat} (h : ¬ t < T) : isLt tp T t = false := by unfold isLt; rw [bAt_T h]; decide
theorem no_dg {tp : Nat → Int32} {T t : Nat} (h : ¬ t < T) : isDg tp T t = false := by unfold isDg; rw [bAt_T h]; decide
def mustP (tp : Nat → Int32) (T : Nat) (p : Bool) (S : PS) : PS := if (S.2.2.2.1 || !p) = true then (S.1, S.2.1, S.2.2.1, true, S.2.2.2.2) else (S.1, tokA tp T S.2.2.1, tokB tp T S.2.2.1, false, S.2.2.2.2)
def wordL (tp : Nat → Int32) : Nat → Nat → Int64 → Int64
  | 0, _, v => v
  | n + 1, k, v => wordL tp n (k + 1) (if v ≤ 36028797018963967 then 32 * v + (tp k - nI 96).toInt64 else v)
def wordF (tp : Nat → Int32) (T : Nat) (S : PS) : Int64 := if S.2.2.2.1 = true then 0 else if isLt tp T S.2.1 = true then wordL tp (S.2.2.1 - S.2.1) S.2.1 0 else 0
def numL (tp : Nat → Int32) : Nat → Nat → Int32 → Int32
  | 0, _, v => v
  | n + 1, k, v => numL tp n (k + 1) (if v ≤ nI 9999 then nI 10 * v + tp k - nI 48 else v)
def numV (tp : Nat → Int32) (T f t : Nat) : Int32 := if isDg tp T f = true then numL tp (t - f) f (nI 0) else nI 0
def numP (tp : Nat → Int32) (T h : Nat) (S : PS) : PS := if S.2.2.2.1 = true then S else mustP tp T (isDg tp T S.2.1 && rg 0 h (numV tp T S.2.1 S.2.2.1)) (S.1, S.2.1, S.2.2.1, S.2.2.2.1, numV tp T S.2.1 S.2.2.1)
def kindF (x : Int64) : Int32 := if x = 773205170 then nI 0 else if x = 542257202 then nI 1 else if x = 13097138 then nI 2 else if x = 394661 then nI 3 else if x = 3413044 then nI 4 else if x = 17494690093 then nI 5 else -1
def putP (S : PS) (wh : Nat) (x : Int32) : PS := (upd S.1 wh x, S.2)
def partP (tp : Nat → Int32) (T : Nat) (nm : Int64) (wh mo : Nat) (S : PS) : PS :=
  if wordF tp T S = nm then putP (numP tp T mo (mustP tp T true S)) wh (if (numP tp T mo (mustP tp T true S)).2.2.2.1 = true then (numP tp T mo (mustP tp T true S)).1 wh else (numP tp T mo (mustP tp T true S)).2.2.2.2) else S
def downP (tp : Nat → Int32) (T wh : Nat) (S : PS) : PS := if wordF tp T S = 147182 then putP (mustP tp T true S) wh (nI 0) else S
def walkP (tp : Nat → Int32) (T N : Nat) (kd : Int32) (S : PS) : PS :=
  if (mustP tp T (decide (N < 8)) S).2.2.2.1 = true then mustP tp T (decide (N < 8)) S
  else partP tp T 609275374 (5 + 8 * N + 3) 9 (downP tp T (5 + 8 * N + 2) (partP tp T 52 (5 + 8 * N + 1) 12 (addF (mustP tp T (decide (N < 8)) S).1 N kd (nI 0), (mustP tp T (decide (N < 8)) S).2)))
def setP (tp : Nat → Int32) (T wh mo : Nat) (S : PS) : PS := putP (numP tp T mo (mustP tp T true S)) wh (if (numP tp T mo (mustP tp T true S)).2.2.2.1 = true then (numP tp T mo (mustP tp T true S)).1 wh else (numP tp T mo (mustP tp T true S)).2.2.2.2)
def rainP (tp : Nat → Int32) (T : Nat) (x : Int64) (S : PS) : PS := putP (mustP tp T (decide (x = 591150) || decide (x = 4697)) S) 4 (if (mustP tp T (decide (x = 591150) || decide (x = 4697)) S).2.2.2.1 = true then (mustP tp T (decide (x = 591150) || decide (x = 4697)) S).1 4 else if x = 591150 then nI 1 else nI 0)
def itemP (tp : Nat → Int32) (T N : Nat) (S : PS) : PS :=
  if kindF (wordF tp T S) < 0 then (if wordF tp T S = 218564 then setP tp T 2 9999 S else if wordF tp T S = 16955865 then setP tp T 3 20 S else rainP tp T (wordF tp T S) S) else walkP tp T N (kindF (wordF tp T S)) S
def nW (sr : Nat → Int32) : Nat := (sr 0).toNatClampNeg
def textP (tp : Nat → Int32) (T : Nat) : Nat → PS → Nat → PS × Nat
  | 0, S, k => (S, k)
  | n + 1, S, k => if S.2.2.2.1 = true then (S, k) else if bAt tp T S.2.1 = nI 59 then textP tp T n (itemP tp T (nW S.1) (mustP tp T true S)) (k + 1) else (S, k)
/-- places in order, the row's first cell small -/
def okS (T : Nat) (S : PS) : Prop := S.2.1 ≤ S.2.2.1 ∧ S.2.2.1 ≤ T ∧ (S.2.1 < T → S.2.1 < S.2.2.1) ∧ ∃ N : Nat, N ≤ 8 ∧ S.1 0 = nI N
theorem mustP_row {tp : Nat → Int32} {T : Nat} {p : Bool} {S : PS} : (mustP tp T p S).1 = S.1 := by unfold mustP; split <;> rfl
theorem mustP_ok {tp : Nat → Int32} {T : Nat} {p : Bool} {S : PS} (h : okS T S) : okS T (mustP tp T p S) := by
  obtain ⟨h1, h2, h3, h4⟩ := h
  unfold mustP
  split
  · exact ⟨h1, h2, h3, h4⟩
  · have := tokB_in (tp := tp) h2
    exact ⟨this.1, this.2.1, this.2.2, h4⟩
theorem mustP_f {tp : Nat → Int32} {T : Nat} {p : Bool} {S : PS} (h : okS T S) : S.2.1 ≤ (mustP tp T p S).2.1 := by
  obtain ⟨h1, h2, h3, h4⟩ := h
  unfold mustP
  split
  · exact Nat.le_refl _
  · have := tokA_in (tp := tp) h2
    show S.2.1 ≤ tokA tp T S.2.2.1
    omega
theorem numP_row {tp : Nat → Int32} {T h : Nat} {S : PS} : (numP tp T h S).1 = S.1 := by
  unfold numP
  split
  · rfl
  · rw [mustP_row]
theorem numP_ok {tp : Nat → Int32} {T h : Nat} {S : PS} (hs : okS T S) : okS T (numP tp T h S) := by
  unfold numP
  split
  · exact hs
  · exact mustP_ok hs
theorem numP_f {tp : Nat → Int32} {T h : Nat} {S : PS} (hs : okS T S) : S.2.1 ≤ (numP tp T h S).2.1 := by
  unfold numP
  split
  · exact Nat.le_refl _
  · exact mustP_f (S := (S.1, S.2.1, S.2.2.1, S.2.2.2.1, numV tp T S.2.1 S.2.2.1)) hs
theorem putP_ok {T wh : Nat} {x : Int32} {S : PS} (h0 : wh ≠ 0) (h : okS T S) : okS T (putP S wh x) := by
  obtain ⟨h1, h2, h3, N, h4, h5⟩ := h
  exact ⟨h1, h2, h3, N, h4, (upd_0 h0).trans h5⟩
theorem setP_ok {tp : Nat → Int32} {T wh mo : Nat} {S : PS} (h0 : wh ≠ 0) (h : okS T S) : okS T (setP tp T wh mo S) := putP_ok h0 (numP_ok (mustP_ok h))
theorem setP_f {tp : Nat → Int32} {T wh mo : Nat} {S : PS} (h : okS T S) : S.2.1 ≤ (setP tp T wh mo S).2.1 := Nat.le_trans (mustP_f h) (numP_f (mustP_ok h))
theorem partP_ok {tp : Nat → Int32} {T wh mo : Nat} {nm : Int64} {S : PS} (h0 : wh ≠ 0) (h : okS T S) : okS T (partP tp T nm wh mo S) := by
  unfold partP
  split
  · exact putP_ok h0 (numP_ok (mustP_ok h))
  · exact h
theorem partP_f {tp : Nat → Int32} {T wh mo : Nat} {nm : Int64} {S : PS} (h : okS T S) : S.2.1 ≤ (partP tp T nm wh mo S).2.1 := by
  unfold partP
  split
  · exact Nat.le_trans (mustP_f h) (numP_f (mustP_ok h))
  · exact Nat.le_refl _
theorem downP_ok {tp : Nat → Int32} {T wh : Nat} {S : PS} (h0 : wh ≠ 0) (h : okS T S) : okS T (downP tp T wh S) := by
  unfold downP
  split
  · exact putP_ok h0 (mustP_ok h)
  · exact h
theorem downP_f {tp : Nat → Int32} {T wh : Nat} {S : PS} (h : okS T S) : S.2.1 ≤ (downP tp T wh S).2.1 := by
  unfold downP
  split
  · exact mustP_f h
  · exact Nat.le_refl _
theorem addS_ok {T N : Nat} {kd : Int32} {S : PS} (h8 : N < 8) (h : okS T S) : okS T (addF S.1 N kd (nI 0), S.2) := by
  obtain ⟨h1, h2, h3, h4⟩ := h
  refine ⟨h1, h2, h3, N + 1, h8, ?_⟩
  show addF S.1 N kd (nI 0) 0 = nI (N + 1)
  unfold addF
  exact upd_s
theorem walkP_wb {tp : Nat → Int32} {T N : Nat} {S : PS} (h : ¬ (mustP tp T (decide (N < 8)) S).2.2.2.1 = true) : N < 8 := by
  rcases Nat.lt_or_ge N 8 with q | q
  · exact q
  · exfalso
    apply h
    unfold mustP
    rw [decide_eq_false (by omega)]
    simp
theorem walkP_ok {tp : Nat → Int32} {T N : Nat} {kd : Int32} {S : PS} (h : okS T S) : okS T (walkP tp T N kd S) := by
  unfold walkP
  split
  · exact mustP_ok h
  · rename_i hw
    exact partP_ok (by omega) (downP_ok (by omega) (partP_ok (by omega) (addS_ok (walkP_wb hw) (mustP_ok h))))
theorem walkP_f {tp : Nat → Int32} {T N : Nat} {kd : Int32} {S : PS} (h : okS T S) : S.2.1 ≤ (walkP tp T N kd S).2.1 := by
  unfold walkP
  split
  · exact mustP_f h
  · rename_i hw
    have h0 := walkP_wb hw
    have e1 := mustP_f (tp := tp) (p := decide (N < 8)) h
    have h1 := mustP_ok (tp := tp) (p := decide (N < 8)) h
    generalize mustP tp T (decide (N < 8)) S = S1 at e1 h1 ⊢
    have h2 := addS_ok (kd := kd) h0 h1
    have e2 : S1.2.1 ≤ (addF S1.1 N kd (nI 0), S1.2).2.1 := Nat.le_refl _
    generalize (addF S1.1 N kd (nI 0), S1.2) = S2 at h2 e2 ⊢
    have h3 := partP_ok (tp := tp) (nm := 52) (mo := 12) (wh := 5 + 8 * N + 1) (by omega) h2
    have e3 := partP_f (tp := tp) (nm := 52) (mo := 12) (wh := 5 + 8 * N + 1) h2
    generalize partP tp T 52 (5 + 8 * N + 1) 12 S2 = S3 at h3 e3 ⊢
    have h4 := downP_ok (tp := tp) (wh := 5 + 8 * N + 2) (by omega) h3
    have e4 := downP_f (tp := tp) (wh := 5 + 8 * N + 2) h3
    generalize downP tp T (5 + 8 * N + 2) S3 = S4 at h4 e4 ⊢
    have e5 := partP_f (tp := tp) (nm := 609275374) (mo := 9) (wh := 5 + 8 * N + 3) h4
    omega
theorem itemP_ok {tp : Nat → Int32} {T N : Nat} {S : PS} (h : okS T S) : okS T (itemP tp T N S) := by
  unfold itemP
  split
  · split
    · exact setP_ok (by omega) h
    · split
      · exact setP_ok (by omega) h
      · exact putP_ok (by omega) (mustP_ok h)
  · exact walkP_ok h
theorem itemP_f {tp : Nat → Int32} {T N : Nat} {S : PS} (h : okS T S) : S.2.1 ≤ (itemP tp T N S).2.1 := by
  unfold itemP
  split
  · split
    · exact setP_f h
    · split
      · exact setP_f h
      · exact mustP_f h
  · exact walkP_f h
