/-! the class's text: what its tape takes -/
def eqW (tp : Nat → Int32) (T f i : Nat) : Nat → Nat → Bool
  | 0, _ => true
  | n + 1, k => decide (bAt tp T (f + k) = tgC i k) && eqW tp T f i n (k + 1)
def isW (tp : Nat → Int32) (T : Nat) (X : TX) (i : Nat) : Bool := decide (sortF tp T X.1 = nI 1) && (decide (X.2.1 - X.1 = tgN i) && eqW tp T X.1 i (tgN i) 0)
theorem isW_1 {tp : Nat → Int32} {T : Nat} {X : TX} {i : Nat} (h : ¬ sortF tp T X.1 = nI 1) : ¬ isW tp T X i = true := by unfold isW; simp [h]
theorem isW_2 {tp : Nat → Int32} {T : Nat} {X : TX} {i : Nat} (h : ¬ X.2.1 - X.1 = tgN i) : ¬ isW tp T X i = true := by unfold isW; simp [h]
theorem isW_3 {tp : Nat → Int32} {T : Nat} {X : TX} {i : Nat} (h1 : sortF tp T X.1 = nI 1) (h2 : X.2.1 - X.1 = tgN i) : isW tp T X i = eqW tp T X.1 i (tgN i) 0 := by unfold isW; simp [h1, h2]
theorem eqW_f {tp : Nat → Int32} {T f i n k : Nat} (h : ¬ bAt tp T (f + k) = tgC i k) : ¬ eqW tp T f i (n + 1) k = true := by unfold eqW; simp [h]
theorem eqW_t {tp : Nat → Int32} {T f i n k : Nat} (h : bAt tp T (f + k) = tgC i k) : eqW tp T f i (n + 1) k = eqW tp T f i n (k + 1) := by
  show (decide (bAt tp T (f + k) = tgC i k) && eqW tp T f i n (k + 1)) = _
  rw [decide_eq_true h, Bool.true_and]
/-- places in order -/
def okX (T : Nat) (X : TX) : Prop := X.1 ≤ X.2.1 ∧ X.2.1 ≤ T
theorem advT_ok {tp : Nat → Int32} {T : Nat} {X : TX} (h : okX T X) : okX T (advT tp T X) := ⟨(tokB_in (tp := tp) h.2).1, (tokB_in (tp := tp) h.2).2.1⟩
theorem tnF_ok {tp : Nat → Int32} {T : Nat} {X : TX} {v : Int32} (h : okX T X) : okX T (tnF tp T X v) := by
  unfold tnF
  split
  · exact advT_ok h
  · exact h
def twF (tp : Nat → Int32) (T i : Nat) (X : TX) : TX := if isW tp T X i = true then advT tp T X else X
theorem twF_ok {tp : Nat → Int32} {T i : Nat} {X : TX} (h : okX T X) : okX T (twF tp T i X) := by
  unfold twF
  split
  · exact advT_ok h
  · exact h
def kdL (tp : Nat → Int32) (T : Nat) (X : TX) : Nat → Nat → Int32
  | 0, _ => -1
  | n + 1, k => if isW tp T X k = true then nI k else kdL tp T X n (k + 1)
abbrev CS : Type := (Nat → Int32) × TX
def numS (tp : Nat → Int32) (T wh : Nat) (v : Int32) (S : CS) : CS := (upd S.1 wh (if tnC tp T S.2 v = true then S.2.2.2 else -1), tnF tp T S.2 v)
def wk5 (N : Nat) (S : CS) : CS × Bool := if S.1 (5 + 8 * N + 3) < 0 then (S, false) else (S, true)
def wk4 (tp : Nat → Int32) (T N : Nat) (S : CS) : CS × Bool := if isW tp T S.2 8 = true then wk5 N (numS tp T (5 + 8 * N + 3) (nI 9) (S.1, advT tp T S.2)) else wk5 N S
def wk3 (tp : Nat → Int32) (T N : Nat) (S : CS) : CS × Bool := if isW tp T S.2 7 = true then wk4 tp T N (upd S.1 (5 + 8 * N + 2) (nI 0), advT tp T S.2) else wk4 tp T N S
def wk2 (tp : Nat → Int32) (T N : Nat) (S : CS) : CS × Bool := if 0 ≤ S.1 (5 + 8 * N + 1) then wk3 tp T N S else (S, false)
def wk1 (tp : Nat → Int32) (T N : Nat) (S : CS) : CS × Bool := if isW tp T S.2 6 = true then wk2 tp T N (numS tp T (5 + 8 * N + 1) (nI 12) (S.1, advT tp T S.2)) else wk3 tp T N S
def walkS (tp : Nat → Int32) (T N : Nat) (kd : Int32) (S : CS) : CS × Bool := if 8 ≤ N then (S, false) else wk1 tp T N (addF S.1 N kd (nI 0), advT tp T S.2)
def finS (wh : Nat) (S : CS) : CS × Bool := if S.1 wh < 0 then (S, false) else (S, true)
def it4 (tp : Nat → Int32) (T : Nat) (S : CS) : CS × Bool := if isW tp T S.2 12 = true then ((upd S.1 4 (nI 0), advT tp T S.2), true) else (S, false)
def it3 (tp : Nat → Int32) (T : Nat) (S : CS) : CS × Bool := if isW tp T S.2 11 = true then ((upd S.1 4 (nI 1), advT tp T S.2), true) else it4 tp T S
def it2 (tp : Nat → Int32) (T : Nat) (S : CS) : CS × Bool := if isW tp T S.2 10 = true then finS 3 (numS tp T 3 (nI 20) (S.1, advT tp T S.2)) else it3 tp T S
def it1 (tp : Nat → Int32) (T : Nat) (S : CS) : CS × Bool := if isW tp T S.2 9 = true then finS 2 (numS tp T 2 (nI 9999) (S.1, advT tp T S.2)) else it2 tp T S
def itemS (tp : Nat → Int32) (T N : Nat) (S : CS) : CS × Bool := if kdL tp T S.2 6 0 < 0 then it1 tp T S else walkS tp T N (kdL tp T S.2 6 0) S
/-- places in order, the row's first cell small -/
def okC (T : Nat) (S : CS) : Prop := okX T S.2 ∧ ∃ N : Nat, N ≤ 8 ∧ S.1 0 = nI N
theorem okC_n {T : Nat} {S : CS} (h : okC T S) : S.1 0 = nI (nW S.1) ∧ nW S.1 ≤ 8 := by
  obtain ⟨-, N, h8, e⟩ := h
  rw [nW_of h8 e]
  exact ⟨e, h8⟩
theorem okC_adv {tp : Nat → Int32} {T : Nat} {S : CS} (h : okC T S) : okC T (S.1, advT tp T S.2) := ⟨advT_ok h.1, h.2⟩
theorem okC_upd {T wh : Nat} {x : Int32} {S : CS} (h0 : wh ≠ 0) (h : okC T S) : okC T (upd S.1 wh x, S.2) := by
  obtain ⟨h1, N, h8, e⟩ := h
  exact ⟨h1, N, h8, (upd_0 h0).trans e⟩
theorem okC_num {tp : Nat → Int32} {T wh : Nat} {v : Int32} {S : CS} (h0 : wh ≠ 0) (h : okC T S) : okC T (numS tp T wh v S) := by
  obtain ⟨h1, N, h8, e⟩ := h
  exact ⟨tnF_ok h1, N, h8, (upd_0 h0).trans e⟩
theorem wk5_ok {T N : Nat} {S : CS} (h : okC T S) : okC T (wk5 N S).1 := by unfold wk5; split <;> exact h
theorem wk4_ok {tp : Nat → Int32} {T N : Nat} {S : CS} (h : okC T S) : okC T (wk4 tp T N S).1 := by
  unfold wk4; split
  · exact wk5_ok (okC_num (by omega) (okC_adv h))
  · exact wk5_ok h
theorem wk3_ok {tp : Nat → Int32} {T N : Nat} {S : CS} (h : okC T S) : okC T (wk3 tp T N S).1 := by
  unfold wk3; split
  · exact wk4_ok (okC_upd (S := (S.1, advT tp T S.2)) (by omega) (okC_adv h))
  · exact wk4_ok h
theorem wk2_ok {tp : Nat → Int32} {T N : Nat} {S : CS} (h : okC T S) : okC T (wk2 tp T N S).1 := by
  unfold wk2; split
  · exact wk3_ok h
  · exact h
theorem wk1_ok {tp : Nat → Int32} {T N : Nat} {S : CS} (h : okC T S) : okC T (wk1 tp T N S).1 := by
  unfold wk1; split
  · exact wk2_ok (okC_num (by omega) (okC_adv h))
  · exact wk3_ok h
theorem walkS_ok {tp : Nat → Int32} {T N : Nat} {kd : Int32} {S : CS} (h : okC T S) (hN : S.1 0 = nI N) (h8 : N ≤ 8) : okC T (walkS tp T N kd S).1 := by
  unfold walkS; split
  · exact h
  · refine wk1_ok ⟨advT_ok h.1, N + 1, by omega, ?_⟩
    show addF S.1 N kd (nI 0) 0 = nI (N + 1)
    unfold addF
    exact upd_s
theorem finS_ok {T wh : Nat} {S : CS} (h : okC T S) : okC T (finS wh S).1 := by unfold finS; split <;> exact h
theorem itemS_ok {tp : Nat → Int32} {T N : Nat} {S : CS} (h : okC T S) (hN : S.1 0 = nI N) (h8 : N ≤ 8) : okC T (itemS tp T N S).1 := by
  unfold itemS; split
  · unfold it1; split
    · exact finS_ok (okC_num (by omega) (okC_adv h))
    · unfold it2; split
      · exact finS_ok (okC_num (by omega) (okC_adv h))
      · unfold it3; split
        · exact okC_upd (S := (S.1, advT tp T S.2)) (by omega) (okC_adv h)
        · unfold it4; split
          · exact okC_upd (S := (S.1, advT tp T S.2)) (by omega) (okC_adv h)
          · exact h
  · exact walkS_ok h hN h8
def tellS (tp : Nat → Int32) (T : Nat) : Nat → CS → Nat → CS × Int32
  | 0, S, _ => (S, -1 - nI S.2.1)
  | n + 1, S, k => if (itemS tp T (nW S.1) S).2 = true then (if sortF tp T (itemS tp T (nW S.1) S).1.2.1 = 0 then ((itemS tp T (nW S.1) S).1, nI (k + 1)) else if sortF tp T (itemS tp T (nW S.1) S).1.2.1 = nI 3 then tellS tp T n ((itemS tp T (nW S.1) S).1.1, advT tp T (itemS tp T (nW S.1) S).1.2) (k + 1) else ((itemS tp T (nW S.1) S).1, -1 - nI (itemS tp T (nW S.1) S).1.2.1)) else ((itemS tp T (nW S.1) S).1, -1 - nI (itemS tp T (nW S.1) S).1.2.1)
theorem tellS_ok {tp : Nat → Int32} {T : Nat} : ∀ (n : Nat) (S : CS) (k : Nat), okC T S → okC T (tellS tp T n S k).1
  | 0, S, k, h => h
  | n + 1, S, k, h => by
    have e := okC_n h
    have h1 := itemS_ok (tp := tp) h e.1 e.2
    unfold tellS
    split
    · split
      · exact h1
      · split
        · exact tellS_ok n _ _ (okC_adv h1)
        · exact h1
    · exact h1
theorem tellS_s {tp : Nat → Int32} {T n k : Nat} {S : CS} (h1 : (itemS tp T (nW S.1) S).2 = true) (h2 : ¬ sortF tp T (itemS tp T (nW S.1) S).1.2.1 = 0) (h3 : sortF tp T (itemS tp T (nW S.1) S).1.2.1 = nI 3) : tellS tp T (n + 1) S k = tellS tp T n ((itemS tp T (nW S.1) S).1.1, advT tp T (itemS tp T (nW S.1) S).1.2) (k + 1) := (if_pos h1).trans ((if_neg h2).trans (if_pos h3))
theorem tellS_0 {tp : Nat → Int32} {T n k : Nat} {S : CS} (h1 : (itemS tp T (nW S.1) S).2 = true) (h2 : sortF tp T (itemS tp T (nW S.1) S).1.2.1 = 0) : tellS tp T (n + 1) S k = ((itemS tp T (nW S.1) S).1, nI (k + 1)) := (if_pos h1).trans (if_pos h2)
theorem tellS_f {tp : Nat → Int32} {T n k : Nat} {S : CS} (h1 : ¬ (itemS tp T (nW S.1) S).2 = true) : tellS tp T (n + 1) S k = ((itemS tp T (nW S.1) S).1, -1 - nI (itemS tp T (nW S.1) S).1.2.1) := if_neg h1
theorem tellS_x {tp : Nat → Int32} {T n k : Nat} {S : CS} (h1 : (itemS tp T (nW S.1) S).2 = true) (h2 : ¬ sortF tp T (itemS tp T (nW S.1) S).1.2.1 = 0) (h3 : ¬ sortF tp T (itemS tp T (nW S.1) S).1.2.1 = nI 3) : tellS tp T (n + 1) S k = ((itemS tp T (nW S.1) S).1, -1 - nI (itemS tp T (nW S.1) S).1.2.1) := (if_pos h1).trans ((if_neg h2).trans (if_neg h3))
