/-! the class's reading of a text and the model's -/
section TXT
variable {tp : Nat → Int32} {T : Nat}
/-- both stand alike, nothing is wrong yet -/
def relY (tp : Nat → Int32) (T N : Nat) (Y : CS) (S : PS) : Prop := wfX tp T Y.2 ∧ S.2.1 = Y.2.1 ∧ S.2.2.1 = Y.2.2.1 ∧ S.2.2.2.1 = false ∧ agr (5 + 8 * N) Y.1 S.1 ∧ Y.1 0 = nI N ∧ N ≤ 8 ∧ okR N S.1
/-- both have come to the same end -/
def resY (tp : Nat → Int32) (T : Nat) (r : CS × Bool) (S : PS) : Prop := S.2.1 = r.1.2.1 ∧ (r.2 = true → ∃ N, relY tp T N r.1 S) ∧ (r.2 = false → S.2.2.2.1 = true)
theorem must_t {S : PS} (h : S.2.2.2.1 = false) : mustP tp T true S = (S.1, tokA tp T S.2.2.1, tokB tp T S.2.2.1, false, S.2.2.2.2) := by
  unfold mustP
  rw [h]
  rfl
theorem must_f {S : PS} : mustP tp T false S = (S.1, S.2.1, S.2.2.1, true, S.2.2.2.2) := by
  unfold mustP
  rw [if_pos (by simp)]
theorem rel_adv {N : Nat} {Y : CS} {S : PS} (h : relY tp T N Y S) : relY tp T N (Y.1, advT tp T Y.2) (mustP tp T true S) := by
  obtain ⟨h1, h2, h3, h4, h5⟩ := h
  rw [must_t h4]
  exact ⟨advT_wf h1.2.1, by rw [h3]; rfl, by rw [h3]; rfl, rfl, h5⟩
theorem rel_upd {N k : Nat} {x : Int32} {Y : CS} {S : PS} (h : relY tp T N Y S) (hk : k ≠ 0) (hr : okR N (upd S.1 k x)) : relY tp T N (upd Y.1 k x, Y.2) (putP S k x) := by
  obtain ⟨h1, h2, h3, h4, h5, h6, h7, h8⟩ := h
  exact ⟨h1, h2, h3, h4, h5.up rfl, (upd_0 hk).trans h6, h7, hr⟩
theorem wordF_w {S : PS} (h : S.2.2.2.1 = true) : wordF tp T S = 0 := if_pos h
/-- perhaps a number: its token comes, or is wrong -/
theorem num_y {N wh h : Nat} {Y : CS} {S : PS} (hr : relY tp T N Y S) (hh : h ≤ 9999) (h0 : wh ≠ 0) (hx : ∀ v : Nat, v ≤ h → okR N (upd S.1 wh (nI v))) :
    (tnC tp T Y.2 (nI h) = true → (∃ v : Nat, v ≤ h ∧ (numS tp T wh (nI h) Y).1 wh = nI v) ∧ (numP tp T h S).2.2.2.1 = false ∧ relY tp T N (numS tp T wh (nI h) Y) (putP (numP tp T h S) wh (if (numP tp T h S).2.2.2.1 = true then (numP tp T h S).1 wh else (numP tp T h S).2.2.2.2))) ∧
    (¬ tnC tp T Y.2 (nI h) = true → (numS tp T wh (nI h) Y).1 wh < 0 ∧ (numP tp T h S).2.2.2.1 = true ∧ (numP tp T h S).2.1 = (numS tp T wh (nI h) Y).2.1) := by
  obtain ⟨h1, h2, h3, h4, h5, h6, h7, h8⟩ := id hr
  obtain ⟨e1, e2⟩ := num_b h1 hh
  have en : numP tp T h S = mustP tp T (tnC tp T Y.2 (nI h)) (S.1, S.2.1, S.2.2.1, S.2.2.2.1, numV tp T S.2.1 S.2.2.1) := by
    unfold numP
    rw [if_neg (by rw [h4]; decide), e1, h2, h3]
  constructor
  · intro c
    obtain ⟨e3, v, hv, e4⟩ := e2 c
    have en2 : numP tp T h S = (S.1, tokA tp T S.2.2.1, tokB tp T S.2.2.1, false, numV tp T S.2.1 S.2.2.1) := by
      rw [en, c]
      exact must_t h4
    have es : numS tp T wh (nI h) Y = (upd Y.1 wh (nI v), advT tp T Y.2) := by
      unfold numS tnF
      rw [if_pos c, if_pos c, e4]
    rw [es, en2]
    refine ⟨⟨v, hv, upd_s⟩, rfl, ?_⟩
    show relY tp T N (upd Y.1 wh (nI v), advT tp T Y.2) (upd S.1 wh (if false = true then S.1 wh else numV tp T S.2.1 S.2.2.1), tokA tp T S.2.2.1, tokB tp T S.2.2.1, false, numV tp T S.2.1 S.2.2.1)
    rw [if_neg (by decide), h2, h3, ← e3, e4]
    exact ⟨advT_wf h1.2.1, rfl, rfl, rfl, h5.up rfl, (upd_0 h0).trans h6, h7, hx v hv⟩
  · intro c
    have en2 : numP tp T h S = (S.1, S.2.1, S.2.2.1, true, numV tp T S.2.1 S.2.2.1) := by
      rw [en, Bool.eq_false_iff.mpr c]
      exact must_f
    have es : numS tp T wh (nI h) Y = (upd Y.1 wh (-1), Y.2) := by
      unfold numS tnF
      rw [if_neg c, if_neg c]
    rw [es, en2]
    exact ⟨by show upd Y.1 wh (-1) wh < 0; rw [upd_s]; decide, rfl, h2⟩
/-- a word and a number that becomes something -/
theorem fin_y {N wh h : Nat} {Y : CS} {S : PS} (hr : relY tp T N Y S) (hh : h ≤ 9999) (h0 : wh ≠ 0) (hx : ∀ v : Nat, v ≤ h → okR N (upd S.1 wh (nI v))) : resY tp T (finS wh (numS tp T wh (nI h) (Y.1, advT tp T Y.2))) (setP tp T wh h S) := by
  have h1 := rel_adv hr
  have hrow : (mustP tp T true S).1 = S.1 := mustP_row
  have h2 := num_y (wh := wh) (h := h) h1 hh h0 (by rw [hrow]; exact hx)
  unfold finS setP
  by_cases c : tnC tp T (advT tp T Y.2) (nI h) = true
  · obtain ⟨⟨v, hv, e1⟩, e2, e3⟩ := h2.1 c
    rw [if_neg (by rw [e1]; exact nI_pos (by omega))]
    exact ⟨e3.2.1, fun _ => ⟨N, e3⟩, fun q => by simp at q⟩
  · obtain ⟨e1, e2, e3⟩ := h2.2 c
    rw [if_pos e1]
    exact ⟨e3, fun q => by simp at q, fun _ => e2⟩
theorem lN_num : (hsW.map lN) = [773205170, 542257202, 13097138, 394661, 3413044, 17494690093, 52, 147182, 609275374, 218564, 16955865, 591150, 4697] := by decide +kernel
theorem kd_y {Y : CS} {S : PS} (hw : wfX tp T Y.2) (h1 : S.2.1 = Y.2.1) (h2 : S.2.2.1 = Y.2.2.1) (h3 : S.2.2.2.1 = false) : kdL tp T Y.2 6 0 = kindF (wordF tp T S) := by
  have w0 : isW tp T Y.2 0 = true ↔ wordF tp T S = 773205170 := word_b (i := 0) hw h1 h2 h3 (by decide)
  have w1 : isW tp T Y.2 1 = true ↔ wordF tp T S = 542257202 := word_b (i := 1) hw h1 h2 h3 (by decide)
  have w2 : isW tp T Y.2 2 = true ↔ wordF tp T S = 13097138 := word_b (i := 2) hw h1 h2 h3 (by decide)
  have w3 : isW tp T Y.2 3 = true ↔ wordF tp T S = 394661 := word_b (i := 3) hw h1 h2 h3 (by decide)
  have w4 : isW tp T Y.2 4 = true ↔ wordF tp T S = 3413044 := word_b (i := 4) hw h1 h2 h3 (by decide)
  have w5 : isW tp T Y.2 5 = true ↔ wordF tp T S = 17494690093 := word_b (i := 5) hw h1 h2 h3 (by decide)
  unfold kindF
  show (if isW tp T Y.2 0 = true then nI 0 else if isW tp T Y.2 1 = true then nI 1 else if isW tp T Y.2 2 = true then nI 2 else if isW tp T Y.2 3 = true then nI 3 else if isW tp T Y.2 4 = true then nI 4 else if isW tp T Y.2 5 = true then nI 5 else -1) = _
  simp only [w0, w1, w2, w3, w4, w5]
theorem add_at {s : Nat → Int32} {N k : Nat} {kd : Int32} (hk : k < 5 + 8 * N) (h0 : k ≠ 0) : addF s N kd (nI 0) k = s k := by
  unfold addF
  rw [upd_n h0, upd_n (by omega), upd_n (by omega), upd_n (by omega), upd_n (by omega)]
  unfold zrn
  rw [if_neg (by omega)]
theorem okR_add {s : Nat → Int32} {N : Nat} {kd ml : Int32} (h : okR N s) (hm : rng 12 ml) : okR (N + 1) (addF s N kd ml) := by
  have key : ∀ k, k < 5 + 8 * N → k ≠ 0 → addF s N kd ml k = s k := by
    intro k hk h0
    unfold addF
    rw [upd_n h0, upd_n (by omega), upd_n (by omega), upd_n (by omega), upd_n (by omega)]
    unfold zrn
    rw [if_neg (by omega)]
  refine ⟨by rw [key 2 (by omega) (by omega)]; exact h.1, by rw [key 3 (by omega) (by omega)]; exact h.2.1, by rw [key 4 (by omega) (by omega)]; exact h.2.2.1, fun i hi => ?_⟩
  rcases Nat.lt_or_ge i N with q | q
  · obtain ⟨a, b, c⟩ := h.2.2.2 i q
    refine ⟨?_, ?_, ?_⟩
    · rw [key _ (by omega) (by omega)]; exact a
    · rw [key _ (by omega) (by omega)]; exact b
    · rw [key _ (by omega) (by omega)]; exact c
  · have : i = N := by omega
    subst this
    unfold addF
    refine ⟨?_, ?_, ?_⟩
    · rw [upd_n (by omega), upd_n (by omega), upd_n (by omega), upd_s]
      exact hm
    · rw [upd_n (by omega), upd_n (by omega), upd_n (by omega), upd_n (by omega), upd_n (by omega)]
      unfold zrn
      rw [if_pos (by omega)]
      exact ⟨0, by omega, rfl⟩
    · rw [upd_n (by omega), upd_n (by omega), upd_n (by omega), upd_n (by omega), upd_n (by omega)]
      unfold zrn
      rw [if_pos (by omega)]
      exact ⟨0, by omega, rfl⟩
/-- once wrong, what follows stands still -/
theorem part_w {S : PS} {nm : Int64} {wh mo : Nat} (h : S.2.2.2.1 = true) (hn : nm ≠ 0) : partP tp T nm wh mo S = S := by
  unfold partP
  rw [wordF_w h, if_neg (fun e => hn e.symm)]
theorem down_w {S : PS} {wh : Nat} (h : S.2.2.2.1 = true) : downP tp T wh S = S := by
  unfold downP
  rw [wordF_w h, if_neg (by decide)]
theorem reason_y {N : Nat} {Y : CS} {S : PS} (hr : relY tp T (N + 1) Y S) (h5 : Y.1 (5 + 8 * N + 3) = nI 5) : resY tp T (wk4 tp T N Y) (partP tp T 609275374 (5 + 8 * N + 3) 9 S) := by
  have hw : isW tp T Y.2 8 = true ↔ wordF tp T S = 609275374 := word_b (i := 8) hr.1 hr.2.1 hr.2.2.1 hr.2.2.2.1 (by decide)
  unfold wk4 partP
  by_cases c : isW tp T Y.2 8 = true
  · rw [if_pos c, if_pos (hw.mp c)]
    have h1 := fin_y (wh := 5 + 8 * N + 3) (h := 9) hr (by omega) (by omega) (fun v hv => okR_up hr.2.2.2.2.2.2.2 (by omega) (by omega) (by omega) (fun j hj => ⟨by omega, by omega, by omega⟩))
    exact h1
  · rw [if_neg c, if_neg (fun q => c (hw.mpr q))]
    unfold wk5
    rw [h5, if_neg (by decide)]
    exact ⟨hr.2.1, fun _ => ⟨N + 1, hr⟩, fun q => by simp at q⟩
theorem down_y {N : Nat} {Y : CS} {S : PS} (hr : relY tp T (N + 1) Y S) (h5 : Y.1 (5 + 8 * N + 3) = nI 5) : resY tp T (wk3 tp T N Y) (partP tp T 609275374 (5 + 8 * N + 3) 9 (downP tp T (5 + 8 * N + 2) S)) := by
  have hw : isW tp T Y.2 7 = true ↔ wordF tp T S = 147182 := word_b (i := 7) hr.1 hr.2.1 hr.2.2.1 hr.2.2.2.1 (by decide)
  unfold wk3 downP
  by_cases c : isW tp T Y.2 7 = true
  · rw [if_pos c, if_pos (hw.mp c)]
    have h1 := rel_adv hr
    have hrow : (mustP tp T true S).1 = S.1 := mustP_row
    have h2 := rel_upd (k := 5 + 8 * N + 2) (x := nI 0) h1 (by omega) (by rw [hrow]; exact okR_up hr.2.2.2.2.2.2.2 (by omega) (by omega) (by omega) (fun j hj => ⟨by omega, by omega, by omega⟩))
    exact reason_y h2 ((upd_n (by omega)).trans h5)
  · rw [if_neg c, if_neg (fun q => c (hw.mpr q))]
    exact reason_y hr h5
theorem walk_y {N : Nat} {kd : Int32} {Y : CS} {S : PS} (hr : relY tp T N Y S) : resY tp T (walkS tp T N kd Y) (walkP tp T N kd S) := by
  unfold walkS walkP
  by_cases c : 8 ≤ N
  · rw [if_pos c, decide_eq_false (by omega), must_f, if_pos rfl]
    exact ⟨hr.2.1, fun q => by simp at q, fun _ => rfl⟩
  · rw [if_neg c, decide_eq_true (by omega)]
    have h1 := rel_adv hr
    rw [if_neg (by rw [h1.2.2.2.1]; decide)]
    have hrow : (mustP tp T true S).1 = S.1 := mustP_row
    generalize hS1 : mustP tp T true S = S1 at h1 hrow
    generalize advT tp T Y.2 = X1 at h1
    obtain ⟨a1, a2, a3, a4, a5, a6, a7, a8⟩ := h1
    have h2 : relY tp T (N + 1) (addF Y.1 N kd (nI 0), X1) (addF S1.1 N kd (nI 0), S1.2) := ⟨a1, a2, a3, a4, add_c a5, by show addF Y.1 N kd (nI 0) 0 = nI (N + 1); unfold addF; exact upd_s, by omega, okR_add a8 ⟨0, by omega, rfl⟩⟩
    have h5 : addF Y.1 N kd (nI 0) (5 + 8 * N + 3) = nI 5 := by
      unfold addF
      rw [upd_n (by omega), upd_s]
    show resY tp T (wk1 tp T N (addF Y.1 N kd (nI 0), X1)) _
    generalize addF Y.1 N kd (nI 0) = y1 at h2 h5
    generalize (addF S1.1 N kd (nI 0), S1.2) = S2 at h2
    have hw : isW tp T X1 6 = true ↔ wordF tp T S2 = 52 := word_b (i := 6) h2.1 h2.2.1 h2.2.2.1 h2.2.2.2.1 (by decide)
    unfold wk1
    by_cases q : isW tp T X1 6 = true
    · rw [if_pos q]
      have h3 := rel_adv h2
      have hrow2 : (mustP tp T true S2).1 = S2.1 := mustP_row
      have h4 := num_y (wh := 5 + 8 * N + 1) (h := 12) h3 (by omega) (by omega) (fun v hv => by rw [hrow2]; exact okR_up h2.2.2.2.2.2.2.2 (by omega) (by omega) (by omega) (fun j hj => ⟨fun _ => ⟨v, hv, rfl⟩, by omega, by omega⟩))
      have ep : partP tp T 52 (5 + 8 * N + 1) 12 S2 = putP (numP tp T 12 (mustP tp T true S2)) (5 + 8 * N + 1) (if (numP tp T 12 (mustP tp T true S2)).2.2.2.1 = true then (numP tp T 12 (mustP tp T true S2)).1 (5 + 8 * N + 1) else (numP tp T 12 (mustP tp T true S2)).2.2.2.2) := if_pos (hw.mp q)
      rw [ep]
      unfold wk2
      by_cases d : tnC tp T (advT tp T X1) (nI 12) = true
      · obtain ⟨⟨v, hv, e1⟩, e2, e3⟩ := h4.1 d
        rw [if_pos (by rw [e1]; exact pos_le (by omega))]
        refine down_y e3 ?_
        show upd y1 (5 + 8 * N + 1) _ (5 + 8 * N + 3) = nI 5
        rw [upd_n (by omega)]
        exact h5
      · obtain ⟨e1, e2, e3⟩ := h4.2 d
        rw [if_neg (Int32.not_le.mpr e1)]
        generalize (if (numP tp T 12 (mustP tp T true S2)).2.2.2.1 = true then (numP tp T 12 (mustP tp T true S2)).1 (5 + 8 * N + 1) else (numP tp T 12 (mustP tp T true S2)).2.2.2.2) = zz
        have e9 : (putP (numP tp T 12 (mustP tp T true S2)) (5 + 8 * N + 1) zz).2.2.2.1 = true := e2
        rw [down_w e9, part_w e9 (by decide)]
        exact ⟨e3, fun z => by simp at z, fun _ => e2⟩
    · rw [if_neg q]
      have ep : partP tp T 52 (5 + 8 * N + 1) 12 S2 = S2 := if_neg (fun z => q (hw.mpr z))
      rw [ep]
      exact down_y h2 h5
theorem item_y {N : Nat} {Y : CS} {S : PS} (hr : relY tp T N Y S) : resY tp T (itemS tp T N Y) (itemP tp T N S) := by
  have h8 := hr.2.2.2.2.2.2.2
  have w9 : isW tp T Y.2 9 = true ↔ wordF tp T S = 218564 := word_b (i := 9) hr.1 hr.2.1 hr.2.2.1 hr.2.2.2.1 (by decide)
  have w10 : isW tp T Y.2 10 = true ↔ wordF tp T S = 16955865 := word_b (i := 10) hr.1 hr.2.1 hr.2.2.1 hr.2.2.2.1 (by decide)
  have w11 : isW tp T Y.2 11 = true ↔ wordF tp T S = 591150 := word_b (i := 11) hr.1 hr.2.1 hr.2.2.1 hr.2.2.2.1 (by decide)
  have w12 : isW tp T Y.2 12 = true ↔ wordF tp T S = 4697 := word_b (i := 12) hr.1 hr.2.1 hr.2.2.1 hr.2.2.2.1 (by decide)
  have hk := kd_y (Y := Y) (S := S) hr.1 hr.2.1 hr.2.2.1 hr.2.2.2.1
  unfold itemS itemP
  rw [hk]
  by_cases c : kindF (wordF tp T S) < 0
  · rw [if_pos c, if_pos c]
    unfold it1
    by_cases c9 : isW tp T Y.2 9 = true
    · rw [if_pos c9, if_pos (w9.mp c9)]
      exact fin_y hr (by omega) (by omega) (fun v hv => okR_up h8 (fun _ => ⟨v, by omega, rfl⟩) (by omega) (by omega) (fun j hj => ⟨by omega, by omega, by omega⟩))
    · rw [if_neg c9, if_neg (fun z => c9 (w9.mpr z))]
      unfold it2
      by_cases c10 : isW tp T Y.2 10 = true
      · rw [if_pos c10, if_pos (w10.mp c10)]
        exact fin_y hr (by omega) (by omega) (fun v hv => okR_up h8 (by omega) (fun _ => ⟨v, by omega, rfl⟩) (by omega) (fun j hj => ⟨by omega, by omega, by omega⟩))
      · rw [if_neg c10, if_neg (fun z => c10 (w10.mpr z))]
        have h1 := rel_adv hr
        have hrow : (mustP tp T true S).1 = S.1 := mustP_row
        unfold it3 rainP
        by_cases c11 : isW tp T Y.2 11 = true
        · rw [if_pos c11, decide_eq_true (w11.mp c11), Bool.true_or, h1.2.2.2.1, if_neg (by decide), if_pos (w11.mp c11)]
          exact ⟨h1.2.1, fun _ => ⟨N, rel_upd (k := 4) (x := nI 1) h1 (by omega) (by rw [hrow]; exact okR_up h8 (by omega) (by omega) (fun _ => ⟨1, by omega, rfl⟩) (fun j hj => ⟨by omega, by omega, by omega⟩))⟩, fun z => by simp at z⟩
        · rw [if_neg c11, decide_eq_false (fun z => c11 (w11.mpr z)), Bool.false_or]
          unfold it4
          by_cases c12 : isW tp T Y.2 12 = true
          · rw [if_pos c12, decide_eq_true (w12.mp c12), h1.2.2.2.1, if_neg (by decide), if_neg (fun z => c11 (w11.mpr z))]
            exact ⟨h1.2.1, fun _ => ⟨N, rel_upd (k := 4) (x := nI 0) h1 (by omega) (by rw [hrow]; exact okR_up h8 (by omega) (by omega) (fun _ => ⟨0, by omega, rfl⟩) (fun j hj => ⟨by omega, by omega, by omega⟩))⟩, fun z => by simp at z⟩
          · rw [if_neg c12, decide_eq_false (fun z => c12 (w12.mpr z)), must_f]
            exact ⟨hr.2.1, fun z => by simp at z, fun _ => rfl⟩
  · rw [if_neg c, if_neg c]
    exact walk_y hr
/-- the end of both -/
def endY (T : Nat) (C : CS × Int32) (M : PS × Nat) : Prop := C.2 = (if M.1.2.2.2.1 = true ∨ M.1.2.1 < T then -1 - nI M.1.2.1 else nI M.2) ∧ (¬ (M.1.2.2.2.1 = true ∨ M.1.2.1 < T) → ∃ N, N ≤ 8 ∧ C.1.1 0 = nI N ∧ agr (5 + 8 * N) C.1.1 M.1.1 ∧ okR N M.1.1) ∧ M.1.2.1 ≤ T ∧ M.2 ≤ 121
theorem sort0 {f : Nat} : sortF tp T f = 0 ↔ ¬ f < T := by
  unfold sortF
  constructor
  · intro h c
    rw [if_pos c] at h
    revert h
    repeat' split
    all_goals decide
  · intro c
    rw [if_neg c]
    rfl
theorem sort3 {f : Nat} : sortF tp T f = nI 3 ↔ bAt tp T f = nI 59 := by
  unfold sortF
  constructor
  · intro h
    split at h
    · split at h
      · exact absurd h (by decide)
      · split at h
        · exact absurd h (by decide)
        · split at h
          · assumption
          · exact absurd h (by decide)
    · exact absurd h (by decide)
  · intro h
    have hf : f < T := by
      rcases Nat.lt_or_ge f T with q | q
      · exact q
      · rw [bAt_T (by omega)] at h
        exact absurd h (by decide)
    rw [if_pos hf, if_neg (fun q => by unfold isLt at q; rw [h] at q; exact absurd q (by decide)), if_neg (fun q => by unfold isDg at q; rw [h] at q; exact absurd q (by decide)), if_pos h]
theorem okS_of {N : Nat} {Y : CS} {S : PS} (h : relY tp T N Y S) : okS T S := by
  obtain ⟨h1, h2, h3, h4, h5, h6, h7, h8⟩ := h
  exact ⟨by rw [h2, h3]; exact h1.1, by rw [h3]; exact h1.2.1, by rw [h2, h3]; exact h1.2.2.1, N, h7, by rw [← h5 0 (by omega)]; exact h6⟩
theorem item_end {N : Nat} {Y : CS} {S : PS} (hr : relY tp T N Y S) (hf : ¬ Y.2.1 < T) : (itemP tp T N S).2.2.2.1 = true ∧ (itemP tp T N S).2.1 = Y.2.1 := by
  have e : wordF tp T S = 0 := by
    unfold wordF
    rw [if_neg (by rw [hr.2.2.2.1]; decide), hr.2.1, no_lt hf, if_neg (by decide)]
  unfold itemP
  rw [e, if_pos (by decide), if_neg (by decide), if_neg (by decide)]
  unfold rainP
  rw [decide_eq_false (by decide), decide_eq_false (by decide), Bool.false_or, must_f]
  exact ⟨rfl, hr.2.1⟩
theorem text_y : ∀ (n m k N : Nat) (Y : CS) (S : PS), relY tp T N Y S → n + k = 120 → T ≤ 120 → k ≤ Y.2.1 → T ≤ m + Y.2.1 → endY T (tellS tp T n Y k) (textP tp T m (itemP tp T N S) (k + 1))
  | 0, m, k, N, Y, S, hr, hn, hT, hk, hm => by
    have hT2 := hr.1.2.1
    have h1 := hr.1.1
    have h2 := item_end hr (by omega)
    have hle : (itemP tp T N S).2.1 ≤ T := Nat.le_trans (itemP_ok (okS_of hr)).1 (itemP_ok (okS_of hr)).2.1
    have e : textP tp T m (itemP tp T N S) (k + 1) = (itemP tp T N S, k + 1) := by
      cases m with
      | zero => rfl
      | succ m => exact if_pos h2.1
    rw [e]
    refine ⟨?_, fun q => absurd (Or.inl h2.1) q, hle, by show k + 1 ≤ 121; omega⟩
    show -1 - nI Y.2.1 = _
    rw [if_pos (Or.inl h2.1), h2.2]
  | n + 1, m, k, N, Y, S, hr, hn, hT, hk, hm => by
    have hi := item_y hr
    have hnw : nW Y.1 = N := nW_of hr.2.2.2.2.2.2.1 hr.2.2.2.2.2.1
    have hf := itemP_f (tp := tp) (N := N) (okS_of hr)
    have hle : (itemP tp T N S).2.1 ≤ T := Nat.le_trans (itemP_ok (okS_of hr)).1 (itemP_ok (okS_of hr)).2.1
    rw [hr.2.1] at hf
    by_cases c : (itemS tp T N Y).2 = true
    · obtain ⟨N', h2⟩ := hi.2.1 c
      have hw := h2.2.2.2.1
      by_cases d : sortF tp T (itemS tp T N Y).1.2.1 = 0
      · rw [tellS_0 (by rw [hnw]; exact c) (by rw [hnw]; exact d), hnw]
        have hge := sort0.mp d
        have e : textP tp T m (itemP tp T N S) (k + 1) = (itemP tp T N S, k + 1) := by
          cases m with
          | zero => rfl
          | succ m => exact (if_neg (by rw [hw]; decide)).trans (if_neg (by rw [h2.2.1, bAt_T hge]; decide))
        rw [e]
        have hn2 : ¬ ((itemP tp T N S).2.2.2.1 = true ∨ (itemP tp T N S).2.1 < T) := by
          rw [hw, h2.2.1]
          intro q
          rcases q with q | q
          · exact absurd q (by decide)
          · exact hge q
        refine ⟨?_, fun _ => ⟨N', h2.2.2.2.2.2.2.1, h2.2.2.2.2.2.1, h2.2.2.2.2.1, h2.2.2.2.2.2.2.2⟩, hle, by show k + 1 ≤ 121; omega⟩
        rw [if_neg hn2]
      · have hlt : (itemS tp T N Y).1.2.1 < T := by
          rcases Nat.lt_or_ge (itemS tp T N Y).1.2.1 T with q | q
          · exact q
          · exact absurd (sort0.mpr (by omega)) d
        by_cases e3 : sortF tp T (itemS tp T N Y).1.2.1 = nI 3
        · rw [tellS_s (by rw [hnw]; exact c) (by rw [hnw]; exact d) (by rw [hnw]; exact e3), hnw]
          have h3 := rel_adv h2
          have hge : (itemS tp T N Y).1.2.1 < (advT tp T (itemS tp T N Y).1.2).1 := by
            have a1 := h2.1.2.2.1 hlt
            have a2 := (tokA_in (tp := tp) h2.1.2.1).1
            show _ < tokA tp T (itemS tp T N Y).1.2.2.1
            omega
          rw [h2.2.1] at hf
          cases m with
          | zero => exfalso; omega
          | succ m =>
            have e : textP tp T (m + 1) (itemP tp T N S) (k + 1) = textP tp T m (itemP tp T (nW (itemP tp T N S).1) (mustP tp T true (itemP tp T N S))) (k + 1 + 1) := (if_neg (by rw [hw]; decide)).trans (if_pos (by rw [h2.2.1]; exact sort3.mp e3))
            have hnw2 : nW (itemP tp T N S).1 = N' := nW_of h2.2.2.2.2.2.2.1 (by rw [← h2.2.2.2.2.1 0 (by omega)]; exact h2.2.2.2.2.2.1)
            rw [e, hnw2]
            exact text_y n m (k + 1) N' _ _ h3 (by omega) hT (by show k + 1 ≤ (advT tp T (itemS tp T N Y).1.2).1; omega) (by show T ≤ m + (advT tp T (itemS tp T N Y).1.2).1; omega)
        · rw [tellS_x (by rw [hnw]; exact c) (by rw [hnw]; exact d) (by rw [hnw]; exact e3), hnw]
          have e : textP tp T m (itemP tp T N S) (k + 1) = (itemP tp T N S, k + 1) := by
            cases m with
            | zero => rfl
            | succ m => exact (if_neg (by rw [hw]; decide)).trans (if_neg (by rw [h2.2.1]; exact fun q => e3 (sort3.mpr q)))
          rw [e]
          have hy : (itemP tp T N S).2.2.2.1 = true ∨ (itemP tp T N S).2.1 < T := Or.inr (by rw [h2.2.1]; exact hlt)
          refine ⟨?_, fun q => absurd hy q, hle, by show k + 1 ≤ 121; omega⟩
          rw [if_pos hy, h2.2.1]
    · rw [tellS_f (by rw [hnw]; exact c), hnw]
      have hw := hi.2.2 (Bool.eq_false_iff.mpr c)
      have e : textP tp T m (itemP tp T N S) (k + 1) = (itemP tp T N S, k + 1) := by
        cases m with
        | zero => rfl
        | succ m => exact if_pos hw
      rw [e]
      refine ⟨?_, fun q => absurd (Or.inl hw) q, hle, by show k + 1 ≤ 121; omega⟩
      rw [if_pos (Or.inl hw), hi.1]
end TXT
