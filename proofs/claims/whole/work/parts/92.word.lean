/-! words: letters as digits to the base 32, told apart -/
def wN (d : Nat → Nat) : Nat → Nat
  | 0 => 0
  | n + 1 => if wN d n ≤ 36028797018963967 then 32 * wN d n + d n else wN d n
def hN (es : Nat → Nat) : Nat → Nat
  | 0 => 0
  | n + 1 => 32 * hN es n + es n
theorem wN_h {d es : Nat → Nat} : ∀ (L n : Nat), (∀ j, j < L → 1 ≤ es j ∧ es j ≤ 26) → (∀ j, j < n → 1 ≤ d j ∧ d j ≤ 26) → hN es L ≤ 36028797018963967 → (wN d n = hN es L ↔ n = L ∧ ∀ j, j < L → d j = es j)
  | 0, 0, _, _, _ => ⟨fun _ => ⟨rfl, fun j h => absurd h (Nat.not_lt_zero j)⟩, fun _ => rfl⟩
  | 0, n + 1, _, hd, _ => by
    constructor
    · intro h
      exfalso
      have h1 := hd n (by omega)
      unfold wN at h
      have h : (if wN d n ≤ 36028797018963967 then 32 * wN d n + d n else wN d n) = 0 := h
      split at h <;> omega
    · intro h
      omega
  | L + 1, 0, he, _, _ => by
    constructor
    · intro h
      exfalso
      have h1 := he L (by omega)
      have h : 0 = 32 * hN es L + es L := h
      omega
    · intro h
      omega
  | L + 1, n + 1, he, hd, hL => by
    have h1 := he L (by omega)
    have h2 := hd n (by omega)
    have hL' : 32 * hN es L + es L ≤ 36028797018963967 := hL
    have ih := wN_h (d := d) (es := es) L n (fun j hj => he j (by omega)) (fun j hj => hd j (by omega)) (by omega)
    show (if wN d n ≤ 36028797018963967 then 32 * wN d n + d n else wN d n) = 32 * hN es L + es L ↔ _
    constructor
    · intro h
      split at h
      · have e : wN d n = hN es L ∧ d n = es L := by omega
        obtain ⟨e1, e2⟩ := ih.mp e.1
        subst e1
        refine ⟨rfl, fun j hj => ?_⟩
        rcases Nat.lt_or_ge j n with q | q
        · exact e2 j q
        · have : j = n := by omega
          subst this
          exact e.2
      · omega
    · intro h
      obtain ⟨e1, e2⟩ := h
      have e1 : n = L := by omega
      have e := ih.mpr ⟨e1, fun j hj => e2 j (by omega)⟩
      have e3 : d n = es L := by rw [e1]; exact e2 L (by omega)
      rw [if_pos (by omega), e, e3]
theorem wN_lt {d : Nat → Nat} : ∀ (n : Nat), (∀ j, j < n → d j ≤ 26) → wN d n < 2 ^ 60
  | 0, _ => by show 0 < 2 ^ 60; decide
  | n + 1, h => by
    have ih := wN_lt (d := d) n (fun j hj => h j (by omega))
    have h1 := h n (by omega)
    show (if wN d n ≤ 36028797018963967 then 32 * wN d n + d n else wN d n) < 2 ^ 60
    split <;> omega
def stW (v : Int64) (c : Int32) : Int64 := if v ≤ 36028797018963967 then 32 * v + (c - nI 96).toInt64 else v
theorem wordL_s {tp : Nat → Int32} : ∀ (n k : Nat) (v : Int64), wordL tp (n + 1) k v = stW (wordL tp n k v) (tp (k + n))
  | 0, _, _ => rfl
  | n + 1, k, v => by
    show wordL tp (n + 1) (k + 1) (stW v (tp k)) = stW (wordL tp n (k + 1) (stW v (tp k))) (tp (k + (n + 1)))
    rw [wordL_s n (k + 1), show k + 1 + n = k + (n + 1) by omega]
theorem sub96 {d : Nat} : nI (96 + d) - nI 96 = nI d := by
  rw [sub_nI (by omega)]
  congr 1
  omega
theorem wordL_N {tp : Nat → Int32} {f : Nat} {d : Nat → Nat} : ∀ (n : Nat), (∀ j, j < n → tp (f + j) = nI (96 + d j) ∧ d j ≤ 26) → wordL tp n f 0 = lN (wN d n)
  | 0, _ => rfl
  | n + 1, h => by
    rw [wordL_s, wordL_N n (fun j hj => h j (by omega)), (h n (by omega)).1]
    have hb := wN_lt (d := d) n (fun j hj => (h j (by omega)).2)
    have hd := (h n (by omega)).2
    unfold stW
    have e1 : (lN (wN d n) ≤ 36028797018963967) ↔ wN d n ≤ 36028797018963967 := by
      rw [Int64.le_iff_toInt_le]
      have a1 : (lN (wN d n)).toInt = (wN d n : Int) := lg_ofNat_toInt (by omega)
      have a2 : (36028797018963967 : Int64).toInt = 36028797018963967 := by decide
      rw [a1, a2]
      omega
    show _ = lN (if wN d n ≤ 36028797018963967 then 32 * wN d n + d n else wN d n)
    by_cases c : wN d n ≤ 36028797018963967
    · rw [if_pos (e1.mpr c), if_pos c, sub96, nI_l (by omega), show (32 : Int64) = lN 32 from rfl, lN_mul, lN_add]
    · rw [if_neg (fun q => c (e1.mp q)), if_neg c]
def esW (i k : Nat) : Nat := (tgC i k).toNatClampNeg - 96
def hsW : List Nat := [773205170, 542257202, 13097138, 394661, 3413044, 17494690093, 52, 147182, 609275374, 218564, 16955865, 591150, 4697]
theorem esW_ok : ∀ i, i < 13 → ∀ k, k < tgN i → (tgC i k = nI (96 + esW i k) ∧ 1 ≤ esW i k ∧ esW i k ≤ 26) := by decide +kernel
theorem hsW_ok : ∀ i, i < 13 → (hN (esW i) (tgN i) = hsW.getD i 0 ∧ hsW.getD i 0 ≤ 36028797018963967 ∧ 1 ≤ hsW.getD i 0) := by decide +kernel
theorem isLt_ix {tp : Nat → Int32} {T k : Nat} (h : isLt tp T k = true) : k < T ∧ ∃ d : Nat, 1 ≤ d ∧ d ≤ 26 ∧ tp k = nI (96 + d) := by
  have hk : k < T := by
    rcases Nat.lt_or_ge k T with q | q
    · exact q
    · rw [no_lt (by omega)] at h
      cases h
  refine ⟨hk, ?_⟩
  unfold isLt bAt at h
  rw [if_pos hk] at h
  obtain ⟨i, h1, h2, h3⟩ := rg_ix (a := 97) (b := 122) (by decide) h
  exact ⟨i - 96, by omega, by omega, by rw [h3]; congr 1; omega⟩
theorem isDg_ix {tp : Nat → Int32} {T k : Nat} (h : isDg tp T k = true) : k < T ∧ ∃ d : Nat, d ≤ 9 ∧ tp k = nI (48 + d) := by
  have hk : k < T := by
    rcases Nat.lt_or_ge k T with q | q
    · exact q
    · rw [no_dg (by omega)] at h
      cases h
  refine ⟨hk, ?_⟩
  unfold isDg bAt at h
  rw [if_pos hk] at h
  obtain ⟨i, h1, h2, h3⟩ := rg_ix (a := 48) (b := 57) (by decide) h
  exact ⟨i - 48, by omega, by rw [h3]; congr 1; omega⟩
theorem eqW_iff {tp : Nat → Int32} {T f i : Nat} : ∀ (n k : Nat), eqW tp T f i n k = true ↔ ∀ j, k ≤ j → j < k + n → bAt tp T (f + j) = tgC i j
  | 0, k => ⟨fun _ j h1 h2 => by omega, fun _ => rfl⟩
  | n + 1, k => by
    unfold eqW
    rw [Bool.and_eq_true, eqW_iff n (k + 1), decide_eq_true_eq]
    constructor
    · intro h j h1 h2
      rcases Nat.lt_or_ge k j with q | q
      · exact h.2 j (by omega) (by omega)
      · have : j = k := by omega
        subst this
        exact h.1
    · intro h
      exact ⟨h k (by omega) (by omega), fun j h1 h2 => h j (by omega) (by omega)⟩
/-- a token as the tape looks at it -/
def wfX (tp : Nat → Int32) (T : Nat) (X : TX) : Prop := X.1 ≤ X.2.1 ∧ X.2.1 ≤ T ∧ (X.1 < T → X.1 < X.2.1) ∧ (isLt tp T X.1 = true → ∀ k, X.1 ≤ k → k < X.2.1 → isLt tp T k = true) ∧ (isDg tp T X.1 = true → (∀ k, X.1 ≤ k → k < X.2.1 → isDg tp T k = true) ∧ X.2.2 = numC tp T X.1 (X.2.1 - X.1))
theorem sort1 {tp : Nat → Int32} {T f : Nat} : sortF tp T f = nI 1 ↔ isLt tp T f = true := by
  unfold sortF
  constructor
  · intro h
    split at h
    · split at h
      · assumption
      · split at h
        · exact absurd h (by decide)
        · split at h <;> exact absurd h (by decide)
    · exact absurd h (by decide)
  · intro h
    rw [if_pos (isLt_ix h).1, if_pos h]
theorem sort2 {tp : Nat → Int32} {T f : Nat} : sortF tp T f = nI 2 ↔ isDg tp T f = true := by
  unfold sortF
  constructor
  · intro h
    split at h
    · split at h
      · exact absurd h (by decide)
      · split at h
        · assumption
        · split at h <;> exact absurd h (by decide)
    · exact absurd h (by decide)
  · intro h
    rw [if_pos (isDg_ix h).1, if_neg (fun q => lt_dg q h), if_pos h]
theorem word_b {tp : Nat → Int32} {T i : Nat} {X : TX} {S : PS} (hw : wfX tp T X) (h1 : S.2.1 = X.1) (h2 : S.2.2.1 = X.2.1) (h3 : S.2.2.2.1 = false) (hi : i < 13) : isW tp T X i = true ↔ wordF tp T S = lN (hsW.getD i 0) := by
  obtain ⟨hh, hm, hp⟩ := hsW_ok i hi
  have hz : ¬ (0 : Int64) = lN (hsW.getD i 0) := by
    intro e
    have e := congrArg Int64.toInt e
    have a1 : (lN (hsW.getD i 0)).toInt = (hsW.getD i 0 : Int) := lg_ofNat_toInt (by omega)
    rw [a1] at e
    have a2 : (0 : Int64).toInt = 0 := by decide
    rw [a2] at e
    omega
  unfold wordF
  rw [h1, h2, h3, if_neg (by decide)]
  by_cases c : isLt tp T X.1 = true
  · rw [if_pos c]
    have hl := hw.2.2.2.1 c
    have hd : ∃ d : Nat → Nat, ∀ j, j < X.2.1 - X.1 → tp (X.1 + j) = nI (96 + d j) ∧ 1 ≤ d j ∧ d j ≤ 26 := by
      refine ⟨fun j => (tp (X.1 + j)).toNatClampNeg - 96, fun j hj => ?_⟩
      obtain ⟨-, d, d1, d2, d3⟩ := isLt_ix (hl (X.1 + j) (by omega) (by omega))
      have e : (tp (X.1 + j)).toNatClampNeg = 96 + d := by rw [d3]; exact nI_clamp (by omega)
      dsimp only
      rw [e, d3]
      exact ⟨by congr 1; omega, by omega, by omega⟩
    obtain ⟨d, hd⟩ := hd
    rw [wordL_N (d := d) _ (fun j hj => ⟨(hd j hj).1, (hd j hj).2.2⟩)]
    have hb := wN_lt (d := d) (X.2.1 - X.1) (fun j hj => (hd j hj).2.2)
    have e1 : lN (wN d (X.2.1 - X.1)) = lN (hsW.getD i 0) ↔ wN d (X.2.1 - X.1) = hN (esW i) (tgN i) := by
      rw [hh]
      constructor
      · intro e
        have e := congrArg Int64.toInt e
        have a1 : (lN (hsW.getD i 0)).toInt = (hsW.getD i 0 : Int) := lg_ofNat_toInt (by omega)
        have a2 : (lN (wN d (X.2.1 - X.1))).toInt = (wN d (X.2.1 - X.1) : Int) := lg_ofNat_toInt (by omega)
        rw [a1, a2] at e
        omega
      · intro e
        rw [e]
    rw [e1, wN_h (d := d) (es := esW i) (tgN i) (X.2.1 - X.1) (fun j hj => (esW_ok i hi j hj).2) (fun j hj => (hd j hj).2) (by rw [hh]; exact hm)]
    unfold isW
    rw [Bool.and_eq_true, Bool.and_eq_true, decide_eq_true_eq, decide_eq_true_eq, eqW_iff, sort1]
    constructor
    · intro h
      refine ⟨h.2.1, fun j hj => ?_⟩
      have q := h.2.2 j (by omega) (by omega)
      have hj2 : j < X.2.1 - X.1 := by have := h.2.1; omega
      unfold bAt at q
      rw [if_pos (by have := hw.2.1; omega), (hd j hj2).1, (esW_ok i hi j hj).1] at q
      have q := (nI_eq (by have := (hd j hj2).2; omega) (by have := (esW_ok i hi j hj).2; omega)).mp q
      omega
    · intro h
      refine ⟨c, h.1, fun j _ hj => ?_⟩
      have hj : j < tgN i := by omega
      have hj2 : j < X.2.1 - X.1 := by have := h.1; omega
      unfold bAt
      rw [if_pos (by have := hw.2.1; omega), (hd j hj2).1, (esW_ok i hi j hj).1, h.2 j hj]
  · rw [if_neg c]
    constructor
    · intro h
      unfold isW at h
      rw [Bool.and_eq_true, decide_eq_true_eq, sort1] at h
      exact absurd h.1 c
    · intro h
      exact absurd h hz
/-! numbers -/
def mN (e : Nat → Nat) : Nat → Nat
  | 0 => 0
  | n + 1 => if mN e n ≤ 9999 then 10 * mN e n + e n else mN e n
theorem mN_lt {e : Nat → Nat} : ∀ (n : Nat), (∀ j, j < n → e j ≤ 9) → mN e n < 100000
  | 0, _ => by show 0 < 100000; decide
  | n + 1, h => by
    have ih := mN_lt (e := e) n (fun j hj => h j (by omega))
    have h1 := h n (by omega)
    show (if mN e n ≤ 9999 then 10 * mN e n + e n else mN e n) < 100000
    split <;> omega
def stN (v c : Int32) : Int32 := if v ≤ nI 9999 then nI 10 * v + c - nI 48 else v
theorem numL_s {tp : Nat → Int32} : ∀ (n k : Nat) (v : Int32), numL tp (n + 1) k v = stN (numL tp n k v) (tp (k + n))
  | 0, _, _ => rfl
  | n + 1, k, v => by
    show numL tp (n + 1) (k + 1) (stN v (tp k)) = stN (numL tp n (k + 1) (stN v (tp k))) (tp (k + (n + 1)))
    rw [numL_s n (k + 1), show k + 1 + n = k + (n + 1) by omega]
theorem dig {c d : Nat} : nI 10 * nI c + nI (48 + d) - nI 48 = nI (10 * c + d) := by
  rw [pk_mul, nI_add, sub_nI (by omega)]
  congr 1
  omega
theorem numL_N {tp : Nat → Int32} {f : Nat} {e : Nat → Nat} : ∀ (n : Nat), (∀ j, j < n → tp (f + j) = nI (48 + e j) ∧ e j ≤ 9) → numL tp n f (nI 0) = nI (mN e n)
  | 0, _ => rfl
  | n + 1, h => by
    rw [numL_s, numL_N n (fun j hj => h j (by omega)), (h n (by omega)).1]
    have hb := mN_lt (e := e) n (fun j hj => (h j (by omega)).2)
    unfold stN
    show _ = nI (if mN e n ≤ 9999 then 10 * mN e n + e n else mN e n)
    by_cases c : mN e n ≤ 9999
    · rw [if_pos (nI_le c (by omega)), if_pos c, dig]
    · rw [if_neg (fun q => c ((nI_leI (by omega) (by omega)).mp q)), if_neg c]
theorem numC_N {tp : Nat → Int32} {T f : Nat} {e : Nat → Nat} : ∀ (n : Nat), (∀ j, j < n → f + j < T ∧ tp (f + j) = nI (48 + e j) ∧ e j ≤ 9) → numC tp T f n = nI (min 10000 (mN e n))
  | 0, _ => rfl
  | n + 1, h => by
    have hb := mN_lt (e := e) n (fun j hj => (h j (by omega)).2.2)
    have hn := h n (by omega)
    show mn (nI 10000) (nI 10 * numC tp T f n + bAt tp T (f + n) - nI 48) = nI (min 10000 (if mN e n ≤ 9999 then 10 * mN e n + e n else mN e n))
    rw [numC_N n (fun j hj => h j (by omega))]
    unfold bAt
    rw [if_pos hn.1, hn.2.1, dig]
    unfold mn
    by_cases c : mN e n ≤ 9999
    · rw [if_pos c, show min 10000 (mN e n) = mN e n by omega]
      by_cases q : 10 * mN e n + e n < 10000
      · rw [if_pos (nI_lt q (by omega))]
        congr 1
        omega
      · rw [if_neg (nI_nlt (by omega) (by omega))]
        congr 1
        omega
    · rw [if_neg c, show min 10000 (mN e n) = 10000 by omega, if_neg (nI_nlt (by omega) (by omega))]
theorem num_b {tp : Nat → Int32} {T h : Nat} {X : TX} (hw : wfX tp T X) (hh : h ≤ 9999) : tnC tp T X (nI h) = (isDg tp T X.1 && rg 0 h (numV tp T X.1 X.2.1)) ∧ (tnC tp T X (nI h) = true → X.2.2 = numV tp T X.1 X.2.1 ∧ ∃ v : Nat, v ≤ h ∧ X.2.2 = nI v) := by
  by_cases c : isDg tp T X.1 = true
  · obtain ⟨hl, hx⟩ := hw.2.2.2.2 c
    have hd : ∃ e : Nat → Nat, ∀ j, j < X.2.1 - X.1 → X.1 + j < T ∧ tp (X.1 + j) = nI (48 + e j) ∧ e j ≤ 9 := by
      refine ⟨fun j => (tp (X.1 + j)).toNatClampNeg - 48, fun j hj => ?_⟩
      obtain ⟨d0, d, d2, d3⟩ := isDg_ix (hl (X.1 + j) (by omega) (by omega))
      have e : (tp (X.1 + j)).toNatClampNeg = 48 + d := by rw [d3]; exact nI_clamp (by omega)
      dsimp only
      rw [e, d3]
      exact ⟨d0, by congr 1; omega, by omega⟩
    obtain ⟨e, he⟩ := hd
    have e1 : X.2.2 = nI (min 10000 (mN e (X.2.1 - X.1))) := by rw [hx]; exact numC_N _ he
    have e2 : numV tp T X.1 X.2.1 = nI (mN e (X.2.1 - X.1)) := by
      unfold numV
      rw [if_pos c]
      exact numL_N _ (fun j hj => (he j hj).2)
    have hb := mN_lt (e := e) (X.2.1 - X.1) (fun j hj => (he j hj).2.2)
    have k1 : X.2.2 ≤ nI h ↔ mN e (X.2.1 - X.1) ≤ h := by
      rw [e1, nI_leI (by omega) (by omega)]
      omega
    have k2 : rg 0 h (numV tp T X.1 X.2.1) = true ↔ mN e (X.2.1 - X.1) ≤ h := by
      rw [e2, rg_iff, nI_toInt (by omega)]
      omega
    unfold tnC
    rw [c, decide_eq_true (sort2.mpr c), Bool.true_and, Bool.true_and]
    refine ⟨?_, fun q => ?_⟩
    · by_cases z : mN e (X.2.1 - X.1) ≤ h
      · rw [decide_eq_true (k1.mpr z), k2.mpr z]
      · rw [decide_eq_false (fun y => z (k1.mp y)), Bool.eq_false_iff.mpr (fun y => z (k2.mp y))]
    · have z := k1.mp (of_decide_eq_true q)
      rw [e1, e2, show min 10000 (mN e (X.2.1 - X.1)) = mN e (X.2.1 - X.1) by omega]
      exact ⟨rfl, _, z, rfl⟩
  · have e : tnC tp T X (nI h) = false := by
      unfold tnC
      rw [decide_eq_false (fun q => c (sort2.mp q)), Bool.false_and]
    rw [e, Bool.eq_false_iff.mpr c]
    exact ⟨rfl, fun q => absurd q (by decide)⟩
/-! a step of the tape makes a token -/
theorem endW_all {tp : Nat → Int32} {T : Nat} : ∀ (n u k : Nat), u ≤ k → k < endW tp T n u → isLt tp T k = true
  | 0, u, k, h1, h2 => by
    have h2 : k < u := h2
    omega
  | n + 1, u, k, h1, h2 => by
    unfold endW at h2
    split at h2
    · rename_i c
      rcases Nat.lt_or_ge u k with q | q
      · exact endW_all n (u + 1) k (by omega) h2
      · have : k = u := by omega
        subst this
        exact c
    · omega
theorem endD_all {tp : Nat → Int32} {T : Nat} : ∀ (n u k : Nat), u ≤ k → k < endD tp T n u → isDg tp T k = true
  | 0, u, k, h1, h2 => by
    have h2 : k < u := h2
    omega
  | n + 1, u, k, h1, h2 => by
    unfold endD at h2
    split at h2
    · rename_i c
      rcases Nat.lt_or_ge u k with q | q
      · exact endD_all n (u + 1) k (by omega) h2
      · have : k = u := by omega
        subst this
        exact c
    · omega
theorem advT_wf {tp : Nat → Int32} {T : Nat} {X : TX} (h : X.2.1 ≤ T) : wfX tp T (advT tp T X) := by
  have h1 := tokB_in (tp := tp) h
  refine ⟨h1.1, h1.2.1, h1.2.2, fun c k k1 k2 => ?_, fun c => ⟨fun k k1 k2 => ?_, ?_⟩⟩
  · have hf := (isLt_ix c).1
    have k2 : k < tokB tp T X.2.1 := k2
    rw [tokB_w rfl hf c] at k2
    exact endW_all _ _ _ k1 k2
  · have hf := (isDg_ix c).1
    have k2 : k < tokB tp T X.2.1 := k2
    rw [tokB_d rfl hf (fun q => lt_dg q c) c] at k2
    exact endD_all _ _ _ k1 k2
  · exact if_pos c
