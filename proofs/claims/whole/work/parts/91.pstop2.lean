/-! who stops: the class's search and the model's -/
theorem not_bv (x : Int32) : (x ^^^ (-1)).toBitVec = ~~~ x.toBitVec := by
  show x.toBitVec ^^^ BitVec.allOnes 32 = ~~~ x.toBitVec
  exact BitVec.xor_allOnes
theorem may_b {sr : Nat → Int32} {N x : Nat} (h8 : N ≤ 8) (hx : x < 2 ^ N) : (nI x &&& (mayX sr N ^^^ (-1)) = 0) ↔ (nI x &&& withL sr 7 N 0 (nI 0) = 0) := by
  have hp : (2 : Nat) ^ N ≤ 256 := pow_8 N (by omega)
  have em : ((nI 1 <<< (nI N &&& 31)) - nI 1).toBitVec.toNat = 2 ^ N - 1 := may_m N (by omega)
  have key : (nI x &&& (mayX sr N ^^^ (-1))) = (nI x &&& withL sr 7 N 0 (nI 0)) := by
    apply Int32.toBitVec_inj.mp
    show (nI x).toBitVec &&& (mayX sr N ^^^ (-1)).toBitVec = (nI x).toBitVec &&& (withL sr 7 N 0 (nI 0)).toBitVec
    rw [not_bv]
    show (nI x).toBitVec &&& ~~~ (((nI 1 <<< (nI N &&& 31)) - nI 1).toBitVec &&& (withL sr 7 N 0 (nI 0) ^^^ (-1)).toBitVec) = _
    rw [not_bv]
    generalize (withL sr 7 N 0 (nI 0)).toBitVec = v
    generalize ((nI 1 <<< (nI N &&& 31)) - nI 1).toBitVec = u at em
    have ex : (nI x).toBitVec.toNat = x := by
      show x % 2 ^ 32 = x
      exact Nat.mod_eq_of_lt (by omega)
    apply BitVec.eq_of_getLsbD_eq
    intro i hi
    simp only [BitVec.getLsbD_and, BitVec.getLsbD_not, hi, decide_true, Bool.true_and]
    by_cases c : i < N
    · have hu : u.getLsbD i = true := by
        rw [← BitVec.testBit_toNat, em, Nat.testBit_two_pow_sub_one]
        simp [c]
      rw [hu]
      cases (nI x).toBitVec.getLsbD i <;> cases v.getLsbD i <;> rfl
    · have hz : (nI x).toBitVec.getLsbD i = false := by
        rw [← BitVec.testBit_toNat, ex]
        exact Nat.testBit_lt_two_pow (Nat.lt_of_lt_of_le hx (Nat.pow_le_pow_right (by decide) (by omega)))
      rw [hz]
      rfl
  rw [key]
/-- what is sought: the least by ones, then by number -/
def bestX (V : Nat → Prop) (M : Nat) (r : Option Nat) : Prop := match r with
  | none => ∀ y, y < M → ¬ V y
  | some x => x < M ∧ V x ∧ ∀ y, y < M → V y → onesL x x 0 < onesL y y 0 ∨ (onesL x x 0 = onesL y y 0 ∧ x ≤ y)
theorem bestX_uni {V : Nat → Prop} {M : Nat} {a b : Option Nat} (ha : bestX V M a) (hb : bestX V M b) : a = b := by
  cases a with
  | none =>
    cases b with
    | none => rfl
    | some y => exact absurd hb.2.1 (ha y hb.1)
  | some x =>
    cases b with
    | none => exact absurd ha.2.1 (hb x ha.1)
    | some y =>
      have h1 := ha.2.2 y hb.1 hb.2.1
      have h2 := hb.2.2 x ha.1 ha.2.1
      have : x = y := by omega
      rw [this]
theorem ones_8 : ∀ N, N < 9 → ∀ x, x < 2 ^ N → onesL x x 0 ≤ N := by decide +kernel
theorem sI_b {N h m : Nat} {a : Nat → Int32} {st : Int32} {V : Nat → Prop} {M : Nat} (hV : ∀ x, x < M → (V x ↔ (nI x &&& st = 0 ∧ 0 < lastC N h (stopC x N 0 a) 2))) {r : Option Nat} (hr : (∀ y, y < M → V y → ¬ onesL y y 0 = m) → bestX V M r) (hm : ∀ y, y < M → V y → m ≤ onesL y y 0) : ∀ (n x : Nat), x + n = M → (∀ y, y < x → V y → ¬ onesL y y 0 = m) → bestX V M (sI N h a st m n x r)
  | 0, x, hx, hy => hr (fun y hy1 hy2 => hy y (by omega) hy2)
  | n + 1, x, hx, hy => by
    unfold sI
    by_cases c : onesL x x 0 = m ∧ nI x &&& st = 0 ∧ 0 < lastC N h (stopC x N 0 a) 2
    · rw [if_pos c]
      refine ⟨by omega, (hV x (by omega)).mpr c.2, fun y hy1 hy2 => ?_⟩
      have h1 := hm y hy1 hy2
      by_cases q : onesL y y 0 = m
      · right
        refine ⟨by omega, ?_⟩
        rcases Nat.lt_or_ge y x with w | w
        · exact absurd q (hy y w hy2)
        · exact w
      · left
        omega
    · rw [if_neg c]
      refine sI_b hV hr hm n (x + 1) (by omega) (fun y hy1 hy2 e => ?_)
      rcases Nat.lt_or_ge y x with w | w
      · exact hy y w hy2 e
      · have : y = x := by omega
        subst this
        exact c ⟨e, (hV y (by omega)).mp hy2⟩
theorem sO_b {N h : Nat} {a : Nat → Int32} {st : Int32} {V : Nat → Prop} {M : Nat} (hV : ∀ x, x < M → (V x ↔ (nI x &&& st = 0 ∧ 0 < lastC N h (stopC x N 0 a) 2))) (hN : ∀ x, x < M → onesL x x 0 ≤ N) : ∀ (n m : Nat), m + n = N + 1 → (∀ y, y < M → V y → m ≤ onesL y y 0) → bestX V M (sO N h a st M n m)
  | 0, m, hm, hy => fun y hy1 hy2 => by
    have h1 := hy y hy1 hy2
    have h2 := hN y hy1
    omega
  | n + 1, m, hm, hy => by
    unfold sO
    refine sI_b hV (fun h1 => sO_b hV hN n (m + 1) (by omega) (fun y hy1 hy2 => ?_)) hy M 0 (by omega) (fun y hy1 => absurd hy1 (Nat.not_lt_zero y))
    have h2 := hy y hy1 hy2
    have h3 := h1 y hy1 hy2
    omega
def toO : Nat → Option Nat
  | 0 => none
  | b + 1 => some b
theorem stopF_b {N q : Nat} {sr : Nat → Int32} {mx : Int32} {V : Nat → Prop} {M : Nat} (hV : ∀ x, x < M → (V x ↔ (nI x &&& (mx ^^^ (-1)) = 0 ∧ ¬ lastsF N q sr x ≤ 0))) : ∀ (n j b : Nat), j + n ≤ M → bestX V j (toO b) → bestX V (j + n) (toO (stopF N q sr mx n j b))
  | 0, j, b, _, h => h
  | n + 1, j, b, hj, h => by
    have key : ∀ b' : Nat, bestX V (j + 1) (toO b') → bestX V (j + (n + 1)) (toO (stopF N q sr mx n (j + 1) b')) := fun b' hb => by
      have := stopF_b hV n (j + 1) b' (by omega) hb
      rw [show j + (n + 1) = j + 1 + n by omega]
      exact this
    have hvj := hV j (by omega)
    cases b with
    | zero =>
      unfold stopF
      apply key
      by_cases c : nI j &&& (mx ^^^ (-1)) = 0
      · rw [if_pos c]
        by_cases d : lastsF N q sr j ≤ 0
        · rw [if_pos d]
          intro y hy hv
          rcases Nat.lt_or_ge y j with w | w
          · exact h y w hv
          · have : y = j := by omega
            subst this
            exact (hvj.mp hv).2 d
        · rw [if_neg d]
          refine ⟨by omega, hvj.mpr ⟨c, d⟩, fun y hy hv => ?_⟩
          rcases Nat.lt_or_ge y j with w | w
          · exact absurd hv (h y w)
          · have : y = j := by omega
            subst this
            exact Or.inr ⟨rfl, Nat.le_refl _⟩
      · rw [if_neg c]
        intro y hy hv
        rcases Nat.lt_or_ge y j with w | w
        · exact h y w hv
        · have : y = j := by omega
          subst this
          exact c (hvj.mp hv).1
    | succ b =>
      have hb : b < j ∧ V b ∧ ∀ y, y < j → V y → onesL b b 0 < onesL y y 0 ∨ (onesL b b 0 = onesL y y 0 ∧ b ≤ y) := h
      have keep : (V j → onesL b b 0 ≤ onesL j j 0) → bestX V (j + 1) (toO (b + 1)) := fun hk => by
        refine ⟨by omega, hb.2.1, fun y hy hv => ?_⟩
        rcases Nat.lt_or_ge y j with w | w
        · exact hb.2.2 y w hv
        · have : y = j := by omega
          subst this
          have := hk hv
          omega
      unfold stopF
      apply key
      by_cases c : nI j &&& (mx ^^^ (-1)) = 0
      · rw [if_pos c]
        by_cases o : onesL b b 0 ≤ onesL j j 0
        · rw [if_pos o]
          exact keep (fun _ => o)
        · rw [if_neg o]
          by_cases d : lastsF N q sr j ≤ 0
          · rw [if_pos d]
            exact keep (fun hv => absurd d (hvj.mp hv).2)
          · rw [if_neg d]
            refine ⟨by omega, hvj.mpr ⟨c, d⟩, fun y hy hv => ?_⟩
            rcases Nat.lt_or_ge y j with w | w
            · have := hb.2.2 y w hv
              omega
            · have : y = j := by omega
              subst this
              exact Or.inr ⟨rfl, Nat.le_refl _⟩
      · rw [if_neg c]
        exact keep (fun hv => absurd (hvj.mp hv).1 c)
theorem sub_le {x m : Nat} (hx : x < 2 ^ 31) (hm : m < 2 ^ 31) (h : nI x &&& (nI m ^^^ (-1)) = 0) : x ≤ m := by
  have e : (nI x).toBitVec &&& ~~~ (nI m).toBitVec = 0#32 := by
    rw [← not_bv]
    exact congrArg Int32.toBitVec h
  have ex : (nI x).toBitVec.toNat = x := by
    show x % 2 ^ 32 = x
    exact Nat.mod_eq_of_lt (by omega)
  have em : (nI m).toBitVec.toNat = m := by
    show m % 2 ^ 32 = m
    exact Nat.mod_eq_of_lt (by omega)
  have k : (nI x).toBitVec &&& (nI m).toBitVec = (nI x).toBitVec := by
    apply BitVec.eq_of_getLsbD_eq
    intro i hi
    have h1 := congrArg (fun v => BitVec.getLsbD v i) e
    simp only [BitVec.getLsbD_and, BitVec.getLsbD_not, hi, decide_true, Bool.true_and, BitVec.getLsbD_zero] at h1
    rw [BitVec.getLsbD_and]
    revert h1
    cases (nI x).toBitVec.getLsbD i <;> cases (nI m).toBitVec.getLsbD i <;> simp
  have k2 := congrArg BitVec.toNat k
  rw [BitVec.toNat_and, ex, em] at k2
  rw [← k2]
  exact Nat.and_le_right
/-- the two searches tell the same -/
theorem stop_b {N h : Nat} {a s : Nat → Int32} (h8 : N ≤ 8) (hA : agr (5 + 8 * N) a s) (hs : okR N s) : toO (stopF N h s (mayX s N) ((mayX s N).toNatClampNeg + 1) 0 0) = sO N h a (withL a 7 N 0 (nI 0)) (2 ^ N) (N + 1) 0 ∧ ∀ x, sO N h a (withL a 7 N 0 (nI 0)) (2 ^ N) (N + 1) 0 = some x → x < 256 := by
  have hp : (2 : Nat) ^ N ≤ 256 := pow_8 N (by omega)
  have hV : ∀ x, x < 2 ^ N → ((nI x &&& withL s 7 N 0 (nI 0) = 0 ∧ ¬ lastsF N h s x ≤ 0) ↔ (nI x &&& (mayX s N ^^^ (-1)) = 0 ∧ ¬ lastsF N h s x ≤ 0)) := fun x hx => by rw [may_b h8 hx]
  obtain ⟨M, hM, hM2, eM⟩ := mayX_ix (sr := s) h8
  have hc : (mayX s N).toNatClampNeg = M := by rw [eM]; exact nI_clamp (by omega)
  have h1 := stopF_b (N := N) (q := h) (sr := s) (mx := mayX s N) (V := fun x => nI x &&& withL s 7 N 0 (nI 0) = 0 ∧ ¬ lastsF N h s x ≤ 0) (M := 2 ^ N) hV (M + 1) 0 0 (by omega) (fun y hy => absurd hy (Nat.not_lt_zero y))
  rw [← hc] at h1
  have h2 := sO_b (N := N) (h := h) (a := a) (st := withL a 7 N 0 (nI 0)) (V := fun x => nI x &&& withL s 7 N 0 (nI 0) = 0 ∧ ¬ lastsF N h s x ≤ 0) (M := 2 ^ N) (fun x hx => by rw [with_c hA (by decide) N 0 (nI 0) (by omega), lastx hA hs]) (ones_8 N (by omega)) (N + 1) 0 (by omega) (fun y _ _ => Nat.zero_le _)
  refine ⟨bestX_uni (M := 2 ^ N) ?_ h2, fun x hx => by rw [hx] at h2; have := h2.1; omega⟩
  -- from the sets up to the greatest one to all
  have hle : ∀ y, y < 2 ^ N → (nI y &&& withL s 7 N 0 (nI 0) = 0 ∧ ¬ lastsF N h s y ≤ 0) → y < 0 + ((mayX s N).toNatClampNeg + 1) := fun y hy hv => by
    have h3 := (may_b h8 hy).mpr hv.1
    rw [eM] at h3
    have := sub_le (by omega) (by omega) h3
    omega
  generalize toO (stopF N h s (mayX s N) ((mayX s N).toNatClampNeg + 1) 0 0) = r at h1
  cases r with
  | none => exact fun y hy hv => h1 y (hle y hy hv) hv
  | some x => exact ⟨by have := h1.1; omega, h1.2.1, fun y hy hv => h1.2.2 y (hle y hy hv) hv⟩
